theorem d_R_init_0 : decode prog_6_method_1_code 0 = .ok (.aload_n 0, 1) := by decide +kernel
theorem d_R_init_1 : decode prog_6_method_1_code 1 = .ok (.invokespecial 1, 3) := by decide +kernel
theorem d_R_init_4 : decode prog_6_method_1_code 4 = .ok (.aload_n 0, 1) := by decide +kernel
theorem d_R_init_5 : decode prog_6_method_1_code 5 = .ok (.sipush 2048, 3) := by decide +kernel
theorem d_R_init_8 : decode prog_6_method_1_code 8 = .ok (.newarray .int, 2) := by decide +kernel
theorem d_R_init_10 : decode prog_6_method_1_code 10 = .ok (.putfield 7, 3) := by decide +kernel
theorem d_R_init_13 : decode prog_6_method_1_code 13 = .ok (.aload_n 0, 1) := by decide +kernel
theorem d_R_init_14 : decode prog_6_method_1_code 14 = .ok (.bipush 8, 2) := by decide +kernel
theorem d_R_init_16 : decode prog_6_method_1_code 16 = .ok (.newarray .int, 2) := by decide +kernel
theorem d_R_init_18 : decode prog_6_method_1_code 18 = .ok (.putfield 13, 3) := by decide +kernel
theorem d_R_init_21 : decode prog_6_method_1_code 21 = .ok (.aload_n 0, 1) := by decide +kernel
theorem d_R_init_22 : decode prog_6_method_1_code 22 = .ok (.bipush 8, 2) := by decide +kernel
theorem d_R_init_24 : decode prog_6_method_1_code 24 = .ok (.newarray .int, 2) := by decide +kernel
theorem d_R_init_26 : decode prog_6_method_1_code 26 = .ok (.putfield 16, 3) := by decide +kernel
theorem d_R_init_29 : decode prog_6_method_1_code 29 = .ok (.aload_n 0, 1) := by decide +kernel
theorem d_R_init_30 : decode prog_6_method_1_code 30 = .ok (.bipush 80, 2) := by decide +kernel
theorem d_R_init_32 : decode prog_6_method_1_code 32 = .ok (.newarray .int, 2) := by decide +kernel
theorem d_R_init_34 : decode prog_6_method_1_code 34 = .ok (.putfield 19, 3) := by decide +kernel
theorem d_R_init_37 : decode prog_6_method_1_code 37 = .ok (.aload_n 0, 1) := by decide +kernel
theorem d_R_init_38 : decode prog_6_method_1_code 38 = .ok (.bipush 8, 2) := by decide +kernel
theorem d_R_init_40 : decode prog_6_method_1_code 40 = .ok (.newarray .boolean, 2) := by decide +kernel
theorem d_R_init_42 : decode prog_6_method_1_code 42 = .ok (.putfield 22, 3) := by decide +kernel
theorem d_R_init_45 : decode prog_6_method_1_code 45 = .ok (.aload_n 0, 1) := by decide +kernel
theorem d_R_init_46 : decode prog_6_method_1_code 46 = .ok (.bipush 8, 2) := by decide +kernel
theorem d_R_init_48 : decode prog_6_method_1_code 48 = .ok (.newarray .int, 2) := by decide +kernel
theorem d_R_init_50 : decode prog_6_method_1_code 50 = .ok (.putfield 26, 3) := by decide +kernel
theorem d_R_init_53 : decode prog_6_method_1_code 53 = .ok (.aload_n 0, 1) := by decide +kernel
theorem d_R_init_54 : decode prog_6_method_1_code 54 = .ok (.bipush 8, 2) := by decide +kernel
theorem d_R_init_56 : decode prog_6_method_1_code 56 = .ok (.newarray .int, 2) := by decide +kernel
theorem d_R_init_58 : decode prog_6_method_1_code 58 = .ok (.putfield 29, 3) := by decide +kernel
theorem d_R_init_61 : decode prog_6_method_1_code 61 = .ok (.aload_n 0, 1) := by decide +kernel
theorem d_R_init_62 : decode prog_6_method_1_code 62 = .ok (.bipush 8, 2) := by decide +kernel
theorem d_R_init_64 : decode prog_6_method_1_code 64 = .ok (.newarray .int, 2) := by decide +kernel
theorem d_R_init_66 : decode prog_6_method_1_code 66 = .ok (.putfield 32, 3) := by decide +kernel
theorem d_R_init_69 : decode prog_6_method_1_code 69 = .ok (.aload_n 0, 1) := by decide +kernel
theorem d_R_init_70 : decode prog_6_method_1_code 70 = .ok (.bipush 80, 2) := by decide +kernel
theorem d_R_init_72 : decode prog_6_method_1_code 72 = .ok (.newarray .int, 2) := by decide +kernel
theorem d_R_init_74 : decode prog_6_method_1_code 74 = .ok (.putfield 35, 3) := by decide +kernel
theorem d_R_init_77 : decode prog_6_method_1_code 77 = .ok (.aload_n 0, 1) := by decide +kernel
theorem d_R_init_78 : decode prog_6_method_1_code 78 = .ok (.bipush 16, 2) := by decide +kernel
theorem d_R_init_80 : decode prog_6_method_1_code 80 = .ok (.newarray .int, 2) := by decide +kernel
theorem d_R_init_82 : decode prog_6_method_1_code 82 = .ok (.putfield 38, 3) := by decide +kernel
theorem d_R_init_85 : decode prog_6_method_1_code 85 = .ok (.aload_n 0, 1) := by decide +kernel
theorem d_R_init_86 : decode prog_6_method_1_code 86 = .ok (.bipush 8, 2) := by decide +kernel
theorem d_R_init_88 : decode prog_6_method_1_code 88 = .ok (.newarray .boolean, 2) := by decide +kernel
theorem d_R_init_90 : decode prog_6_method_1_code 90 = .ok (.putfield 41, 3) := by decide +kernel
theorem d_R_init_93 : decode prog_6_method_1_code 93 = .ok (.aload_n 0, 1) := by decide +kernel
theorem d_R_init_94 : decode prog_6_method_1_code 94 = .ok (.iload_n 1, 1) := by decide +kernel
theorem d_R_init_95 : decode prog_6_method_1_code 95 = .ok (.bipush 16, 2) := by decide +kernel
theorem d_R_init_97 : decode prog_6_method_1_code 97 = .ok (.if_icmp .ge 8, 3) := by decide +kernel
theorem d_R_init_100 : decode prog_6_method_1_code 100 = .ok (.bipush 16, 2) := by decide +kernel
theorem d_R_init_102 : decode prog_6_method_1_code 102 = .ok (.goto 17, 3) := by decide +kernel
theorem d_R_init_105 : decode prog_6_method_1_code 105 = .ok (.iload_n 1, 1) := by decide +kernel
theorem d_R_init_106 : decode prog_6_method_1_code 106 = .ok (.sipush 128, 3) := by decide +kernel
theorem d_R_init_109 : decode prog_6_method_1_code 109 = .ok (.if_icmp .le 9, 3) := by decide +kernel
theorem d_R_init_112 : decode prog_6_method_1_code 112 = .ok (.sipush 128, 3) := by decide +kernel
theorem d_R_init_115 : decode prog_6_method_1_code 115 = .ok (.goto 4, 3) := by decide +kernel
theorem d_R_init_118 : decode prog_6_method_1_code 118 = .ok (.iload_n 1, 1) := by decide +kernel
theorem d_R_init_119 : decode prog_6_method_1_code 119 = .ok (.putfield 44, 3) := by decide +kernel
theorem d_R_init_122 : decode prog_6_method_1_code 122 = .ok (.aload_n 0, 1) := by decide +kernel
theorem d_R_init_123 : decode prog_6_method_1_code 123 = .ok (.invokevirtual 48, 3) := by decide +kernel
theorem d_R_init_126 : decode prog_6_method_1_code 126 = .ok (.return_, 1) := by decide +kernel
theorem d_R_step_0 : decode prog_6_method_2_code 0 = .ok (.iload_n 0, 1) := by decide +kernel
theorem d_R_step_1 : decode prog_6_method_2_code 1 = .ok (.sipush 256, 3) := by decide +kernel
theorem d_R_step_4 : decode prog_6_method_2_code 4 = .ok (.iload_n 1, 1) := by decide +kernel
theorem d_R_step_5 : decode prog_6_method_2_code 5 = .ok (.imul, 1) := by decide +kernel
theorem d_R_step_6 : decode prog_6_method_2_code 6 = .ok (.ixor, 1) := by decide +kernel
theorem d_R_step_7 : decode prog_6_method_2_code 7 = .ok (.istore_n 2, 1) := by decide +kernel
theorem d_R_step_8 : decode prog_6_method_2_code 8 = .ok (.iconst 0, 1) := by decide +kernel
theorem d_R_step_9 : decode prog_6_method_2_code 9 = .ok (.istore_n 3, 1) := by decide +kernel
theorem d_R_step_10 : decode prog_6_method_2_code 10 = .ok (.iload_n 3, 1) := by decide +kernel
theorem d_R_step_11 : decode prog_6_method_2_code 11 = .ok (.bipush 8, 2) := by decide +kernel
theorem d_R_step_13 : decode prog_6_method_2_code 13 = .ok (.if_icmp .ge 32, 3) := by decide +kernel
theorem d_R_step_16 : decode prog_6_method_2_code 16 = .ok (.iload_n 2, 1) := by decide +kernel
theorem d_R_step_17 : decode prog_6_method_2_code 17 = .ok (.ldc 51, 2) := by decide +kernel
theorem d_R_step_19 : decode prog_6_method_2_code 19 = .ok (.if_icmp .ge 9, 3) := by decide +kernel
theorem d_R_step_22 : decode prog_6_method_2_code 22 = .ok (.iconst 2, 1) := by decide +kernel
theorem d_R_step_23 : decode prog_6_method_2_code 23 = .ok (.iload_n 2, 1) := by decide +kernel
theorem d_R_step_24 : decode prog_6_method_2_code 24 = .ok (.imul, 1) := by decide +kernel
theorem d_R_step_25 : decode prog_6_method_2_code 25 = .ok (.goto 13, 3) := by decide +kernel
theorem d_R_step_28 : decode prog_6_method_2_code 28 = .ok (.iconst 2, 1) := by decide +kernel
theorem d_R_step_29 : decode prog_6_method_2_code 29 = .ok (.iload_n 2, 1) := by decide +kernel
theorem d_R_step_30 : decode prog_6_method_2_code 30 = .ok (.imul, 1) := by decide +kernel
theorem d_R_step_31 : decode prog_6_method_2_code 31 = .ok (.ldc 52, 2) := by decide +kernel
theorem d_R_step_33 : decode prog_6_method_2_code 33 = .ok (.isub, 1) := by decide +kernel
theorem d_R_step_34 : decode prog_6_method_2_code 34 = .ok (.sipush 4129, 3) := by decide +kernel
theorem d_R_step_37 : decode prog_6_method_2_code 37 = .ok (.ixor, 1) := by decide +kernel
theorem d_R_step_38 : decode prog_6_method_2_code 38 = .ok (.istore_n 2, 1) := by decide +kernel
theorem d_R_step_39 : decode prog_6_method_2_code 39 = .ok (.iinc 3 1, 3) := by decide +kernel
theorem d_R_step_42 : decode prog_6_method_2_code 42 = .ok (.goto (-32), 3) := by decide +kernel
theorem d_R_step_45 : decode prog_6_method_2_code 45 = .ok (.iload_n 2, 1) := by decide +kernel
theorem d_R_step_46 : decode prog_6_method_2_code 46 = .ok (.ireturn, 1) := by decide +kernel
theorem d_R_checkOf_0 : decode prog_6_method_3_code 0 = .ok (.ldc 53, 2) := by decide +kernel
theorem d_R_checkOf_2 : decode prog_6_method_3_code 2 = .ok (.istore_n 2, 1) := by decide +kernel
theorem d_R_checkOf_3 : decode prog_6_method_3_code 3 = .ok (.iconst 0, 1) := by decide +kernel
theorem d_R_checkOf_4 : decode prog_6_method_3_code 4 = .ok (.istore_n 3, 1) := by decide +kernel
theorem d_R_checkOf_5 : decode prog_6_method_3_code 5 = .ok (.iload_n 3, 1) := by decide +kernel
theorem d_R_checkOf_6 : decode prog_6_method_3_code 6 = .ok (.bipush 16, 2) := by decide +kernel
theorem d_R_checkOf_8 : decode prog_6_method_3_code 8 = .ok (.if_icmp .ge 56, 3) := by decide +kernel
theorem d_R_checkOf_11 : decode prog_6_method_3_code 11 = .ok (.aload_n 0, 1) := by decide +kernel
theorem d_R_checkOf_12 : decode prog_6_method_3_code 12 = .ok (.getfield 7, 3) := by decide +kernel
theorem d_R_checkOf_15 : decode prog_6_method_3_code 15 = .ok (.bipush 16, 2) := by decide +kernel
theorem d_R_checkOf_17 : decode prog_6_method_3_code 17 = .ok (.iload_n 1, 1) := by decide +kernel
theorem d_R_checkOf_18 : decode prog_6_method_3_code 18 = .ok (.imul, 1) := by decide +kernel
theorem d_R_checkOf_19 : decode prog_6_method_3_code 19 = .ok (.iload_n 3, 1) := by decide +kernel
theorem d_R_checkOf_20 : decode prog_6_method_3_code 20 = .ok (.iadd, 1) := by decide +kernel
theorem d_R_checkOf_21 : decode prog_6_method_3_code 21 = .ok (.iaload, 1) := by decide +kernel
theorem d_R_checkOf_22 : decode prog_6_method_3_code 22 = .ok (.istore 4, 2) := by decide +kernel
theorem d_R_checkOf_24 : decode prog_6_method_3_code 24 = .ok (.bipush 24, 2) := by decide +kernel
theorem d_R_checkOf_26 : decode prog_6_method_3_code 26 = .ok (.istore 5, 2) := by decide +kernel
theorem d_R_checkOf_28 : decode prog_6_method_3_code 28 = .ok (.iload 5, 2) := by decide +kernel
theorem d_R_checkOf_30 : decode prog_6_method_3_code 30 = .ok (.ifCond .lt 28, 3) := by decide +kernel
theorem d_R_checkOf_33 : decode prog_6_method_3_code 33 = .ok (.iload_n 3, 1) := by decide +kernel
theorem d_R_checkOf_34 : decode prog_6_method_3_code 34 = .ok (.iconst 1, 1) := by decide +kernel
theorem d_R_checkOf_35 : decode prog_6_method_3_code 35 = .ok (.if_icmp .eq 23, 3) := by decide +kernel
theorem d_R_checkOf_38 : decode prog_6_method_3_code 38 = .ok (.iload_n 2, 1) := by decide +kernel
theorem d_R_checkOf_39 : decode prog_6_method_3_code 39 = .ok (.iload 4, 2) := by decide +kernel
theorem d_R_checkOf_41 : decode prog_6_method_3_code 41 = .ok (.iload 5, 2) := by decide +kernel
theorem d_R_checkOf_43 : decode prog_6_method_3_code 43 = .ok (.ishr, 1) := by decide +kernel
theorem d_R_checkOf_44 : decode prog_6_method_3_code 44 = .ok (.sipush 255, 3) := by decide +kernel
theorem d_R_checkOf_47 : decode prog_6_method_3_code 47 = .ok (.iand, 1) := by decide +kernel
theorem d_R_checkOf_48 : decode prog_6_method_3_code 48 = .ok (.invokestatic 54, 3) := by decide +kernel
theorem d_R_checkOf_51 : decode prog_6_method_3_code 51 = .ok (.istore_n 2, 1) := by decide +kernel
theorem d_R_checkOf_52 : decode prog_6_method_3_code 52 = .ok (.iinc 5 (-8), 3) := by decide +kernel
theorem d_R_checkOf_55 : decode prog_6_method_3_code 55 = .ok (.goto (-27), 3) := by decide +kernel
theorem d_R_checkOf_58 : decode prog_6_method_3_code 58 = .ok (.iinc 3 1, 3) := by decide +kernel
theorem d_R_checkOf_61 : decode prog_6_method_3_code 61 = .ok (.goto (-56), 3) := by decide +kernel
theorem d_R_checkOf_64 : decode prog_6_method_3_code 64 = .ok (.iload_n 2, 1) := by decide +kernel
theorem d_R_checkOf_65 : decode prog_6_method_3_code 65 = .ok (.ireturn, 1) := by decide +kernel
theorem d_R_isGood_0 : decode prog_6_method_4_code 0 = .ok (.aload_n 0, 1) := by decide +kernel
theorem d_R_isGood_1 : decode prog_6_method_4_code 1 = .ok (.iload_n 1, 1) := by decide +kernel
theorem d_R_isGood_2 : decode prog_6_method_4_code 2 = .ok (.invokevirtual 58, 3) := by decide +kernel
theorem d_R_isGood_5 : decode prog_6_method_4_code 5 = .ok (.istore_n 2, 1) := by decide +kernel
theorem d_R_isGood_6 : decode prog_6_method_4_code 6 = .ok (.aload_n 0, 1) := by decide +kernel
theorem d_R_isGood_7 : decode prog_6_method_4_code 7 = .ok (.getfield 7, 3) := by decide +kernel
theorem d_R_isGood_10 : decode prog_6_method_4_code 10 = .ok (.bipush 16, 2) := by decide +kernel
theorem d_R_isGood_12 : decode prog_6_method_4_code 12 = .ok (.iload_n 1, 1) := by decide +kernel
theorem d_R_isGood_13 : decode prog_6_method_4_code 13 = .ok (.imul, 1) := by decide +kernel
theorem d_R_isGood_14 : decode prog_6_method_4_code 14 = .ok (.iconst 1, 1) := by decide +kernel
theorem d_R_isGood_15 : decode prog_6_method_4_code 15 = .ok (.iadd, 1) := by decide +kernel
theorem d_R_isGood_16 : decode prog_6_method_4_code 16 = .ok (.iaload, 1) := by decide +kernel
theorem d_R_isGood_17 : decode prog_6_method_4_code 17 = .ok (.iload_n 2, 1) := by decide +kernel
theorem d_R_isGood_18 : decode prog_6_method_4_code 18 = .ok (.if_icmp .ne 7, 3) := by decide +kernel
theorem d_R_isGood_21 : decode prog_6_method_4_code 21 = .ok (.iconst 1, 1) := by decide +kernel
theorem d_R_isGood_22 : decode prog_6_method_4_code 22 = .ok (.goto 4, 3) := by decide +kernel
theorem d_R_isGood_25 : decode prog_6_method_4_code 25 = .ok (.iconst 0, 1) := by decide +kernel
theorem d_R_isGood_26 : decode prog_6_method_4_code 26 = .ok (.ireturn, 1) := by decide +kernel
theorem d_R_isValid_0 : decode prog_6_method_5_code 0 = .ok (.aload_n 0, 1) := by decide +kernel
theorem d_R_isValid_1 : decode prog_6_method_5_code 1 = .ok (.getfield 7, 3) := by decide +kernel
theorem d_R_isValid_4 : decode prog_6_method_5_code 4 = .ok (.bipush 16, 2) := by decide +kernel
theorem d_R_isValid_6 : decode prog_6_method_5_code 6 = .ok (.iload_n 1, 1) := by decide +kernel
theorem d_R_isValid_7 : decode prog_6_method_5_code 7 = .ok (.imul, 1) := by decide +kernel
theorem d_R_isValid_8 : decode prog_6_method_5_code 8 = .ok (.iaload, 1) := by decide +kernel
theorem d_R_isValid_9 : decode prog_6_method_5_code 9 = .ok (.iconst 3, 1) := by decide +kernel
theorem d_R_isValid_10 : decode prog_6_method_5_code 10 = .ok (.if_icmp .ne 11, 3) := by decide +kernel
theorem d_R_isValid_13 : decode prog_6_method_5_code 13 = .ok (.aload_n 0, 1) := by decide +kernel
theorem d_R_isValid_14 : decode prog_6_method_5_code 14 = .ok (.iload_n 1, 1) := by decide +kernel
theorem d_R_isValid_15 : decode prog_6_method_5_code 15 = .ok (.invokevirtual 62, 3) := by decide +kernel
theorem d_R_isValid_18 : decode prog_6_method_5_code 18 = .ok (.ifCond .ne 5, 3) := by decide +kernel
theorem d_R_isValid_21 : decode prog_6_method_5_code 21 = .ok (.iconst 0, 1) := by decide +kernel
theorem d_R_isValid_22 : decode prog_6_method_5_code 22 = .ok (.ireturn, 1) := by decide +kernel
theorem d_R_isValid_23 : decode prog_6_method_5_code 23 = .ok (.iconst 0, 1) := by decide +kernel
theorem d_R_isValid_24 : decode prog_6_method_5_code 24 = .ok (.istore_n 2, 1) := by decide +kernel
theorem d_R_isValid_25 : decode prog_6_method_5_code 25 = .ok (.iload_n 2, 1) := by decide +kernel
theorem d_R_isValid_26 : decode prog_6_method_5_code 26 = .ok (.bipush 8, 2) := by decide +kernel
theorem d_R_isValid_28 : decode prog_6_method_5_code 28 = .ok (.if_icmp .ge 39, 3) := by decide +kernel
theorem d_R_isValid_31 : decode prog_6_method_5_code 31 = .ok (.aload_n 0, 1) := by decide +kernel
theorem d_R_isValid_32 : decode prog_6_method_5_code 32 = .ok (.getfield 7, 3) := by decide +kernel
theorem d_R_isValid_35 : decode prog_6_method_5_code 35 = .ok (.bipush 16, 2) := by decide +kernel
theorem d_R_isValid_37 : decode prog_6_method_5_code 37 = .ok (.iload_n 1, 1) := by decide +kernel
theorem d_R_isValid_38 : decode prog_6_method_5_code 38 = .ok (.imul, 1) := by decide +kernel
theorem d_R_isValid_39 : decode prog_6_method_5_code 39 = .ok (.iconst 4, 1) := by decide +kernel
theorem d_R_isValid_40 : decode prog_6_method_5_code 40 = .ok (.iadd, 1) := by decide +kernel
theorem d_R_isValid_41 : decode prog_6_method_5_code 41 = .ok (.iload_n 2, 1) := by decide +kernel
theorem d_R_isValid_42 : decode prog_6_method_5_code 42 = .ok (.iadd, 1) := by decide +kernel
theorem d_R_isValid_43 : decode prog_6_method_5_code 43 = .ok (.iaload, 1) := by decide +kernel
theorem d_R_isValid_44 : decode prog_6_method_5_code 44 = .ok (.istore_n 3, 1) := by decide +kernel
theorem d_R_isValid_45 : decode prog_6_method_5_code 45 = .ok (.iload_n 3, 1) := by decide +kernel
theorem d_R_isValid_46 : decode prog_6_method_5_code 46 = .ok (.ifCond .le 15, 3) := by decide +kernel
theorem d_R_isValid_49 : decode prog_6_method_5_code 49 = .ok (.aload_n 0, 1) := by decide +kernel
theorem d_R_isValid_50 : decode prog_6_method_5_code 50 = .ok (.iload_n 3, 1) := by decide +kernel
theorem d_R_isValid_51 : decode prog_6_method_5_code 51 = .ok (.iconst 1, 1) := by decide +kernel
theorem d_R_isValid_52 : decode prog_6_method_5_code 52 = .ok (.isub, 1) := by decide +kernel
theorem d_R_isValid_53 : decode prog_6_method_5_code 53 = .ok (.invokevirtual 62, 3) := by decide +kernel
theorem d_R_isValid_56 : decode prog_6_method_5_code 56 = .ok (.ifCond .ne 5, 3) := by decide +kernel
theorem d_R_isValid_59 : decode prog_6_method_5_code 59 = .ok (.iconst 0, 1) := by decide +kernel
theorem d_R_isValid_60 : decode prog_6_method_5_code 60 = .ok (.ireturn, 1) := by decide +kernel
theorem d_R_isValid_61 : decode prog_6_method_5_code 61 = .ok (.iinc 2 1, 3) := by decide +kernel
theorem d_R_isValid_64 : decode prog_6_method_5_code 64 = .ok (.goto (-39), 3) := by decide +kernel
theorem d_R_isValid_67 : decode prog_6_method_5_code 67 = .ok (.iconst 1, 1) := by decide +kernel
theorem d_R_isValid_68 : decode prog_6_method_5_code 68 = .ok (.ireturn, 1) := by decide +kernel
theorem d_R_tableAt_0 : decode prog_6_method_6_code 0 = .ok (.iconst 0, 1) := by decide +kernel
theorem d_R_tableAt_1 : decode prog_6_method_6_code 1 = .ok (.istore_n 2, 1) := by decide +kernel
theorem d_R_tableAt_2 : decode prog_6_method_6_code 2 = .ok (.iconst 0, 1) := by decide +kernel
theorem d_R_tableAt_3 : decode prog_6_method_6_code 3 = .ok (.istore_n 3, 1) := by decide +kernel
theorem d_R_tableAt_4 : decode prog_6_method_6_code 4 = .ok (.iload_n 3, 1) := by decide +kernel
theorem d_R_tableAt_5 : decode prog_6_method_6_code 5 = .ok (.aload_n 0, 1) := by decide +kernel
theorem d_R_tableAt_6 : decode prog_6_method_6_code 6 = .ok (.getfield 66, 3) := by decide +kernel
theorem d_R_tableAt_9 : decode prog_6_method_6_code 9 = .ok (.if_icmp .ge 27, 3) := by decide +kernel
theorem d_R_tableAt_12 : decode prog_6_method_6_code 12 = .ok (.aload_n 0, 1) := by decide +kernel
theorem d_R_tableAt_13 : decode prog_6_method_6_code 13 = .ok (.iload_n 3, 1) := by decide +kernel
theorem d_R_tableAt_14 : decode prog_6_method_6_code 14 = .ok (.invokevirtual 69, 3) := by decide +kernel
theorem d_R_tableAt_17 : decode prog_6_method_6_code 17 = .ok (.ifCond .eq 13, 3) := by decide +kernel
theorem d_R_tableAt_20 : decode prog_6_method_6_code 20 = .ok (.iinc 2 1, 3) := by decide +kernel
theorem d_R_tableAt_23 : decode prog_6_method_6_code 23 = .ok (.iload_n 2, 1) := by decide +kernel
theorem d_R_tableAt_24 : decode prog_6_method_6_code 24 = .ok (.iload_n 1, 1) := by decide +kernel
theorem d_R_tableAt_25 : decode prog_6_method_6_code 25 = .ok (.if_icmp .ne 5, 3) := by decide +kernel
theorem d_R_tableAt_28 : decode prog_6_method_6_code 28 = .ok (.iload_n 3, 1) := by decide +kernel
theorem d_R_tableAt_29 : decode prog_6_method_6_code 29 = .ok (.ireturn, 1) := by decide +kernel
theorem d_R_tableAt_30 : decode prog_6_method_6_code 30 = .ok (.iinc 3 1, 3) := by decide +kernel
theorem d_R_tableAt_33 : decode prog_6_method_6_code 33 = .ok (.goto (-29), 3) := by decide +kernel
theorem d_R_tableAt_36 : decode prog_6_method_6_code 36 = .ok (.iconst (-1), 1) := by decide +kernel
theorem d_R_tableAt_37 : decode prog_6_method_6_code 37 = .ok (.ireturn, 1) := by decide +kernel
theorem d_R_newest_0 : decode prog_6_method_7_code 0 = .ok (.aload_n 0, 1) := by decide +kernel
theorem d_R_newest_1 : decode prog_6_method_7_code 1 = .ok (.getfield 66, 3) := by decide +kernel
theorem d_R_newest_4 : decode prog_6_method_7_code 4 = .ok (.iconst 1, 1) := by decide +kernel
theorem d_R_newest_5 : decode prog_6_method_7_code 5 = .ok (.isub, 1) := by decide +kernel
theorem d_R_newest_6 : decode prog_6_method_7_code 6 = .ok (.istore_n 1, 1) := by decide +kernel
theorem d_R_newest_7 : decode prog_6_method_7_code 7 = .ok (.iload_n 1, 1) := by decide +kernel
theorem d_R_newest_8 : decode prog_6_method_7_code 8 = .ok (.ifCond .lt 19, 3) := by decide +kernel
theorem d_R_newest_11 : decode prog_6_method_7_code 11 = .ok (.aload_n 0, 1) := by decide +kernel
theorem d_R_newest_12 : decode prog_6_method_7_code 12 = .ok (.iload_n 1, 1) := by decide +kernel
theorem d_R_newest_13 : decode prog_6_method_7_code 13 = .ok (.invokevirtual 69, 3) := by decide +kernel
theorem d_R_newest_16 : decode prog_6_method_7_code 16 = .ok (.ifCond .eq 5, 3) := by decide +kernel
theorem d_R_newest_19 : decode prog_6_method_7_code 19 = .ok (.iload_n 1, 1) := by decide +kernel
theorem d_R_newest_20 : decode prog_6_method_7_code 20 = .ok (.ireturn, 1) := by decide +kernel
theorem d_R_newest_21 : decode prog_6_method_7_code 21 = .ok (.iinc 1 (-1), 3) := by decide +kernel
theorem d_R_newest_24 : decode prog_6_method_7_code 24 = .ok (.goto (-17), 3) := by decide +kernel
theorem d_R_newest_27 : decode prog_6_method_7_code 27 = .ok (.iconst (-1), 1) := by decide +kernel
theorem d_R_newest_28 : decode prog_6_method_7_code 28 = .ok (.ireturn, 1) := by decide +kernel
theorem d_R_clearSector_0 : decode prog_6_method_8_code 0 = .ok (.iconst 0, 1) := by decide +kernel
theorem d_R_clearSector_1 : decode prog_6_method_8_code 1 = .ok (.istore_n 3, 1) := by decide +kernel
theorem d_R_clearSector_2 : decode prog_6_method_8_code 2 = .ok (.iload_n 3, 1) := by decide +kernel
theorem d_R_clearSector_3 : decode prog_6_method_8_code 3 = .ok (.bipush 16, 2) := by decide +kernel
theorem d_R_clearSector_5 : decode prog_6_method_8_code 5 = .ok (.if_icmp .ge 16, 3) := by decide +kernel
theorem d_R_clearSector_8 : decode prog_6_method_8_code 8 = .ok (.aload_n 0, 1) := by decide +kernel
theorem d_R_clearSector_9 : decode prog_6_method_8_code 9 = .ok (.getfield 38, 3) := by decide +kernel
theorem d_R_clearSector_12 : decode prog_6_method_8_code 12 = .ok (.iload_n 3, 1) := by decide +kernel
theorem d_R_clearSector_13 : decode prog_6_method_8_code 13 = .ok (.iconst 0, 1) := by decide +kernel
theorem d_R_clearSector_14 : decode prog_6_method_8_code 14 = .ok (.iastore, 1) := by decide +kernel
theorem d_R_clearSector_15 : decode prog_6_method_8_code 15 = .ok (.iinc 3 1, 3) := by decide +kernel
theorem d_R_clearSector_18 : decode prog_6_method_8_code 18 = .ok (.goto (-16), 3) := by decide +kernel
theorem d_R_clearSector_21 : decode prog_6_method_8_code 21 = .ok (.aload_n 0, 1) := by decide +kernel
theorem d_R_clearSector_22 : decode prog_6_method_8_code 22 = .ok (.getfield 38, 3) := by decide +kernel
theorem d_R_clearSector_25 : decode prog_6_method_8_code 25 = .ok (.iconst 0, 1) := by decide +kernel
theorem d_R_clearSector_26 : decode prog_6_method_8_code 26 = .ok (.iload_n 1, 1) := by decide +kernel
theorem d_R_clearSector_27 : decode prog_6_method_8_code 27 = .ok (.iastore, 1) := by decide +kernel
theorem d_R_clearSector_28 : decode prog_6_method_8_code 28 = .ok (.aload_n 0, 1) := by decide +kernel
theorem d_R_clearSector_29 : decode prog_6_method_8_code 29 = .ok (.getfield 38, 3) := by decide +kernel
theorem d_R_clearSector_32 : decode prog_6_method_8_code 32 = .ok (.iconst 2, 1) := by decide +kernel
theorem d_R_clearSector_33 : decode prog_6_method_8_code 33 = .ok (.aload_n 0, 1) := by decide +kernel
theorem d_R_clearSector_34 : decode prog_6_method_8_code 34 = .ok (.getfield 66, 3) := by decide +kernel
theorem d_R_clearSector_37 : decode prog_6_method_8_code 37 = .ok (.iastore, 1) := by decide +kernel
theorem d_R_clearSector_38 : decode prog_6_method_8_code 38 = .ok (.aload_n 0, 1) := by decide +kernel
theorem d_R_clearSector_39 : decode prog_6_method_8_code 39 = .ok (.getfield 38, 3) := by decide +kernel
theorem d_R_clearSector_42 : decode prog_6_method_8_code 42 = .ok (.iconst 3, 1) := by decide +kernel
theorem d_R_clearSector_43 : decode prog_6_method_8_code 43 = .ok (.iload_n 2, 1) := by decide +kernel
theorem d_R_clearSector_44 : decode prog_6_method_8_code 44 = .ok (.iastore, 1) := by decide +kernel
theorem d_R_clearSector_45 : decode prog_6_method_8_code 45 = .ok (.return_, 1) := by decide +kernel
theorem d_R_writeSector_0 : decode prog_6_method_9_code 0 = .ok (.bipush 16, 2) := by decide +kernel
theorem d_R_writeSector_2 : decode prog_6_method_9_code 2 = .ok (.aload_n 0, 1) := by decide +kernel
theorem d_R_writeSector_3 : decode prog_6_method_9_code 3 = .ok (.getfield 66, 3) := by decide +kernel
theorem d_R_writeSector_6 : decode prog_6_method_9_code 6 = .ok (.imul, 1) := by decide +kernel
theorem d_R_writeSector_7 : decode prog_6_method_9_code 7 = .ok (.istore_n 1, 1) := by decide +kernel
theorem d_R_writeSector_8 : decode prog_6_method_9_code 8 = .ok (.iconst 0, 1) := by decide +kernel
theorem d_R_writeSector_9 : decode prog_6_method_9_code 9 = .ok (.istore_n 2, 1) := by decide +kernel
theorem d_R_writeSector_10 : decode prog_6_method_9_code 10 = .ok (.iload_n 2, 1) := by decide +kernel
theorem d_R_writeSector_11 : decode prog_6_method_9_code 11 = .ok (.bipush 16, 2) := by decide +kernel
theorem d_R_writeSector_13 : decode prog_6_method_9_code 13 = .ok (.if_icmp .ge 23, 3) := by decide +kernel
theorem d_R_writeSector_16 : decode prog_6_method_9_code 16 = .ok (.aload_n 0, 1) := by decide +kernel
theorem d_R_writeSector_17 : decode prog_6_method_9_code 17 = .ok (.getfield 7, 3) := by decide +kernel
theorem d_R_writeSector_20 : decode prog_6_method_9_code 20 = .ok (.iload_n 1, 1) := by decide +kernel
theorem d_R_writeSector_21 : decode prog_6_method_9_code 21 = .ok (.iload_n 2, 1) := by decide +kernel
theorem d_R_writeSector_22 : decode prog_6_method_9_code 22 = .ok (.iadd, 1) := by decide +kernel
theorem d_R_writeSector_23 : decode prog_6_method_9_code 23 = .ok (.aload_n 0, 1) := by decide +kernel
theorem d_R_writeSector_24 : decode prog_6_method_9_code 24 = .ok (.getfield 38, 3) := by decide +kernel
theorem d_R_writeSector_27 : decode prog_6_method_9_code 27 = .ok (.iload_n 2, 1) := by decide +kernel
theorem d_R_writeSector_28 : decode prog_6_method_9_code 28 = .ok (.iaload, 1) := by decide +kernel
theorem d_R_writeSector_29 : decode prog_6_method_9_code 29 = .ok (.iastore, 1) := by decide +kernel
theorem d_R_writeSector_30 : decode prog_6_method_9_code 30 = .ok (.iinc 2 1, 3) := by decide +kernel
theorem d_R_writeSector_33 : decode prog_6_method_9_code 33 = .ok (.goto (-23), 3) := by decide +kernel
theorem d_R_writeSector_36 : decode prog_6_method_9_code 36 = .ok (.aload_n 0, 1) := by decide +kernel
theorem d_R_writeSector_37 : decode prog_6_method_9_code 37 = .ok (.getfield 7, 3) := by decide +kernel
theorem d_R_writeSector_40 : decode prog_6_method_9_code 40 = .ok (.iload_n 1, 1) := by decide +kernel
theorem d_R_writeSector_41 : decode prog_6_method_9_code 41 = .ok (.iconst 1, 1) := by decide +kernel
theorem d_R_writeSector_42 : decode prog_6_method_9_code 42 = .ok (.iadd, 1) := by decide +kernel
theorem d_R_writeSector_43 : decode prog_6_method_9_code 43 = .ok (.aload_n 0, 1) := by decide +kernel
theorem d_R_writeSector_44 : decode prog_6_method_9_code 44 = .ok (.aload_n 0, 1) := by decide +kernel
theorem d_R_writeSector_45 : decode prog_6_method_9_code 45 = .ok (.getfield 66, 3) := by decide +kernel
theorem d_R_writeSector_48 : decode prog_6_method_9_code 48 = .ok (.invokevirtual 58, 3) := by decide +kernel
theorem d_R_writeSector_51 : decode prog_6_method_9_code 51 = .ok (.iastore, 1) := by decide +kernel
theorem d_R_writeSector_52 : decode prog_6_method_9_code 52 = .ok (.aload_n 0, 1) := by decide +kernel
theorem d_R_writeSector_53 : decode prog_6_method_9_code 53 = .ok (.getfield 72, 3) := by decide +kernel
theorem d_R_writeSector_56 : decode prog_6_method_9_code 56 = .ok (.ifCond .eq 14, 3) := by decide +kernel
theorem d_R_writeSector_59 : decode prog_6_method_9_code 59 = .ok (.aload_n 0, 1) := by decide +kernel
theorem d_R_writeSector_60 : decode prog_6_method_9_code 60 = .ok (.getfield 76, 3) := by decide +kernel
theorem d_R_writeSector_63 : decode prog_6_method_9_code 63 = .ok (.ifCond .ne 7, 3) := by decide +kernel
theorem d_R_writeSector_66 : decode prog_6_method_9_code 66 = .ok (.iconst 1, 1) := by decide +kernel
theorem d_R_writeSector_67 : decode prog_6_method_9_code 67 = .ok (.goto 4, 3) := by decide +kernel
theorem d_R_writeSector_70 : decode prog_6_method_9_code 70 = .ok (.iconst 0, 1) := by decide +kernel
theorem d_R_writeSector_71 : decode prog_6_method_9_code 71 = .ok (.istore_n 2, 1) := by decide +kernel
theorem d_R_writeSector_72 : decode prog_6_method_9_code 72 = .ok (.iload_n 2, 1) := by decide +kernel
theorem d_R_writeSector_73 : decode prog_6_method_9_code 73 = .ok (.ifCond .eq 21, 3) := by decide +kernel
theorem d_R_writeSector_76 : decode prog_6_method_9_code 76 = .ok (.aload_n 0, 1) := by decide +kernel
theorem d_R_writeSector_77 : decode prog_6_method_9_code 77 = .ok (.getfield 7, 3) := by decide +kernel
theorem d_R_writeSector_80 : decode prog_6_method_9_code 80 = .ok (.iload_n 1, 1) := by decide +kernel
theorem d_R_writeSector_81 : decode prog_6_method_9_code 81 = .ok (.iconst 1, 1) := by decide +kernel
theorem d_R_writeSector_82 : decode prog_6_method_9_code 82 = .ok (.iadd, 1) := by decide +kernel
theorem d_R_writeSector_83 : decode prog_6_method_9_code 83 = .ok (.aload_n 0, 1) := by decide +kernel
theorem d_R_writeSector_84 : decode prog_6_method_9_code 84 = .ok (.getfield 7, 3) := by decide +kernel
theorem d_R_writeSector_87 : decode prog_6_method_9_code 87 = .ok (.iload_n 1, 1) := by decide +kernel
theorem d_R_writeSector_88 : decode prog_6_method_9_code 88 = .ok (.iconst 1, 1) := by decide +kernel
theorem d_R_writeSector_89 : decode prog_6_method_9_code 89 = .ok (.iadd, 1) := by decide +kernel
theorem d_R_writeSector_90 : decode prog_6_method_9_code 90 = .ok (.iaload, 1) := by decide +kernel
theorem d_R_writeSector_91 : decode prog_6_method_9_code 91 = .ok (.iconst 1, 1) := by decide +kernel
theorem d_R_writeSector_92 : decode prog_6_method_9_code 92 = .ok (.ixor, 1) := by decide +kernel
theorem d_R_writeSector_93 : decode prog_6_method_9_code 93 = .ok (.iastore, 1) := by decide +kernel
theorem d_R_writeSector_94 : decode prog_6_method_9_code 94 = .ok (.aload_n 0, 1) := by decide +kernel
theorem d_R_writeSector_95 : decode prog_6_method_9_code 95 = .ok (.dup, 1) := by decide +kernel
theorem d_R_writeSector_96 : decode prog_6_method_9_code 96 = .ok (.getfield 76, 3) := by decide +kernel
theorem d_R_writeSector_99 : decode prog_6_method_9_code 99 = .ok (.iconst 1, 1) := by decide +kernel
theorem d_R_writeSector_100 : decode prog_6_method_9_code 100 = .ok (.isub, 1) := by decide +kernel
theorem d_R_writeSector_101 : decode prog_6_method_9_code 101 = .ok (.putfield 76, 3) := by decide +kernel
theorem d_R_writeSector_104 : decode prog_6_method_9_code 104 = .ok (.aload_n 0, 1) := by decide +kernel
theorem d_R_writeSector_105 : decode prog_6_method_9_code 105 = .ok (.dup, 1) := by decide +kernel
theorem d_R_writeSector_106 : decode prog_6_method_9_code 106 = .ok (.getfield 66, 3) := by decide +kernel
theorem d_R_writeSector_109 : decode prog_6_method_9_code 109 = .ok (.iconst 1, 1) := by decide +kernel
theorem d_R_writeSector_110 : decode prog_6_method_9_code 110 = .ok (.iadd, 1) := by decide +kernel
theorem d_R_writeSector_111 : decode prog_6_method_9_code 111 = .ok (.putfield 66, 3) := by decide +kernel
theorem d_R_writeSector_114 : decode prog_6_method_9_code 114 = .ok (.iload_n 2, 1) := by decide +kernel
theorem d_R_writeSector_115 : decode prog_6_method_9_code 115 = .ok (.ifCond .eq 12, 3) := by decide +kernel
theorem d_R_writeSector_118 : decode prog_6_method_9_code 118 = .ok (.aload_n 0, 1) := by decide +kernel
theorem d_R_writeSector_119 : decode prog_6_method_9_code 119 = .ok (.invokevirtual 79, 3) := by decide +kernel
theorem d_R_writeSector_122 : decode prog_6_method_9_code 122 = .ok (.aload_n 0, 1) := by decide +kernel
theorem d_R_writeSector_123 : decode prog_6_method_9_code 123 = .ok (.iconst 0, 1) := by decide +kernel
theorem d_R_writeSector_124 : decode prog_6_method_9_code 124 = .ok (.putfield 72, 3) := by decide +kernel
theorem d_R_writeSector_127 : decode prog_6_method_9_code 127 = .ok (.iload_n 2, 1) := by decide +kernel
theorem d_R_writeSector_128 : decode prog_6_method_9_code 128 = .ok (.ifCond .ne 7, 3) := by decide +kernel
theorem d_R_writeSector_131 : decode prog_6_method_9_code 131 = .ok (.iconst 1, 1) := by decide +kernel
theorem d_R_writeSector_132 : decode prog_6_method_9_code 132 = .ok (.goto 4, 3) := by decide +kernel
theorem d_R_writeSector_135 : decode prog_6_method_9_code 135 = .ok (.iconst 0, 1) := by decide +kernel
theorem d_R_writeSector_136 : decode prog_6_method_9_code 136 = .ok (.ireturn, 1) := by decide +kernel
theorem d_R_empty_0 : decode prog_6_method_10_code 0 = .ok (.iconst 0, 1) := by decide +kernel
theorem d_R_empty_1 : decode prog_6_method_10_code 1 = .ok (.istore_n 1, 1) := by decide +kernel
theorem d_R_empty_2 : decode prog_6_method_10_code 2 = .ok (.iload_n 1, 1) := by decide +kernel
theorem d_R_empty_3 : decode prog_6_method_10_code 3 = .ok (.bipush 8, 2) := by decide +kernel
theorem d_R_empty_5 : decode prog_6_method_10_code 5 = .ok (.if_icmp .ge 30, 3) := by decide +kernel
theorem d_R_empty_8 : decode prog_6_method_10_code 8 = .ok (.aload_n 0, 1) := by decide +kernel
theorem d_R_empty_9 : decode prog_6_method_10_code 9 = .ok (.getfield 13, 3) := by decide +kernel
theorem d_R_empty_12 : decode prog_6_method_10_code 12 = .ok (.iload_n 1, 1) := by decide +kernel
theorem d_R_empty_13 : decode prog_6_method_10_code 13 = .ok (.iconst 0, 1) := by decide +kernel
theorem d_R_empty_14 : decode prog_6_method_10_code 14 = .ok (.iastore, 1) := by decide +kernel
theorem d_R_empty_15 : decode prog_6_method_10_code 15 = .ok (.aload_n 0, 1) := by decide +kernel
theorem d_R_empty_16 : decode prog_6_method_10_code 16 = .ok (.getfield 16, 3) := by decide +kernel
theorem d_R_empty_19 : decode prog_6_method_10_code 19 = .ok (.iload_n 1, 1) := by decide +kernel
theorem d_R_empty_20 : decode prog_6_method_10_code 20 = .ok (.iconst 0, 1) := by decide +kernel
theorem d_R_empty_21 : decode prog_6_method_10_code 21 = .ok (.iastore, 1) := by decide +kernel
theorem d_R_empty_22 : decode prog_6_method_10_code 22 = .ok (.aload_n 0, 1) := by decide +kernel
theorem d_R_empty_23 : decode prog_6_method_10_code 23 = .ok (.getfield 22, 3) := by decide +kernel
theorem d_R_empty_26 : decode prog_6_method_10_code 26 = .ok (.iload_n 1, 1) := by decide +kernel
theorem d_R_empty_27 : decode prog_6_method_10_code 27 = .ok (.iconst 0, 1) := by decide +kernel
theorem d_R_empty_28 : decode prog_6_method_10_code 28 = .ok (.bastore, 1) := by decide +kernel
theorem d_R_empty_29 : decode prog_6_method_10_code 29 = .ok (.iinc 1 1, 3) := by decide +kernel
theorem d_R_empty_32 : decode prog_6_method_10_code 32 = .ok (.goto (-30), 3) := by decide +kernel
theorem d_R_empty_35 : decode prog_6_method_10_code 35 = .ok (.aload_n 0, 1) := by decide +kernel
theorem d_R_empty_36 : decode prog_6_method_10_code 36 = .ok (.getfield 13, 3) := by decide +kernel
theorem d_R_empty_39 : decode prog_6_method_10_code 39 = .ok (.iconst 0, 1) := by decide +kernel
theorem d_R_empty_40 : decode prog_6_method_10_code 40 = .ok (.iconst 1, 1) := by decide +kernel
theorem d_R_empty_41 : decode prog_6_method_10_code 41 = .ok (.iastore, 1) := by decide +kernel
theorem d_R_empty_42 : decode prog_6_method_10_code 42 = .ok (.aload_n 0, 1) := by decide +kernel
theorem d_R_empty_43 : decode prog_6_method_10_code 43 = .ok (.getfield 22, 3) := by decide +kernel
theorem d_R_empty_46 : decode prog_6_method_10_code 46 = .ok (.iconst 0, 1) := by decide +kernel
theorem d_R_empty_47 : decode prog_6_method_10_code 47 = .ok (.iconst 1, 1) := by decide +kernel
theorem d_R_empty_48 : decode prog_6_method_10_code 48 = .ok (.bastore, 1) := by decide +kernel
theorem d_R_empty_49 : decode prog_6_method_10_code 49 = .ok (.return_, 1) := by decide +kernel
theorem d_R_lookAtTable_0 : decode prog_6_method_11_code 0 = .ok (.iconst 0, 1) := by decide +kernel
theorem d_R_lookAtTable_1 : decode prog_6_method_11_code 1 = .ok (.istore_n 2, 1) := by decide +kernel
theorem d_R_lookAtTable_2 : decode prog_6_method_11_code 2 = .ok (.iload_n 2, 1) := by decide +kernel
theorem d_R_lookAtTable_3 : decode prog_6_method_11_code 3 = .ok (.bipush 8, 2) := by decide +kernel
theorem d_R_lookAtTable_5 : decode prog_6_method_11_code 5 = .ok (.if_icmp .ge 129, 3) := by decide +kernel
theorem d_R_lookAtTable_8 : decode prog_6_method_11_code 8 = .ok (.bipush 16, 2) := by decide +kernel
theorem d_R_lookAtTable_10 : decode prog_6_method_11_code 10 = .ok (.aload_n 0, 1) := by decide +kernel
theorem d_R_lookAtTable_11 : decode prog_6_method_11_code 11 = .ok (.getfield 7, 3) := by decide +kernel
theorem d_R_lookAtTable_14 : decode prog_6_method_11_code 14 = .ok (.bipush 16, 2) := by decide +kernel
theorem d_R_lookAtTable_16 : decode prog_6_method_11_code 16 = .ok (.iload_n 1, 1) := by decide +kernel
theorem d_R_lookAtTable_17 : decode prog_6_method_11_code 17 = .ok (.imul, 1) := by decide +kernel
theorem d_R_lookAtTable_18 : decode prog_6_method_11_code 18 = .ok (.iconst 4, 1) := by decide +kernel
theorem d_R_lookAtTable_19 : decode prog_6_method_11_code 19 = .ok (.iadd, 1) := by decide +kernel
theorem d_R_lookAtTable_20 : decode prog_6_method_11_code 20 = .ok (.iload_n 2, 1) := by decide +kernel
theorem d_R_lookAtTable_21 : decode prog_6_method_11_code 21 = .ok (.iadd, 1) := by decide +kernel
theorem d_R_lookAtTable_22 : decode prog_6_method_11_code 22 = .ok (.iaload, 1) := by decide +kernel
theorem d_R_lookAtTable_23 : decode prog_6_method_11_code 23 = .ok (.iconst 1, 1) := by decide +kernel
theorem d_R_lookAtTable_24 : decode prog_6_method_11_code 24 = .ok (.isub, 1) := by decide +kernel
theorem d_R_lookAtTable_25 : decode prog_6_method_11_code 25 = .ok (.imul, 1) := by decide +kernel
theorem d_R_lookAtTable_26 : decode prog_6_method_11_code 26 = .ok (.istore_n 3, 1) := by decide +kernel
theorem d_R_lookAtTable_27 : decode prog_6_method_11_code 27 = .ok (.iload_n 3, 1) := by decide +kernel
theorem d_R_lookAtTable_28 : decode prog_6_method_11_code 28 = .ok (.ifCond .lt 7, 3) := by decide +kernel
theorem d_R_lookAtTable_31 : decode prog_6_method_11_code 31 = .ok (.iconst 1, 1) := by decide +kernel
theorem d_R_lookAtTable_32 : decode prog_6_method_11_code 32 = .ok (.goto 4, 3) := by decide +kernel
theorem d_R_lookAtTable_35 : decode prog_6_method_11_code 35 = .ok (.iconst 0, 1) := by decide +kernel
theorem d_R_lookAtTable_36 : decode prog_6_method_11_code 36 = .ok (.istore 4, 2) := by decide +kernel
theorem d_R_lookAtTable_38 : decode prog_6_method_11_code 38 = .ok (.aload_n 0, 1) := by decide +kernel
theorem d_R_lookAtTable_39 : decode prog_6_method_11_code 39 = .ok (.getfield 29, 3) := by decide +kernel
theorem d_R_lookAtTable_42 : decode prog_6_method_11_code 42 = .ok (.iload_n 2, 1) := by decide +kernel
theorem d_R_lookAtTable_43 : decode prog_6_method_11_code 43 = .ok (.iload 4, 2) := by decide +kernel
theorem d_R_lookAtTable_45 : decode prog_6_method_11_code 45 = .ok (.ifCond .eq 14, 3) := by decide +kernel
theorem d_R_lookAtTable_48 : decode prog_6_method_11_code 48 = .ok (.aload_n 0, 1) := by decide +kernel
theorem d_R_lookAtTable_49 : decode prog_6_method_11_code 49 = .ok (.getfield 7, 3) := by decide +kernel
theorem d_R_lookAtTable_52 : decode prog_6_method_11_code 52 = .ok (.iload_n 3, 1) := by decide +kernel
theorem d_R_lookAtTable_53 : decode prog_6_method_11_code 53 = .ok (.iconst 4, 1) := by decide +kernel
theorem d_R_lookAtTable_54 : decode prog_6_method_11_code 54 = .ok (.iadd, 1) := by decide +kernel
theorem d_R_lookAtTable_55 : decode prog_6_method_11_code 55 = .ok (.iaload, 1) := by decide +kernel
theorem d_R_lookAtTable_56 : decode prog_6_method_11_code 56 = .ok (.goto 4, 3) := by decide +kernel
theorem d_R_lookAtTable_59 : decode prog_6_method_11_code 59 = .ok (.iconst 0, 1) := by decide +kernel
theorem d_R_lookAtTable_60 : decode prog_6_method_11_code 60 = .ok (.iastore, 1) := by decide +kernel
theorem d_R_lookAtTable_61 : decode prog_6_method_11_code 61 = .ok (.aload_n 0, 1) := by decide +kernel
theorem d_R_lookAtTable_62 : decode prog_6_method_11_code 62 = .ok (.getfield 32, 3) := by decide +kernel
theorem d_R_lookAtTable_65 : decode prog_6_method_11_code 65 = .ok (.iload_n 2, 1) := by decide +kernel
theorem d_R_lookAtTable_66 : decode prog_6_method_11_code 66 = .ok (.iload 4, 2) := by decide +kernel
theorem d_R_lookAtTable_68 : decode prog_6_method_11_code 68 = .ok (.ifCond .eq 14, 3) := by decide +kernel
theorem d_R_lookAtTable_71 : decode prog_6_method_11_code 71 = .ok (.aload_n 0, 1) := by decide +kernel
theorem d_R_lookAtTable_72 : decode prog_6_method_11_code 72 = .ok (.getfield 7, 3) := by decide +kernel
theorem d_R_lookAtTable_75 : decode prog_6_method_11_code 75 = .ok (.iload_n 3, 1) := by decide +kernel
theorem d_R_lookAtTable_76 : decode prog_6_method_11_code 76 = .ok (.iconst 5, 1) := by decide +kernel
theorem d_R_lookAtTable_77 : decode prog_6_method_11_code 77 = .ok (.iadd, 1) := by decide +kernel
theorem d_R_lookAtTable_78 : decode prog_6_method_11_code 78 = .ok (.iaload, 1) := by decide +kernel
theorem d_R_lookAtTable_79 : decode prog_6_method_11_code 79 = .ok (.goto 4, 3) := by decide +kernel
theorem d_R_lookAtTable_82 : decode prog_6_method_11_code 82 = .ok (.iconst 0, 1) := by decide +kernel
theorem d_R_lookAtTable_83 : decode prog_6_method_11_code 83 = .ok (.iastore, 1) := by decide +kernel
theorem d_R_lookAtTable_84 : decode prog_6_method_11_code 84 = .ok (.iconst 0, 1) := by decide +kernel
theorem d_R_lookAtTable_85 : decode prog_6_method_11_code 85 = .ok (.istore 5, 2) := by decide +kernel
theorem d_R_lookAtTable_87 : decode prog_6_method_11_code 87 = .ok (.iload 5, 2) := by decide +kernel
theorem d_R_lookAtTable_89 : decode prog_6_method_11_code 89 = .ok (.aload_n 0, 1) := by decide +kernel
theorem d_R_lookAtTable_90 : decode prog_6_method_11_code 90 = .ok (.getfield 32, 3) := by decide +kernel
theorem d_R_lookAtTable_93 : decode prog_6_method_11_code 93 = .ok (.iload_n 2, 1) := by decide +kernel
theorem d_R_lookAtTable_94 : decode prog_6_method_11_code 94 = .ok (.iaload, 1) := by decide +kernel
theorem d_R_lookAtTable_95 : decode prog_6_method_11_code 95 = .ok (.if_icmp .ge 33, 3) := by decide +kernel
theorem d_R_lookAtTable_98 : decode prog_6_method_11_code 98 = .ok (.aload_n 0, 1) := by decide +kernel
theorem d_R_lookAtTable_99 : decode prog_6_method_11_code 99 = .ok (.getfield 35, 3) := by decide +kernel
theorem d_R_lookAtTable_102 : decode prog_6_method_11_code 102 = .ok (.bipush 10, 2) := by decide +kernel
theorem d_R_lookAtTable_104 : decode prog_6_method_11_code 104 = .ok (.iload_n 2, 1) := by decide +kernel
theorem d_R_lookAtTable_105 : decode prog_6_method_11_code 105 = .ok (.imul, 1) := by decide +kernel
theorem d_R_lookAtTable_106 : decode prog_6_method_11_code 106 = .ok (.iload 5, 2) := by decide +kernel
theorem d_R_lookAtTable_108 : decode prog_6_method_11_code 108 = .ok (.iadd, 1) := by decide +kernel
theorem d_R_lookAtTable_109 : decode prog_6_method_11_code 109 = .ok (.aload_n 0, 1) := by decide +kernel
theorem d_R_lookAtTable_110 : decode prog_6_method_11_code 110 = .ok (.getfield 7, 3) := by decide +kernel
theorem d_R_lookAtTable_113 : decode prog_6_method_11_code 113 = .ok (.iload_n 3, 1) := by decide +kernel
theorem d_R_lookAtTable_114 : decode prog_6_method_11_code 114 = .ok (.bipush 6, 2) := by decide +kernel
theorem d_R_lookAtTable_116 : decode prog_6_method_11_code 116 = .ok (.iadd, 1) := by decide +kernel
theorem d_R_lookAtTable_117 : decode prog_6_method_11_code 117 = .ok (.iload 5, 2) := by decide +kernel
theorem d_R_lookAtTable_119 : decode prog_6_method_11_code 119 = .ok (.iadd, 1) := by decide +kernel
theorem d_R_lookAtTable_120 : decode prog_6_method_11_code 120 = .ok (.iaload, 1) := by decide +kernel
theorem d_R_lookAtTable_121 : decode prog_6_method_11_code 121 = .ok (.iastore, 1) := by decide +kernel
theorem d_R_lookAtTable_122 : decode prog_6_method_11_code 122 = .ok (.iinc 5 1, 3) := by decide +kernel
theorem d_R_lookAtTable_125 : decode prog_6_method_11_code 125 = .ok (.goto (-38), 3) := by decide +kernel
theorem d_R_lookAtTable_128 : decode prog_6_method_11_code 128 = .ok (.iinc 2 1, 3) := by decide +kernel
theorem d_R_lookAtTable_131 : decode prog_6_method_11_code 131 = .ok (.goto (-129), 3) := by decide +kernel
theorem d_R_lookAtTable_134 : decode prog_6_method_11_code 134 = .ok (.return_, 1) := by decide +kernel
theorem d_R_lookAtHand_0 : decode prog_6_method_12_code 0 = .ok (.iconst 0, 1) := by decide +kernel
theorem d_R_lookAtHand_1 : decode prog_6_method_12_code 1 = .ok (.istore_n 1, 1) := by decide +kernel
theorem d_R_lookAtHand_2 : decode prog_6_method_12_code 2 = .ok (.iload_n 1, 1) := by decide +kernel
theorem d_R_lookAtHand_3 : decode prog_6_method_12_code 3 = .ok (.bipush 8, 2) := by decide +kernel
theorem d_R_lookAtHand_5 : decode prog_6_method_12_code 5 = .ok (.if_icmp .ge 33, 3) := by decide +kernel
theorem d_R_lookAtHand_8 : decode prog_6_method_12_code 8 = .ok (.aload_n 0, 1) := by decide +kernel
theorem d_R_lookAtHand_9 : decode prog_6_method_12_code 9 = .ok (.getfield 29, 3) := by decide +kernel
theorem d_R_lookAtHand_12 : decode prog_6_method_12_code 12 = .ok (.iload_n 1, 1) := by decide +kernel
theorem d_R_lookAtHand_13 : decode prog_6_method_12_code 13 = .ok (.aload_n 0, 1) := by decide +kernel
theorem d_R_lookAtHand_14 : decode prog_6_method_12_code 14 = .ok (.getfield 13, 3) := by decide +kernel
theorem d_R_lookAtHand_17 : decode prog_6_method_12_code 17 = .ok (.iload_n 1, 1) := by decide +kernel
theorem d_R_lookAtHand_18 : decode prog_6_method_12_code 18 = .ok (.iaload, 1) := by decide +kernel
theorem d_R_lookAtHand_19 : decode prog_6_method_12_code 19 = .ok (.iastore, 1) := by decide +kernel
theorem d_R_lookAtHand_20 : decode prog_6_method_12_code 20 = .ok (.aload_n 0, 1) := by decide +kernel
theorem d_R_lookAtHand_21 : decode prog_6_method_12_code 21 = .ok (.getfield 32, 3) := by decide +kernel
theorem d_R_lookAtHand_24 : decode prog_6_method_12_code 24 = .ok (.iload_n 1, 1) := by decide +kernel
theorem d_R_lookAtHand_25 : decode prog_6_method_12_code 25 = .ok (.aload_n 0, 1) := by decide +kernel
theorem d_R_lookAtHand_26 : decode prog_6_method_12_code 26 = .ok (.getfield 16, 3) := by decide +kernel
theorem d_R_lookAtHand_29 : decode prog_6_method_12_code 29 = .ok (.iload_n 1, 1) := by decide +kernel
theorem d_R_lookAtHand_30 : decode prog_6_method_12_code 30 = .ok (.iaload, 1) := by decide +kernel
theorem d_R_lookAtHand_31 : decode prog_6_method_12_code 31 = .ok (.iastore, 1) := by decide +kernel
theorem d_R_lookAtHand_32 : decode prog_6_method_12_code 32 = .ok (.iinc 1 1, 3) := by decide +kernel
theorem d_R_lookAtHand_35 : decode prog_6_method_12_code 35 = .ok (.goto (-33), 3) := by decide +kernel
theorem d_R_lookAtHand_38 : decode prog_6_method_12_code 38 = .ok (.iconst 0, 1) := by decide +kernel
theorem d_R_lookAtHand_39 : decode prog_6_method_12_code 39 = .ok (.istore_n 1, 1) := by decide +kernel
theorem d_R_lookAtHand_40 : decode prog_6_method_12_code 40 = .ok (.iload_n 1, 1) := by decide +kernel
theorem d_R_lookAtHand_41 : decode prog_6_method_12_code 41 = .ok (.bipush 80, 2) := by decide +kernel
theorem d_R_lookAtHand_43 : decode prog_6_method_12_code 43 = .ok (.if_icmp .ge 21, 3) := by decide +kernel
theorem d_R_lookAtHand_46 : decode prog_6_method_12_code 46 = .ok (.aload_n 0, 1) := by decide +kernel
theorem d_R_lookAtHand_47 : decode prog_6_method_12_code 47 = .ok (.getfield 35, 3) := by decide +kernel
theorem d_R_lookAtHand_50 : decode prog_6_method_12_code 50 = .ok (.iload_n 1, 1) := by decide +kernel
theorem d_R_lookAtHand_51 : decode prog_6_method_12_code 51 = .ok (.aload_n 0, 1) := by decide +kernel
theorem d_R_lookAtHand_52 : decode prog_6_method_12_code 52 = .ok (.getfield 19, 3) := by decide +kernel
theorem d_R_lookAtHand_55 : decode prog_6_method_12_code 55 = .ok (.iload_n 1, 1) := by decide +kernel
theorem d_R_lookAtHand_56 : decode prog_6_method_12_code 56 = .ok (.iaload, 1) := by decide +kernel
theorem d_R_lookAtHand_57 : decode prog_6_method_12_code 57 = .ok (.iastore, 1) := by decide +kernel
theorem d_R_lookAtHand_58 : decode prog_6_method_12_code 58 = .ok (.iinc 1 1, 3) := by decide +kernel
theorem d_R_lookAtHand_61 : decode prog_6_method_12_code 61 = .ok (.goto (-21), 3) := by decide +kernel
theorem d_R_lookAtHand_64 : decode prog_6_method_12_code 64 = .ok (.return_, 1) := by decide +kernel
theorem d_R_look_0 : decode prog_6_method_13_code 0 = .ok (.iload_n 1, 1) := by decide +kernel
theorem d_R_look_1 : decode prog_6_method_13_code 1 = .ok (.ifCond .ne 9, 3) := by decide +kernel
theorem d_R_look_4 : decode prog_6_method_13_code 4 = .ok (.aload_n 0, 1) := by decide +kernel
theorem d_R_look_5 : decode prog_6_method_13_code 5 = .ok (.invokevirtual 82, 3) := by decide +kernel
theorem d_R_look_8 : decode prog_6_method_13_code 8 = .ok (.iconst 1, 1) := by decide +kernel
theorem d_R_look_9 : decode prog_6_method_13_code 9 = .ok (.ireturn, 1) := by decide +kernel
theorem d_R_look_10 : decode prog_6_method_13_code 10 = .ok (.iload_n 1, 1) := by decide +kernel
theorem d_R_look_11 : decode prog_6_method_13_code 11 = .ok (.ifCond .ge 7, 3) := by decide +kernel
theorem d_R_look_14 : decode prog_6_method_13_code 14 = .ok (.iconst (-1), 1) := by decide +kernel
theorem d_R_look_15 : decode prog_6_method_13_code 15 = .ok (.goto 8, 3) := by decide +kernel
theorem d_R_look_18 : decode prog_6_method_13_code 18 = .ok (.aload_n 0, 1) := by decide +kernel
theorem d_R_look_19 : decode prog_6_method_13_code 19 = .ok (.iload_n 1, 1) := by decide +kernel
theorem d_R_look_20 : decode prog_6_method_13_code 20 = .ok (.invokevirtual 85, 3) := by decide +kernel
theorem d_R_look_23 : decode prog_6_method_13_code 23 = .ok (.istore_n 2, 1) := by decide +kernel
theorem d_R_look_24 : decode prog_6_method_13_code 24 = .ok (.iload_n 2, 1) := by decide +kernel
theorem d_R_look_25 : decode prog_6_method_13_code 25 = .ok (.ifCond .ge 5, 3) := by decide +kernel
theorem d_R_look_28 : decode prog_6_method_13_code 28 = .ok (.iconst 0, 1) := by decide +kernel
theorem d_R_look_29 : decode prog_6_method_13_code 29 = .ok (.ireturn, 1) := by decide +kernel
theorem d_R_look_30 : decode prog_6_method_13_code 30 = .ok (.aload_n 0, 1) := by decide +kernel
theorem d_R_look_31 : decode prog_6_method_13_code 31 = .ok (.iload_n 2, 1) := by decide +kernel
theorem d_R_look_32 : decode prog_6_method_13_code 32 = .ok (.invokevirtual 88, 3) := by decide +kernel
theorem d_R_look_35 : decode prog_6_method_13_code 35 = .ok (.iconst 1, 1) := by decide +kernel
theorem d_R_look_36 : decode prog_6_method_13_code 36 = .ok (.ireturn, 1) := by decide +kernel
theorem d_R_readBack_0 : decode prog_6_method_14_code 0 = .ok (.aload_n 0, 1) := by decide +kernel
theorem d_R_readBack_1 : decode prog_6_method_14_code 1 = .ok (.invokevirtual 92, 3) := by decide +kernel
theorem d_R_readBack_4 : decode prog_6_method_14_code 4 = .ok (.istore_n 1, 1) := by decide +kernel
theorem d_R_readBack_5 : decode prog_6_method_14_code 5 = .ok (.iload_n 1, 1) := by decide +kernel
theorem d_R_readBack_6 : decode prog_6_method_14_code 6 = .ok (.ifCond .ge 8, 3) := by decide +kernel
theorem d_R_readBack_9 : decode prog_6_method_14_code 9 = .ok (.aload_n 0, 1) := by decide +kernel
theorem d_R_readBack_10 : decode prog_6_method_14_code 10 = .ok (.invokevirtual 48, 3) := by decide +kernel
theorem d_R_readBack_13 : decode prog_6_method_14_code 13 = .ok (.return_, 1) := by decide +kernel
theorem d_R_readBack_14 : decode prog_6_method_14_code 14 = .ok (.aload_n 0, 1) := by decide +kernel
theorem d_R_readBack_15 : decode prog_6_method_14_code 15 = .ok (.iload_n 1, 1) := by decide +kernel
theorem d_R_readBack_16 : decode prog_6_method_14_code 16 = .ok (.invokevirtual 88, 3) := by decide +kernel
theorem d_R_readBack_19 : decode prog_6_method_14_code 19 = .ok (.iconst 0, 1) := by decide +kernel
theorem d_R_readBack_20 : decode prog_6_method_14_code 20 = .ok (.istore_n 2, 1) := by decide +kernel
theorem d_R_readBack_21 : decode prog_6_method_14_code 21 = .ok (.iload_n 2, 1) := by decide +kernel
theorem d_R_readBack_22 : decode prog_6_method_14_code 22 = .ok (.bipush 8, 2) := by decide +kernel
theorem d_R_readBack_24 : decode prog_6_method_14_code 24 = .ok (.if_icmp .ge 61, 3) := by decide +kernel
theorem d_R_readBack_27 : decode prog_6_method_14_code 27 = .ok (.aload_n 0, 1) := by decide +kernel
theorem d_R_readBack_28 : decode prog_6_method_14_code 28 = .ok (.getfield 13, 3) := by decide +kernel
theorem d_R_readBack_31 : decode prog_6_method_14_code 31 = .ok (.iload_n 2, 1) := by decide +kernel
theorem d_R_readBack_32 : decode prog_6_method_14_code 32 = .ok (.aload_n 0, 1) := by decide +kernel
theorem d_R_readBack_33 : decode prog_6_method_14_code 33 = .ok (.getfield 29, 3) := by decide +kernel
theorem d_R_readBack_36 : decode prog_6_method_14_code 36 = .ok (.iload_n 2, 1) := by decide +kernel
theorem d_R_readBack_37 : decode prog_6_method_14_code 37 = .ok (.iaload, 1) := by decide +kernel
theorem d_R_readBack_38 : decode prog_6_method_14_code 38 = .ok (.iastore, 1) := by decide +kernel
theorem d_R_readBack_39 : decode prog_6_method_14_code 39 = .ok (.aload_n 0, 1) := by decide +kernel
theorem d_R_readBack_40 : decode prog_6_method_14_code 40 = .ok (.getfield 16, 3) := by decide +kernel
theorem d_R_readBack_43 : decode prog_6_method_14_code 43 = .ok (.iload_n 2, 1) := by decide +kernel
theorem d_R_readBack_44 : decode prog_6_method_14_code 44 = .ok (.aload_n 0, 1) := by decide +kernel
theorem d_R_readBack_45 : decode prog_6_method_14_code 45 = .ok (.getfield 32, 3) := by decide +kernel
theorem d_R_readBack_48 : decode prog_6_method_14_code 48 = .ok (.iload_n 2, 1) := by decide +kernel
theorem d_R_readBack_49 : decode prog_6_method_14_code 49 = .ok (.iaload, 1) := by decide +kernel
theorem d_R_readBack_50 : decode prog_6_method_14_code 50 = .ok (.iastore, 1) := by decide +kernel
theorem d_R_readBack_51 : decode prog_6_method_14_code 51 = .ok (.aload_n 0, 1) := by decide +kernel
theorem d_R_readBack_52 : decode prog_6_method_14_code 52 = .ok (.getfield 22, 3) := by decide +kernel
theorem d_R_readBack_55 : decode prog_6_method_14_code 55 = .ok (.iload_n 2, 1) := by decide +kernel
theorem d_R_readBack_56 : decode prog_6_method_14_code 56 = .ok (.iconst 0, 1) := by decide +kernel
theorem d_R_readBack_57 : decode prog_6_method_14_code 57 = .ok (.bastore, 1) := by decide +kernel
theorem d_R_readBack_58 : decode prog_6_method_14_code 58 = .ok (.aload_n 0, 1) := by decide +kernel
theorem d_R_readBack_59 : decode prog_6_method_14_code 59 = .ok (.getfield 26, 3) := by decide +kernel
theorem d_R_readBack_62 : decode prog_6_method_14_code 62 = .ok (.iload_n 2, 1) := by decide +kernel
theorem d_R_readBack_63 : decode prog_6_method_14_code 63 = .ok (.aload_n 0, 1) := by decide +kernel
theorem d_R_readBack_64 : decode prog_6_method_14_code 64 = .ok (.getfield 7, 3) := by decide +kernel
theorem d_R_readBack_67 : decode prog_6_method_14_code 67 = .ok (.bipush 16, 2) := by decide +kernel
theorem d_R_readBack_69 : decode prog_6_method_14_code 69 = .ok (.iload_n 1, 1) := by decide +kernel
theorem d_R_readBack_70 : decode prog_6_method_14_code 70 = .ok (.imul, 1) := by decide +kernel
theorem d_R_readBack_71 : decode prog_6_method_14_code 71 = .ok (.iconst 4, 1) := by decide +kernel
theorem d_R_readBack_72 : decode prog_6_method_14_code 72 = .ok (.iadd, 1) := by decide +kernel
theorem d_R_readBack_73 : decode prog_6_method_14_code 73 = .ok (.iload_n 2, 1) := by decide +kernel
theorem d_R_readBack_74 : decode prog_6_method_14_code 74 = .ok (.iadd, 1) := by decide +kernel
theorem d_R_readBack_75 : decode prog_6_method_14_code 75 = .ok (.iaload, 1) := by decide +kernel
theorem d_R_readBack_76 : decode prog_6_method_14_code 76 = .ok (.iconst 1, 1) := by decide +kernel
theorem d_R_readBack_77 : decode prog_6_method_14_code 77 = .ok (.isub, 1) := by decide +kernel
theorem d_R_readBack_78 : decode prog_6_method_14_code 78 = .ok (.iastore, 1) := by decide +kernel
theorem d_R_readBack_79 : decode prog_6_method_14_code 79 = .ok (.iinc 2 1, 3) := by decide +kernel
theorem d_R_readBack_82 : decode prog_6_method_14_code 82 = .ok (.goto (-61), 3) := by decide +kernel
theorem d_R_readBack_85 : decode prog_6_method_14_code 85 = .ok (.iconst 0, 1) := by decide +kernel
theorem d_R_readBack_86 : decode prog_6_method_14_code 86 = .ok (.istore_n 2, 1) := by decide +kernel
theorem d_R_readBack_87 : decode prog_6_method_14_code 87 = .ok (.iload_n 2, 1) := by decide +kernel
theorem d_R_readBack_88 : decode prog_6_method_14_code 88 = .ok (.bipush 80, 2) := by decide +kernel
theorem d_R_readBack_90 : decode prog_6_method_14_code 90 = .ok (.if_icmp .ge 21, 3) := by decide +kernel
theorem d_R_readBack_93 : decode prog_6_method_14_code 93 = .ok (.aload_n 0, 1) := by decide +kernel
theorem d_R_readBack_94 : decode prog_6_method_14_code 94 = .ok (.getfield 19, 3) := by decide +kernel
theorem d_R_readBack_97 : decode prog_6_method_14_code 97 = .ok (.iload_n 2, 1) := by decide +kernel
theorem d_R_readBack_98 : decode prog_6_method_14_code 98 = .ok (.aload_n 0, 1) := by decide +kernel
theorem d_R_readBack_99 : decode prog_6_method_14_code 99 = .ok (.getfield 35, 3) := by decide +kernel
theorem d_R_readBack_102 : decode prog_6_method_14_code 102 = .ok (.iload_n 2, 1) := by decide +kernel
theorem d_R_readBack_103 : decode prog_6_method_14_code 103 = .ok (.iaload, 1) := by decide +kernel
theorem d_R_readBack_104 : decode prog_6_method_14_code 104 = .ok (.iastore, 1) := by decide +kernel
theorem d_R_readBack_105 : decode prog_6_method_14_code 105 = .ok (.iinc 2 1, 3) := by decide +kernel
theorem d_R_readBack_108 : decode prog_6_method_14_code 108 = .ok (.goto (-21), 3) := by decide +kernel
theorem d_R_readBack_111 : decode prog_6_method_14_code 111 = .ok (.return_, 1) := by decide +kernel
theorem d_R_isKind_0 : decode prog_6_method_15_code 0 = .ok (.iload_n 1, 1) := by decide +kernel
theorem d_R_isKind_1 : decode prog_6_method_15_code 1 = .ok (.ifCond .lt 23, 3) := by decide +kernel
theorem d_R_isKind_4 : decode prog_6_method_15_code 4 = .ok (.iload_n 1, 1) := by decide +kernel
theorem d_R_isKind_5 : decode prog_6_method_15_code 5 = .ok (.bipush 8, 2) := by decide +kernel
theorem d_R_isKind_7 : decode prog_6_method_15_code 7 = .ok (.if_icmp .ge 17, 3) := by decide +kernel
theorem d_R_isKind_10 : decode prog_6_method_15_code 10 = .ok (.aload_n 0, 1) := by decide +kernel
theorem d_R_isKind_11 : decode prog_6_method_15_code 11 = .ok (.getfield 13, 3) := by decide +kernel
theorem d_R_isKind_14 : decode prog_6_method_15_code 14 = .ok (.iload_n 1, 1) := by decide +kernel
theorem d_R_isKind_15 : decode prog_6_method_15_code 15 = .ok (.iaload, 1) := by decide +kernel
theorem d_R_isKind_16 : decode prog_6_method_15_code 16 = .ok (.iload_n 2, 1) := by decide +kernel
theorem d_R_isKind_17 : decode prog_6_method_15_code 17 = .ok (.if_icmp .ne 7, 3) := by decide +kernel
theorem d_R_isKind_20 : decode prog_6_method_15_code 20 = .ok (.iconst 1, 1) := by decide +kernel
theorem d_R_isKind_21 : decode prog_6_method_15_code 21 = .ok (.goto 4, 3) := by decide +kernel
theorem d_R_isKind_24 : decode prog_6_method_15_code 24 = .ok (.iconst 0, 1) := by decide +kernel
theorem d_R_isKind_25 : decode prog_6_method_15_code 25 = .ok (.ireturn, 1) := by decide +kernel
theorem d_R_itemOf_0 : decode prog_6_method_16_code 0 = .ok (.iconst 0, 1) := by decide +kernel
theorem d_R_itemOf_1 : decode prog_6_method_16_code 1 = .ok (.istore_n 3, 1) := by decide +kernel
theorem d_R_itemOf_2 : decode prog_6_method_16_code 2 = .ok (.iload_n 3, 1) := by decide +kernel
theorem d_R_itemOf_3 : decode prog_6_method_16_code 3 = .ok (.aload_n 0, 1) := by decide +kernel
theorem d_R_itemOf_4 : decode prog_6_method_16_code 4 = .ok (.getfield 16, 3) := by decide +kernel
theorem d_R_itemOf_7 : decode prog_6_method_16_code 7 = .ok (.iload_n 1, 1) := by decide +kernel
theorem d_R_itemOf_8 : decode prog_6_method_16_code 8 = .ok (.iaload, 1) := by decide +kernel
theorem d_R_itemOf_9 : decode prog_6_method_16_code 9 = .ok (.if_icmp .ge 29, 3) := by decide +kernel
theorem d_R_itemOf_12 : decode prog_6_method_16_code 12 = .ok (.aload_n 0, 1) := by decide +kernel
theorem d_R_itemOf_13 : decode prog_6_method_16_code 13 = .ok (.getfield 19, 3) := by decide +kernel
theorem d_R_itemOf_16 : decode prog_6_method_16_code 16 = .ok (.bipush 10, 2) := by decide +kernel
theorem d_R_itemOf_18 : decode prog_6_method_16_code 18 = .ok (.iload_n 1, 1) := by decide +kernel
theorem d_R_itemOf_19 : decode prog_6_method_16_code 19 = .ok (.imul, 1) := by decide +kernel
theorem d_R_itemOf_20 : decode prog_6_method_16_code 20 = .ok (.iload_n 3, 1) := by decide +kernel
theorem d_R_itemOf_21 : decode prog_6_method_16_code 21 = .ok (.iadd, 1) := by decide +kernel
theorem d_R_itemOf_22 : decode prog_6_method_16_code 22 = .ok (.iaload, 1) := by decide +kernel
theorem d_R_itemOf_23 : decode prog_6_method_16_code 23 = .ok (.bipush 16, 2) := by decide +kernel
theorem d_R_itemOf_25 : decode prog_6_method_16_code 25 = .ok (.idiv, 1) := by decide +kernel
theorem d_R_itemOf_26 : decode prog_6_method_16_code 26 = .ok (.iload_n 2, 1) := by decide +kernel
theorem d_R_itemOf_27 : decode prog_6_method_16_code 27 = .ok (.if_icmp .ne 5, 3) := by decide +kernel
theorem d_R_itemOf_30 : decode prog_6_method_16_code 30 = .ok (.iload_n 3, 1) := by decide +kernel
theorem d_R_itemOf_31 : decode prog_6_method_16_code 31 = .ok (.ireturn, 1) := by decide +kernel
theorem d_R_itemOf_32 : decode prog_6_method_16_code 32 = .ok (.iinc 3 1, 3) := by decide +kernel
theorem d_R_itemOf_35 : decode prog_6_method_16_code 35 = .ok (.goto (-33), 3) := by decide +kernel
theorem d_R_itemOf_38 : decode prog_6_method_16_code 38 = .ok (.iconst (-1), 1) := by decide +kernel
theorem d_R_itemOf_39 : decode prog_6_method_16_code 39 = .ok (.ireturn, 1) := by decide +kernel
theorem d_R_take_0 : decode prog_6_method_17_code 0 = .ok (.iload_n 2, 1) := by decide +kernel
theorem d_R_take_1 : decode prog_6_method_17_code 1 = .ok (.istore_n 3, 1) := by decide +kernel
theorem d_R_take_2 : decode prog_6_method_17_code 2 = .ok (.iload_n 3, 1) := by decide +kernel
theorem d_R_take_3 : decode prog_6_method_17_code 3 = .ok (.iconst 1, 1) := by decide +kernel
theorem d_R_take_4 : decode prog_6_method_17_code 4 = .ok (.iadd, 1) := by decide +kernel
theorem d_R_take_5 : decode prog_6_method_17_code 5 = .ok (.aload_n 0, 1) := by decide +kernel
theorem d_R_take_6 : decode prog_6_method_17_code 6 = .ok (.getfield 16, 3) := by decide +kernel
theorem d_R_take_9 : decode prog_6_method_17_code 9 = .ok (.iload_n 1, 1) := by decide +kernel
theorem d_R_take_10 : decode prog_6_method_17_code 10 = .ok (.iaload, 1) := by decide +kernel
theorem d_R_take_11 : decode prog_6_method_17_code 11 = .ok (.if_icmp .ge 33, 3) := by decide +kernel
theorem d_R_take_14 : decode prog_6_method_17_code 14 = .ok (.aload_n 0, 1) := by decide +kernel
theorem d_R_take_15 : decode prog_6_method_17_code 15 = .ok (.getfield 19, 3) := by decide +kernel
theorem d_R_take_18 : decode prog_6_method_17_code 18 = .ok (.bipush 10, 2) := by decide +kernel
theorem d_R_take_20 : decode prog_6_method_17_code 20 = .ok (.iload_n 1, 1) := by decide +kernel
theorem d_R_take_21 : decode prog_6_method_17_code 21 = .ok (.imul, 1) := by decide +kernel
theorem d_R_take_22 : decode prog_6_method_17_code 22 = .ok (.iload_n 3, 1) := by decide +kernel
theorem d_R_take_23 : decode prog_6_method_17_code 23 = .ok (.iadd, 1) := by decide +kernel
theorem d_R_take_24 : decode prog_6_method_17_code 24 = .ok (.aload_n 0, 1) := by decide +kernel
theorem d_R_take_25 : decode prog_6_method_17_code 25 = .ok (.getfield 19, 3) := by decide +kernel
theorem d_R_take_28 : decode prog_6_method_17_code 28 = .ok (.bipush 10, 2) := by decide +kernel
theorem d_R_take_30 : decode prog_6_method_17_code 30 = .ok (.iload_n 1, 1) := by decide +kernel
theorem d_R_take_31 : decode prog_6_method_17_code 31 = .ok (.imul, 1) := by decide +kernel
theorem d_R_take_32 : decode prog_6_method_17_code 32 = .ok (.iload_n 3, 1) := by decide +kernel
theorem d_R_take_33 : decode prog_6_method_17_code 33 = .ok (.iadd, 1) := by decide +kernel
theorem d_R_take_34 : decode prog_6_method_17_code 34 = .ok (.iconst 1, 1) := by decide +kernel
theorem d_R_take_35 : decode prog_6_method_17_code 35 = .ok (.iadd, 1) := by decide +kernel
theorem d_R_take_36 : decode prog_6_method_17_code 36 = .ok (.iaload, 1) := by decide +kernel
theorem d_R_take_37 : decode prog_6_method_17_code 37 = .ok (.iastore, 1) := by decide +kernel
theorem d_R_take_38 : decode prog_6_method_17_code 38 = .ok (.iinc 3 1, 3) := by decide +kernel
theorem d_R_take_41 : decode prog_6_method_17_code 41 = .ok (.goto (-39), 3) := by decide +kernel
theorem d_R_take_44 : decode prog_6_method_17_code 44 = .ok (.aload_n 0, 1) := by decide +kernel
theorem d_R_take_45 : decode prog_6_method_17_code 45 = .ok (.getfield 16, 3) := by decide +kernel
theorem d_R_take_48 : decode prog_6_method_17_code 48 = .ok (.iload_n 1, 1) := by decide +kernel
theorem d_R_take_49 : decode prog_6_method_17_code 49 = .ok (.aload_n 0, 1) := by decide +kernel
theorem d_R_take_50 : decode prog_6_method_17_code 50 = .ok (.getfield 16, 3) := by decide +kernel
theorem d_R_take_53 : decode prog_6_method_17_code 53 = .ok (.iload_n 1, 1) := by decide +kernel
theorem d_R_take_54 : decode prog_6_method_17_code 54 = .ok (.iaload, 1) := by decide +kernel
theorem d_R_take_55 : decode prog_6_method_17_code 55 = .ok (.iconst 1, 1) := by decide +kernel
theorem d_R_take_56 : decode prog_6_method_17_code 56 = .ok (.isub, 1) := by decide +kernel
theorem d_R_take_57 : decode prog_6_method_17_code 57 = .ok (.iastore, 1) := by decide +kernel
theorem d_R_take_58 : decode prog_6_method_17_code 58 = .ok (.aload_n 0, 1) := by decide +kernel
theorem d_R_take_59 : decode prog_6_method_17_code 59 = .ok (.getfield 22, 3) := by decide +kernel
theorem d_R_take_62 : decode prog_6_method_17_code 62 = .ok (.iload_n 1, 1) := by decide +kernel
theorem d_R_take_63 : decode prog_6_method_17_code 63 = .ok (.iconst 1, 1) := by decide +kernel
theorem d_R_take_64 : decode prog_6_method_17_code 64 = .ok (.bastore, 1) := by decide +kernel
theorem d_R_take_65 : decode prog_6_method_17_code 65 = .ok (.return_, 1) := by decide +kernel
theorem d_R_add_0 : decode prog_6_method_18_code 0 = .ok (.aload_n 0, 1) := by decide +kernel
theorem d_R_add_1 : decode prog_6_method_18_code 1 = .ok (.getfield 19, 3) := by decide +kernel
theorem d_R_add_4 : decode prog_6_method_18_code 4 = .ok (.bipush 10, 2) := by decide +kernel
theorem d_R_add_6 : decode prog_6_method_18_code 6 = .ok (.iload_n 1, 1) := by decide +kernel
theorem d_R_add_7 : decode prog_6_method_18_code 7 = .ok (.imul, 1) := by decide +kernel
theorem d_R_add_8 : decode prog_6_method_18_code 8 = .ok (.aload_n 0, 1) := by decide +kernel
theorem d_R_add_9 : decode prog_6_method_18_code 9 = .ok (.getfield 16, 3) := by decide +kernel
theorem d_R_add_12 : decode prog_6_method_18_code 12 = .ok (.iload_n 1, 1) := by decide +kernel
theorem d_R_add_13 : decode prog_6_method_18_code 13 = .ok (.iaload, 1) := by decide +kernel
theorem d_R_add_14 : decode prog_6_method_18_code 14 = .ok (.iadd, 1) := by decide +kernel
theorem d_R_add_15 : decode prog_6_method_18_code 15 = .ok (.iload_n 2, 1) := by decide +kernel
theorem d_R_add_16 : decode prog_6_method_18_code 16 = .ok (.iastore, 1) := by decide +kernel
theorem d_R_add_17 : decode prog_6_method_18_code 17 = .ok (.aload_n 0, 1) := by decide +kernel
theorem d_R_add_18 : decode prog_6_method_18_code 18 = .ok (.getfield 16, 3) := by decide +kernel
theorem d_R_add_21 : decode prog_6_method_18_code 21 = .ok (.iload_n 1, 1) := by decide +kernel
theorem d_R_add_22 : decode prog_6_method_18_code 22 = .ok (.aload_n 0, 1) := by decide +kernel
theorem d_R_add_23 : decode prog_6_method_18_code 23 = .ok (.getfield 16, 3) := by decide +kernel
theorem d_R_add_26 : decode prog_6_method_18_code 26 = .ok (.iload_n 1, 1) := by decide +kernel
theorem d_R_add_27 : decode prog_6_method_18_code 27 = .ok (.iaload, 1) := by decide +kernel
theorem d_R_add_28 : decode prog_6_method_18_code 28 = .ok (.iconst 1, 1) := by decide +kernel
theorem d_R_add_29 : decode prog_6_method_18_code 29 = .ok (.iadd, 1) := by decide +kernel
theorem d_R_add_30 : decode prog_6_method_18_code 30 = .ok (.iastore, 1) := by decide +kernel
theorem d_R_add_31 : decode prog_6_method_18_code 31 = .ok (.aload_n 0, 1) := by decide +kernel
theorem d_R_add_32 : decode prog_6_method_18_code 32 = .ok (.getfield 22, 3) := by decide +kernel
theorem d_R_add_35 : decode prog_6_method_18_code 35 = .ok (.iload_n 1, 1) := by decide +kernel
theorem d_R_add_36 : decode prog_6_method_18_code 36 = .ok (.iconst 1, 1) := by decide +kernel
theorem d_R_add_37 : decode prog_6_method_18_code 37 = .ok (.bastore, 1) := by decide +kernel
theorem d_R_add_38 : decode prog_6_method_18_code 38 = .ok (.return_, 1) := by decide +kernel
theorem d_R_changedWith_0 : decode prog_6_method_19_code 0 = .ok (.iconst 0, 1) := by decide +kernel
theorem d_R_changedWith_1 : decode prog_6_method_19_code 1 = .ok (.istore 4, 2) := by decide +kernel
theorem d_R_changedWith_3 : decode prog_6_method_19_code 3 = .ok (.iconst 0, 1) := by decide +kernel
theorem d_R_changedWith_4 : decode prog_6_method_19_code 4 = .ok (.istore 5, 2) := by decide +kernel
theorem d_R_changedWith_6 : decode prog_6_method_19_code 6 = .ok (.iload 5, 2) := by decide +kernel
theorem d_R_changedWith_8 : decode prog_6_method_19_code 8 = .ok (.bipush 8, 2) := by decide +kernel
theorem d_R_changedWith_10 : decode prog_6_method_19_code 10 = .ok (.if_icmp .ge 60, 3) := by decide +kernel
theorem d_R_changedWith_13 : decode prog_6_method_19_code 13 = .ok (.aload_n 0, 1) := by decide +kernel
theorem d_R_changedWith_14 : decode prog_6_method_19_code 14 = .ok (.getfield 22, 3) := by decide +kernel
theorem d_R_changedWith_17 : decode prog_6_method_19_code 17 = .ok (.iload 5, 2) := by decide +kernel
theorem d_R_changedWith_19 : decode prog_6_method_19_code 19 = .ok (.baload, 1) := by decide +kernel
theorem d_R_changedWith_20 : decode prog_6_method_19_code 20 = .ok (.ifCond .ne 15, 3) := by decide +kernel
theorem d_R_changedWith_23 : decode prog_6_method_19_code 23 = .ok (.iload 5, 2) := by decide +kernel
theorem d_R_changedWith_25 : decode prog_6_method_19_code 25 = .ok (.iload_n 1, 1) := by decide +kernel
theorem d_R_changedWith_26 : decode prog_6_method_19_code 26 = .ok (.if_icmp .eq 9, 3) := by decide +kernel
theorem d_R_changedWith_29 : decode prog_6_method_19_code 29 = .ok (.iload 5, 2) := by decide +kernel
theorem d_R_changedWith_31 : decode prog_6_method_19_code 31 = .ok (.iload_n 2, 1) := by decide +kernel
theorem d_R_changedWith_32 : decode prog_6_method_19_code 32 = .ok (.if_icmp .ne 7, 3) := by decide +kernel
theorem d_R_changedWith_35 : decode prog_6_method_19_code 35 = .ok (.iconst 1, 1) := by decide +kernel
theorem d_R_changedWith_36 : decode prog_6_method_19_code 36 = .ok (.goto 4, 3) := by decide +kernel
theorem d_R_changedWith_39 : decode prog_6_method_19_code 39 = .ok (.iconst 0, 1) := by decide +kernel
theorem d_R_changedWith_40 : decode prog_6_method_19_code 40 = .ok (.istore 6, 2) := by decide +kernel
theorem d_R_changedWith_42 : decode prog_6_method_19_code 42 = .ok (.iload 6, 2) := by decide +kernel
theorem d_R_changedWith_44 : decode prog_6_method_19_code 44 = .ok (.ifCond .eq 16, 3) := by decide +kernel
theorem d_R_changedWith_47 : decode prog_6_method_19_code 47 = .ok (.iload 5, 2) := by decide +kernel
theorem d_R_changedWith_49 : decode prog_6_method_19_code 49 = .ok (.iload_n 3, 1) := by decide +kernel
theorem d_R_changedWith_50 : decode prog_6_method_19_code 50 = .ok (.if_icmp .eq 10, 3) := by decide +kernel
theorem d_R_changedWith_53 : decode prog_6_method_19_code 53 = .ok (.iload 4, 2) := by decide +kernel
theorem d_R_changedWith_55 : decode prog_6_method_19_code 55 = .ok (.iconst 1, 1) := by decide +kernel
theorem d_R_changedWith_56 : decode prog_6_method_19_code 56 = .ok (.iadd, 1) := by decide +kernel
theorem d_R_changedWith_57 : decode prog_6_method_19_code 57 = .ok (.goto 5, 3) := by decide +kernel
theorem d_R_changedWith_60 : decode prog_6_method_19_code 60 = .ok (.iload 4, 2) := by decide +kernel
theorem d_R_changedWith_62 : decode prog_6_method_19_code 62 = .ok (.istore 4, 2) := by decide +kernel
theorem d_R_changedWith_64 : decode prog_6_method_19_code 64 = .ok (.iinc 5 1, 3) := by decide +kernel
theorem d_R_changedWith_67 : decode prog_6_method_19_code 67 = .ok (.goto (-61), 3) := by decide +kernel
theorem d_R_changedWith_70 : decode prog_6_method_19_code 70 = .ok (.iload 4, 2) := by decide +kernel
theorem d_R_changedWith_72 : decode prog_6_method_19_code 72 = .ok (.ireturn, 1) := by decide +kernel
theorem d_R_tooFew_0 : decode prog_6_method_20_code 0 = .ok (.aload_n 0, 1) := by decide +kernel
theorem d_R_tooFew_1 : decode prog_6_method_20_code 1 = .ok (.getfield 44, 3) := by decide +kernel
theorem d_R_tooFew_4 : decode prog_6_method_20_code 4 = .ok (.aload_n 0, 1) := by decide +kernel
theorem d_R_tooFew_5 : decode prog_6_method_20_code 5 = .ok (.getfield 66, 3) := by decide +kernel
theorem d_R_tooFew_8 : decode prog_6_method_20_code 8 = .ok (.isub, 1) := by decide +kernel
theorem d_R_tooFew_9 : decode prog_6_method_20_code 9 = .ok (.iload_n 1, 1) := by decide +kernel
theorem d_R_tooFew_10 : decode prog_6_method_20_code 10 = .ok (.isub, 1) := by decide +kernel
theorem d_R_tooFew_11 : decode prog_6_method_20_code 11 = .ok (.iload_n 2, 1) := by decide +kernel
theorem d_R_tooFew_12 : decode prog_6_method_20_code 12 = .ok (.iconst 1, 1) := by decide +kernel
theorem d_R_tooFew_13 : decode prog_6_method_20_code 13 = .ok (.iadd, 1) := by decide +kernel
theorem d_R_tooFew_14 : decode prog_6_method_20_code 14 = .ok (.if_icmp .ge 7, 3) := by decide +kernel
theorem d_R_tooFew_17 : decode prog_6_method_20_code 17 = .ok (.iconst 1, 1) := by decide +kernel
theorem d_R_tooFew_18 : decode prog_6_method_20_code 18 = .ok (.goto 4, 3) := by decide +kernel
theorem d_R_tooFew_21 : decode prog_6_method_20_code 21 = .ok (.iconst 0, 1) := by decide +kernel
theorem d_R_tooFew_22 : decode prog_6_method_20_code 22 = .ok (.ireturn, 1) := by decide +kernel
theorem d_R_make_0 : decode prog_6_method_21_code 0 = .ok (.aload_n 0, 1) := by decide +kernel
theorem d_R_make_1 : decode prog_6_method_21_code 1 = .ok (.iload_n 1, 1) := by decide +kernel
theorem d_R_make_2 : decode prog_6_method_21_code 2 = .ok (.iconst 1, 1) := by decide +kernel
theorem d_R_make_3 : decode prog_6_method_21_code 3 = .ok (.invokevirtual 96, 3) := by decide +kernel
theorem d_R_make_6 : decode prog_6_method_21_code 6 = .ok (.ifCond .eq 13, 3) := by decide +kernel
theorem d_R_make_9 : decode prog_6_method_21_code 9 = .ok (.iload_n 2, 1) := by decide +kernel
theorem d_R_make_10 : decode prog_6_method_21_code 10 = .ok (.ifCond .lt 9, 3) := by decide +kernel
theorem d_R_make_13 : decode prog_6_method_21_code 13 = .ok (.iload_n 2, 1) := by decide +kernel
theorem d_R_make_14 : decode prog_6_method_21_code 14 = .ok (.bipush 99, 2) := by decide +kernel
theorem d_R_make_16 : decode prog_6_method_21_code 16 = .ok (.if_icmp .le 5, 3) := by decide +kernel
theorem d_R_make_19 : decode prog_6_method_21_code 19 = .ok (.iconst (-1), 1) := by decide +kernel
theorem d_R_make_20 : decode prog_6_method_21_code 20 = .ok (.ireturn, 1) := by decide +kernel
theorem d_R_make_21 : decode prog_6_method_21_code 21 = .ok (.aload_n 0, 1) := by decide +kernel
theorem d_R_make_22 : decode prog_6_method_21_code 22 = .ok (.iload_n 1, 1) := by decide +kernel
theorem d_R_make_23 : decode prog_6_method_21_code 23 = .ok (.iload_n 2, 1) := by decide +kernel
theorem d_R_make_24 : decode prog_6_method_21_code 24 = .ok (.invokevirtual 100, 3) := by decide +kernel
theorem d_R_make_27 : decode prog_6_method_21_code 27 = .ok (.ifCond .lt 6, 3) := by decide +kernel
theorem d_R_make_30 : decode prog_6_method_21_code 30 = .ok (.bipush (-2), 2) := by decide +kernel
theorem d_R_make_32 : decode prog_6_method_21_code 32 = .ok (.ireturn, 1) := by decide +kernel
theorem d_R_make_33 : decode prog_6_method_21_code 33 = .ok (.iconst 0, 1) := by decide +kernel
theorem d_R_make_34 : decode prog_6_method_21_code 34 = .ok (.istore 4, 2) := by decide +kernel
theorem d_R_make_36 : decode prog_6_method_21_code 36 = .ok (.iload 4, 2) := by decide +kernel
theorem d_R_make_38 : decode prog_6_method_21_code 38 = .ok (.bipush 8, 2) := by decide +kernel
theorem d_R_make_40 : decode prog_6_method_21_code 40 = .ok (.if_icmp .ge 19, 3) := by decide +kernel
theorem d_R_make_43 : decode prog_6_method_21_code 43 = .ok (.aload_n 0, 1) := by decide +kernel
theorem d_R_make_44 : decode prog_6_method_21_code 44 = .ok (.getfield 13, 3) := by decide +kernel
theorem d_R_make_47 : decode prog_6_method_21_code 47 = .ok (.iload 4, 2) := by decide +kernel
theorem d_R_make_49 : decode prog_6_method_21_code 49 = .ok (.iaload, 1) := by decide +kernel
theorem d_R_make_50 : decode prog_6_method_21_code 50 = .ok (.ifCond .eq 9, 3) := by decide +kernel
theorem d_R_make_53 : decode prog_6_method_21_code 53 = .ok (.iinc 4 1, 3) := by decide +kernel
theorem d_R_make_56 : decode prog_6_method_21_code 56 = .ok (.goto (-20), 3) := by decide +kernel
theorem d_R_make_59 : decode prog_6_method_21_code 59 = .ok (.iload 4, 2) := by decide +kernel
theorem d_R_make_61 : decode prog_6_method_21_code 61 = .ok (.bipush 8, 2) := by decide +kernel
theorem d_R_make_63 : decode prog_6_method_21_code 63 = .ok (.if_icmp .ne 6, 3) := by decide +kernel
theorem d_R_make_66 : decode prog_6_method_21_code 66 = .ok (.bipush (-3), 2) := by decide +kernel
theorem d_R_make_68 : decode prog_6_method_21_code 68 = .ok (.ireturn, 1) := by decide +kernel
theorem d_R_make_69 : decode prog_6_method_21_code 69 = .ok (.aload_n 0, 1) := by decide +kernel
theorem d_R_make_70 : decode prog_6_method_21_code 70 = .ok (.iload_n 1, 1) := by decide +kernel
theorem d_R_make_71 : decode prog_6_method_21_code 71 = .ok (.iload 4, 2) := by decide +kernel
theorem d_R_make_73 : decode prog_6_method_21_code 73 = .ok (.iconst (-1), 1) := by decide +kernel
theorem d_R_make_74 : decode prog_6_method_21_code 74 = .ok (.invokevirtual 103, 3) := by decide +kernel
theorem d_R_make_77 : decode prog_6_method_21_code 77 = .ok (.istore 5, 2) := by decide +kernel
