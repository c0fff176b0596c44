theorem d_M_init_0 : decode prog_2_method_1_code 0 = .ok (.aload_n 0, 1) := by decide +kernel
theorem d_M_init_1 : decode prog_2_method_1_code 1 = .ok (.invokespecial 3, 3) := by decide +kernel
theorem d_M_init_4 : decode prog_2_method_1_code 4 = .ok (.aload_n 0, 1) := by decide +kernel
theorem d_M_init_5 : decode prog_2_method_1_code 5 = .ok (.iload_n 1, 1) := by decide +kernel
theorem d_M_init_6 : decode prog_2_method_1_code 6 = .ok (.putfield 9, 3) := by decide +kernel
theorem d_M_init_9 : decode prog_2_method_1_code 9 = .ok (.aload_n 0, 1) := by decide +kernel
theorem d_M_init_10 : decode prog_2_method_1_code 10 = .ok (.iload_n 1, 1) := by decide +kernel
theorem d_M_init_11 : decode prog_2_method_1_code 11 = .ok (.bipush 16, 2) := by decide +kernel
theorem d_M_init_13 : decode prog_2_method_1_code 13 = .ok (.imul, 1) := by decide +kernel
theorem d_M_init_14 : decode prog_2_method_1_code 14 = .ok (.newarray .int, 2) := by decide +kernel
theorem d_M_init_16 : decode prog_2_method_1_code 16 = .ok (.putfield 15, 3) := by decide +kernel
theorem d_M_init_19 : decode prog_2_method_1_code 19 = .ok (.aload_n 0, 1) := by decide +kernel
theorem d_M_init_20 : decode prog_2_method_1_code 20 = .ok (.iload_n 1, 1) := by decide +kernel
theorem d_M_init_21 : decode prog_2_method_1_code 21 = .ok (.newarray .int, 2) := by decide +kernel
theorem d_M_init_23 : decode prog_2_method_1_code 23 = .ok (.putfield 19, 3) := by decide +kernel
theorem d_M_init_26 : decode prog_2_method_1_code 26 = .ok (.aload_n 0, 1) := by decide +kernel
theorem d_M_init_27 : decode prog_2_method_1_code 27 = .ok (.iconst 0, 1) := by decide +kernel
theorem d_M_init_28 : decode prog_2_method_1_code 28 = .ok (.putfield 22, 3) := by decide +kernel
theorem d_M_init_31 : decode prog_2_method_1_code 31 = .ok (.aload_n 0, 1) := by decide +kernel
theorem d_M_init_32 : decode prog_2_method_1_code 32 = .ok (.iconst (-1), 1) := by decide +kernel
theorem d_M_init_33 : decode prog_2_method_1_code 33 = .ok (.putfield 25, 3) := by decide +kernel
theorem d_M_init_36 : decode prog_2_method_1_code 36 = .ok (.return_, 1) := by decide +kernel
theorem d_M_unwritten_0 : decode prog_2_method_2_code 0 = .ok (.aload_n 0, 1) := by decide +kernel
theorem d_M_unwritten_1 : decode prog_2_method_2_code 1 = .ok (.getfield 9, 3) := by decide +kernel
theorem d_M_unwritten_4 : decode prog_2_method_2_code 4 = .ok (.aload_n 0, 1) := by decide +kernel
theorem d_M_unwritten_5 : decode prog_2_method_2_code 5 = .ok (.getfield 22, 3) := by decide +kernel
theorem d_M_unwritten_8 : decode prog_2_method_2_code 8 = .ok (.isub, 1) := by decide +kernel
theorem d_M_unwritten_9 : decode prog_2_method_2_code 9 = .ok (.ireturn, 1) := by decide +kernel
theorem d_M_isWritten_0 : decode prog_2_method_3_code 0 = .ok (.iload_n 1, 1) := by decide +kernel
theorem d_M_isWritten_1 : decode prog_2_method_3_code 1 = .ok (.ifCond .lt 15, 3) := by decide +kernel
theorem d_M_isWritten_4 : decode prog_2_method_3_code 4 = .ok (.iload_n 1, 1) := by decide +kernel
theorem d_M_isWritten_5 : decode prog_2_method_3_code 5 = .ok (.aload_n 0, 1) := by decide +kernel
theorem d_M_isWritten_6 : decode prog_2_method_3_code 6 = .ok (.getfield 22, 3) := by decide +kernel
theorem d_M_isWritten_9 : decode prog_2_method_3_code 9 = .ok (.if_icmp .ge 7, 3) := by decide +kernel
theorem d_M_isWritten_12 : decode prog_2_method_3_code 12 = .ok (.iconst 1, 1) := by decide +kernel
theorem d_M_isWritten_13 : decode prog_2_method_3_code 13 = .ok (.goto 4, 3) := by decide +kernel
theorem d_M_isWritten_16 : decode prog_2_method_3_code 16 = .ok (.iconst 0, 1) := by decide +kernel
theorem d_M_isWritten_17 : decode prog_2_method_3_code 17 = .ok (.ireturn, 1) := by decide +kernel
theorem d_M_hasWord_0 : decode prog_2_method_4_code 0 = .ok (.iload_n 1, 1) := by decide +kernel
theorem d_M_hasWord_1 : decode prog_2_method_4_code 1 = .ok (.ifCond .lt 25, 3) := by decide +kernel
theorem d_M_hasWord_4 : decode prog_2_method_4_code 4 = .ok (.iload_n 1, 1) := by decide +kernel
theorem d_M_hasWord_5 : decode prog_2_method_4_code 5 = .ok (.aload_n 0, 1) := by decide +kernel
theorem d_M_hasWord_6 : decode prog_2_method_4_code 6 = .ok (.getfield 9, 3) := by decide +kernel
theorem d_M_hasWord_9 : decode prog_2_method_4_code 9 = .ok (.if_icmp .ge 17, 3) := by decide +kernel
theorem d_M_hasWord_12 : decode prog_2_method_4_code 12 = .ok (.iload_n 2, 1) := by decide +kernel
theorem d_M_hasWord_13 : decode prog_2_method_4_code 13 = .ok (.ifCond .lt 13, 3) := by decide +kernel
theorem d_M_hasWord_16 : decode prog_2_method_4_code 16 = .ok (.iload_n 2, 1) := by decide +kernel
theorem d_M_hasWord_17 : decode prog_2_method_4_code 17 = .ok (.bipush 16, 2) := by decide +kernel
theorem d_M_hasWord_19 : decode prog_2_method_4_code 19 = .ok (.if_icmp .ge 7, 3) := by decide +kernel
theorem d_M_hasWord_22 : decode prog_2_method_4_code 22 = .ok (.iconst 1, 1) := by decide +kernel
theorem d_M_hasWord_23 : decode prog_2_method_4_code 23 = .ok (.goto 4, 3) := by decide +kernel
theorem d_M_hasWord_26 : decode prog_2_method_4_code 26 = .ok (.iconst 0, 1) := by decide +kernel
theorem d_M_hasWord_27 : decode prog_2_method_4_code 27 = .ok (.ireturn, 1) := by decide +kernel
theorem d_M_wordAt_0 : decode prog_2_method_5_code 0 = .ok (.aload_n 0, 1) := by decide +kernel
theorem d_M_wordAt_1 : decode prog_2_method_5_code 1 = .ok (.iload_n 1, 1) := by decide +kernel
theorem d_M_wordAt_2 : decode prog_2_method_5_code 2 = .ok (.iload_n 2, 1) := by decide +kernel
theorem d_M_wordAt_3 : decode prog_2_method_5_code 3 = .ok (.invokevirtual 28, 3) := by decide +kernel
theorem d_M_wordAt_6 : decode prog_2_method_5_code 6 = .ok (.ifCond .eq 17, 3) := by decide +kernel
theorem d_M_wordAt_9 : decode prog_2_method_5_code 9 = .ok (.aload_n 0, 1) := by decide +kernel
theorem d_M_wordAt_10 : decode prog_2_method_5_code 10 = .ok (.getfield 15, 3) := by decide +kernel
theorem d_M_wordAt_13 : decode prog_2_method_5_code 13 = .ok (.iload_n 1, 1) := by decide +kernel
theorem d_M_wordAt_14 : decode prog_2_method_5_code 14 = .ok (.bipush 16, 2) := by decide +kernel
theorem d_M_wordAt_16 : decode prog_2_method_5_code 16 = .ok (.imul, 1) := by decide +kernel
theorem d_M_wordAt_17 : decode prog_2_method_5_code 17 = .ok (.iload_n 2, 1) := by decide +kernel
theorem d_M_wordAt_18 : decode prog_2_method_5_code 18 = .ok (.iadd, 1) := by decide +kernel
theorem d_M_wordAt_19 : decode prog_2_method_5_code 19 = .ok (.iaload, 1) := by decide +kernel
theorem d_M_wordAt_20 : decode prog_2_method_5_code 20 = .ok (.goto 4, 3) := by decide +kernel
theorem d_M_wordAt_23 : decode prog_2_method_5_code 23 = .ok (.iconst 0, 1) := by decide +kernel
theorem d_M_wordAt_24 : decode prog_2_method_5_code 24 = .ok (.ireturn, 1) := by decide +kernel
theorem d_M_isGood_0 : decode prog_2_method_6_code 0 = .ok (.aload_n 0, 1) := by decide +kernel
theorem d_M_isGood_1 : decode prog_2_method_6_code 1 = .ok (.iload_n 1, 1) := by decide +kernel
theorem d_M_isGood_2 : decode prog_2_method_6_code 2 = .ok (.invokevirtual 32, 3) := by decide +kernel
theorem d_M_isGood_5 : decode prog_2_method_6_code 5 = .ok (.ifCond .eq 22, 3) := by decide +kernel
theorem d_M_isGood_8 : decode prog_2_method_6_code 8 = .ok (.aload_n 0, 1) := by decide +kernel
theorem d_M_isGood_9 : decode prog_2_method_6_code 9 = .ok (.iload_n 1, 1) := by decide +kernel
theorem d_M_isGood_10 : decode prog_2_method_6_code 10 = .ok (.iconst 1, 1) := by decide +kernel
theorem d_M_isGood_11 : decode prog_2_method_6_code 11 = .ok (.invokevirtual 36, 3) := by decide +kernel
theorem d_M_isGood_14 : decode prog_2_method_6_code 14 = .ok (.aload_n 0, 1) := by decide +kernel
theorem d_M_isGood_15 : decode prog_2_method_6_code 15 = .ok (.getfield 19, 3) := by decide +kernel
theorem d_M_isGood_18 : decode prog_2_method_6_code 18 = .ok (.iload_n 1, 1) := by decide +kernel
theorem d_M_isGood_19 : decode prog_2_method_6_code 19 = .ok (.iaload, 1) := by decide +kernel
theorem d_M_isGood_20 : decode prog_2_method_6_code 20 = .ok (.if_icmp .ne 7, 3) := by decide +kernel
theorem d_M_isGood_23 : decode prog_2_method_6_code 23 = .ok (.iconst 1, 1) := by decide +kernel
theorem d_M_isGood_24 : decode prog_2_method_6_code 24 = .ok (.goto 4, 3) := by decide +kernel
theorem d_M_isGood_27 : decode prog_2_method_6_code 27 = .ok (.iconst 0, 1) := by decide +kernel
theorem d_M_isGood_28 : decode prog_2_method_6_code 28 = .ok (.ireturn, 1) := by decide +kernel
theorem d_M_flipCheck_0 : decode prog_2_method_7_code 0 = .ok (.aload_n 0, 1) := by decide +kernel
theorem d_M_flipCheck_1 : decode prog_2_method_7_code 1 = .ok (.iload_n 1, 1) := by decide +kernel
theorem d_M_flipCheck_2 : decode prog_2_method_7_code 2 = .ok (.invokevirtual 32, 3) := by decide +kernel
theorem d_M_flipCheck_5 : decode prog_2_method_7_code 5 = .ok (.ifCond .eq 18, 3) := by decide +kernel
theorem d_M_flipCheck_8 : decode prog_2_method_7_code 8 = .ok (.aload_n 0, 1) := by decide +kernel
theorem d_M_flipCheck_9 : decode prog_2_method_7_code 9 = .ok (.getfield 15, 3) := by decide +kernel
theorem d_M_flipCheck_12 : decode prog_2_method_7_code 12 = .ok (.iload_n 1, 1) := by decide +kernel
theorem d_M_flipCheck_13 : decode prog_2_method_7_code 13 = .ok (.bipush 16, 2) := by decide +kernel
theorem d_M_flipCheck_15 : decode prog_2_method_7_code 15 = .ok (.imul, 1) := by decide +kernel
theorem d_M_flipCheck_16 : decode prog_2_method_7_code 16 = .ok (.iconst 1, 1) := by decide +kernel
theorem d_M_flipCheck_17 : decode prog_2_method_7_code 17 = .ok (.iadd, 1) := by decide +kernel
theorem d_M_flipCheck_18 : decode prog_2_method_7_code 18 = .ok (.dup2, 1) := by decide +kernel
theorem d_M_flipCheck_19 : decode prog_2_method_7_code 19 = .ok (.iaload, 1) := by decide +kernel
theorem d_M_flipCheck_20 : decode prog_2_method_7_code 20 = .ok (.iconst 1, 1) := by decide +kernel
theorem d_M_flipCheck_21 : decode prog_2_method_7_code 21 = .ok (.ixor, 1) := by decide +kernel
theorem d_M_flipCheck_22 : decode prog_2_method_7_code 22 = .ok (.iastore, 1) := by decide +kernel
theorem d_M_flipCheck_23 : decode prog_2_method_7_code 23 = .ok (.return_, 1) := by decide +kernel
theorem d_M_begin_0 : decode prog_2_method_8_code 0 = .ok (.aload_n 0, 1) := by decide +kernel
theorem d_M_begin_1 : decode prog_2_method_8_code 1 = .ok (.iconst 0, 1) := by decide +kernel
theorem d_M_begin_2 : decode prog_2_method_8_code 2 = .ok (.iload_n 1, 1) := by decide +kernel
theorem d_M_begin_3 : decode prog_2_method_8_code 3 = .ok (.invokevirtual 40, 3) := by decide +kernel
theorem d_M_begin_6 : decode prog_2_method_8_code 6 = .ok (.aload_n 0, 1) := by decide +kernel
theorem d_M_begin_7 : decode prog_2_method_8_code 7 = .ok (.iconst 2, 1) := by decide +kernel
theorem d_M_begin_8 : decode prog_2_method_8_code 8 = .ok (.aload_n 0, 1) := by decide +kernel
theorem d_M_begin_9 : decode prog_2_method_8_code 9 = .ok (.getfield 22, 3) := by decide +kernel
theorem d_M_begin_12 : decode prog_2_method_8_code 12 = .ok (.invokevirtual 40, 3) := by decide +kernel
theorem d_M_begin_15 : decode prog_2_method_8_code 15 = .ok (.aload_n 0, 1) := by decide +kernel
theorem d_M_begin_16 : decode prog_2_method_8_code 16 = .ok (.iconst 3, 1) := by decide +kernel
theorem d_M_begin_17 : decode prog_2_method_8_code 17 = .ok (.iload_n 2, 1) := by decide +kernel
theorem d_M_begin_18 : decode prog_2_method_8_code 18 = .ok (.invokevirtual 40, 3) := by decide +kernel
theorem d_M_begin_21 : decode prog_2_method_8_code 21 = .ok (.return_, 1) := by decide +kernel
theorem d_M_put_0 : decode prog_2_method_9_code 0 = .ok (.aload_n 0, 1) := by decide +kernel
theorem d_M_put_1 : decode prog_2_method_9_code 1 = .ok (.aload_n 0, 1) := by decide +kernel
theorem d_M_put_2 : decode prog_2_method_9_code 2 = .ok (.getfield 22, 3) := by decide +kernel
theorem d_M_put_5 : decode prog_2_method_9_code 5 = .ok (.iload_n 1, 1) := by decide +kernel
theorem d_M_put_6 : decode prog_2_method_9_code 6 = .ok (.invokevirtual 28, 3) := by decide +kernel
theorem d_M_put_9 : decode prog_2_method_9_code 9 = .ok (.ifCond .eq 18, 3) := by decide +kernel
theorem d_M_put_12 : decode prog_2_method_9_code 12 = .ok (.aload_n 0, 1) := by decide +kernel
theorem d_M_put_13 : decode prog_2_method_9_code 13 = .ok (.getfield 15, 3) := by decide +kernel
theorem d_M_put_16 : decode prog_2_method_9_code 16 = .ok (.aload_n 0, 1) := by decide +kernel
theorem d_M_put_17 : decode prog_2_method_9_code 17 = .ok (.getfield 22, 3) := by decide +kernel
theorem d_M_put_20 : decode prog_2_method_9_code 20 = .ok (.bipush 16, 2) := by decide +kernel
theorem d_M_put_22 : decode prog_2_method_9_code 22 = .ok (.imul, 1) := by decide +kernel
theorem d_M_put_23 : decode prog_2_method_9_code 23 = .ok (.iload_n 1, 1) := by decide +kernel
theorem d_M_put_24 : decode prog_2_method_9_code 24 = .ok (.iadd, 1) := by decide +kernel
theorem d_M_put_25 : decode prog_2_method_9_code 25 = .ok (.iload_n 2, 1) := by decide +kernel
theorem d_M_put_26 : decode prog_2_method_9_code 26 = .ok (.iastore, 1) := by decide +kernel
theorem d_M_put_27 : decode prog_2_method_9_code 27 = .ok (.return_, 1) := by decide +kernel
theorem d_M_finish_0 : decode prog_2_method_10_code 0 = .ok (.aload_n 0, 1) := by decide +kernel
theorem d_M_finish_1 : decode prog_2_method_10_code 1 = .ok (.getfield 22, 3) := by decide +kernel
theorem d_M_finish_4 : decode prog_2_method_10_code 4 = .ok (.aload_n 0, 1) := by decide +kernel
theorem d_M_finish_5 : decode prog_2_method_10_code 5 = .ok (.getfield 9, 3) := by decide +kernel
theorem d_M_finish_8 : decode prog_2_method_10_code 8 = .ok (.if_icmp .lt 5, 3) := by decide +kernel
theorem d_M_finish_11 : decode prog_2_method_10_code 11 = .ok (.iconst 0, 1) := by decide +kernel
theorem d_M_finish_12 : decode prog_2_method_10_code 12 = .ok (.ireturn, 1) := by decide +kernel
theorem d_M_finish_13 : decode prog_2_method_10_code 13 = .ok (.aload_n 0, 1) := by decide +kernel
theorem d_M_finish_14 : decode prog_2_method_10_code 14 = .ok (.getfield 25, 3) := by decide +kernel
theorem d_M_finish_17 : decode prog_2_method_10_code 17 = .ok (.ifCond .ne 7, 3) := by decide +kernel
theorem d_M_finish_20 : decode prog_2_method_10_code 20 = .ok (.iconst 1, 1) := by decide +kernel
theorem d_M_finish_21 : decode prog_2_method_10_code 21 = .ok (.goto 4, 3) := by decide +kernel
theorem d_M_finish_24 : decode prog_2_method_10_code 24 = .ok (.iconst 0, 1) := by decide +kernel
theorem d_M_finish_25 : decode prog_2_method_10_code 25 = .ok (.istore_n 1, 1) := by decide +kernel
theorem d_M_finish_26 : decode prog_2_method_10_code 26 = .ok (.aload_n 0, 1) := by decide +kernel
theorem d_M_finish_27 : decode prog_2_method_10_code 27 = .ok (.aload_n 0, 1) := by decide +kernel
theorem d_M_finish_28 : decode prog_2_method_10_code 28 = .ok (.getfield 22, 3) := by decide +kernel
theorem d_M_finish_31 : decode prog_2_method_10_code 31 = .ok (.invokevirtual 44, 3) := by decide +kernel
theorem d_M_finish_34 : decode prog_2_method_10_code 34 = .ok (.istore_n 2, 1) := by decide +kernel
theorem d_M_finish_35 : decode prog_2_method_10_code 35 = .ok (.aload_n 0, 1) := by decide +kernel
theorem d_M_finish_36 : decode prog_2_method_10_code 36 = .ok (.getfield 19, 3) := by decide +kernel
theorem d_M_finish_39 : decode prog_2_method_10_code 39 = .ok (.aload_n 0, 1) := by decide +kernel
theorem d_M_finish_40 : decode prog_2_method_10_code 40 = .ok (.getfield 22, 3) := by decide +kernel
theorem d_M_finish_43 : decode prog_2_method_10_code 43 = .ok (.iload_n 2, 1) := by decide +kernel
theorem d_M_finish_44 : decode prog_2_method_10_code 44 = .ok (.iastore, 1) := by decide +kernel
theorem d_M_finish_45 : decode prog_2_method_10_code 45 = .ok (.aload_n 0, 1) := by decide +kernel
theorem d_M_finish_46 : decode prog_2_method_10_code 46 = .ok (.iconst 1, 1) := by decide +kernel
theorem d_M_finish_47 : decode prog_2_method_10_code 47 = .ok (.iload_n 1, 1) := by decide +kernel
theorem d_M_finish_48 : decode prog_2_method_10_code 48 = .ok (.ifCond .eq 9, 3) := by decide +kernel
theorem d_M_finish_51 : decode prog_2_method_10_code 51 = .ok (.iload_n 2, 1) := by decide +kernel
theorem d_M_finish_52 : decode prog_2_method_10_code 52 = .ok (.iconst 1, 1) := by decide +kernel
theorem d_M_finish_53 : decode prog_2_method_10_code 53 = .ok (.ixor, 1) := by decide +kernel
theorem d_M_finish_54 : decode prog_2_method_10_code 54 = .ok (.goto 4, 3) := by decide +kernel
theorem d_M_finish_57 : decode prog_2_method_10_code 57 = .ok (.iload_n 2, 1) := by decide +kernel
theorem d_M_finish_58 : decode prog_2_method_10_code 58 = .ok (.invokevirtual 40, 3) := by decide +kernel
theorem d_M_finish_61 : decode prog_2_method_10_code 61 = .ok (.aload_n 0, 1) := by decide +kernel
theorem d_M_finish_62 : decode prog_2_method_10_code 62 = .ok (.dup, 1) := by decide +kernel
theorem d_M_finish_63 : decode prog_2_method_10_code 63 = .ok (.getfield 22, 3) := by decide +kernel
theorem d_M_finish_66 : decode prog_2_method_10_code 66 = .ok (.iconst 1, 1) := by decide +kernel
theorem d_M_finish_67 : decode prog_2_method_10_code 67 = .ok (.iadd, 1) := by decide +kernel
theorem d_M_finish_68 : decode prog_2_method_10_code 68 = .ok (.putfield 22, 3) := by decide +kernel
theorem d_M_finish_71 : decode prog_2_method_10_code 71 = .ok (.aload_n 0, 1) := by decide +kernel
theorem d_M_finish_72 : decode prog_2_method_10_code 72 = .ok (.getfield 25, 3) := by decide +kernel
theorem d_M_finish_75 : decode prog_2_method_10_code 75 = .ok (.iconst (-1), 1) := by decide +kernel
theorem d_M_finish_76 : decode prog_2_method_10_code 76 = .ok (.if_icmp .eq 13, 3) := by decide +kernel
theorem d_M_finish_79 : decode prog_2_method_10_code 79 = .ok (.aload_n 0, 1) := by decide +kernel
theorem d_M_finish_80 : decode prog_2_method_10_code 80 = .ok (.dup, 1) := by decide +kernel
theorem d_M_finish_81 : decode prog_2_method_10_code 81 = .ok (.getfield 25, 3) := by decide +kernel
theorem d_M_finish_84 : decode prog_2_method_10_code 84 = .ok (.iconst 1, 1) := by decide +kernel
theorem d_M_finish_85 : decode prog_2_method_10_code 85 = .ok (.isub, 1) := by decide +kernel
theorem d_M_finish_86 : decode prog_2_method_10_code 86 = .ok (.putfield 25, 3) := by decide +kernel
theorem d_M_finish_89 : decode prog_2_method_10_code 89 = .ok (.iload_n 1, 1) := by decide +kernel
theorem d_M_finish_90 : decode prog_2_method_10_code 90 = .ok (.ifCond .ne 7, 3) := by decide +kernel
theorem d_M_finish_93 : decode prog_2_method_10_code 93 = .ok (.iconst 1, 1) := by decide +kernel
theorem d_M_finish_94 : decode prog_2_method_10_code 94 = .ok (.goto 4, 3) := by decide +kernel
theorem d_M_finish_97 : decode prog_2_method_10_code 97 = .ok (.iconst 0, 1) := by decide +kernel
theorem d_M_finish_98 : decode prog_2_method_10_code 98 = .ok (.ireturn, 1) := by decide +kernel
theorem d_M_checkOf_0 : decode prog_2_method_11_code 0 = .ok (.ldc 48, 2) := by decide +kernel
theorem d_M_checkOf_2 : decode prog_2_method_11_code 2 = .ok (.istore_n 2, 1) := by decide +kernel
theorem d_M_checkOf_3 : decode prog_2_method_11_code 3 = .ok (.iconst 0, 1) := by decide +kernel
theorem d_M_checkOf_4 : decode prog_2_method_11_code 4 = .ok (.istore_n 3, 1) := by decide +kernel
theorem d_M_checkOf_5 : decode prog_2_method_11_code 5 = .ok (.iload_n 3, 1) := by decide +kernel
theorem d_M_checkOf_6 : decode prog_2_method_11_code 6 = .ok (.bipush 16, 2) := by decide +kernel
theorem d_M_checkOf_8 : decode prog_2_method_11_code 8 = .ok (.if_icmp .ge 25, 3) := by decide +kernel
theorem d_M_checkOf_11 : decode prog_2_method_11_code 11 = .ok (.iload_n 3, 1) := by decide +kernel
theorem d_M_checkOf_12 : decode prog_2_method_11_code 12 = .ok (.iconst 1, 1) := by decide +kernel
theorem d_M_checkOf_13 : decode prog_2_method_11_code 13 = .ok (.if_icmp .eq 14, 3) := by decide +kernel
theorem d_M_checkOf_16 : decode prog_2_method_11_code 16 = .ok (.iload_n 2, 1) := by decide +kernel
theorem d_M_checkOf_17 : decode prog_2_method_11_code 17 = .ok (.aload_n 0, 1) := by decide +kernel
theorem d_M_checkOf_18 : decode prog_2_method_11_code 18 = .ok (.iload_n 1, 1) := by decide +kernel
theorem d_M_checkOf_19 : decode prog_2_method_11_code 19 = .ok (.iload_n 3, 1) := by decide +kernel
theorem d_M_checkOf_20 : decode prog_2_method_11_code 20 = .ok (.invokevirtual 36, 3) := by decide +kernel
theorem d_M_checkOf_23 : decode prog_2_method_11_code 23 = .ok (.invokestatic 49, 3) := by decide +kernel
theorem d_M_checkOf_26 : decode prog_2_method_11_code 26 = .ok (.istore_n 2, 1) := by decide +kernel
theorem d_M_checkOf_27 : decode prog_2_method_11_code 27 = .ok (.iinc 3 1, 3) := by decide +kernel
theorem d_M_checkOf_30 : decode prog_2_method_11_code 30 = .ok (.goto (-25), 3) := by decide +kernel
theorem d_M_checkOf_33 : decode prog_2_method_11_code 33 = .ok (.iload_n 2, 1) := by decide +kernel
theorem d_M_checkOf_34 : decode prog_2_method_11_code 34 = .ok (.ireturn, 1) := by decide +kernel
theorem d_M_checkWithWord_0 : decode prog_2_method_12_code 0 = .ok (.iload_n 0, 1) := by decide +kernel
theorem d_M_checkWithWord_1 : decode prog_2_method_12_code 1 = .ok (.istore_n 2, 1) := by decide +kernel
theorem d_M_checkWithWord_2 : decode prog_2_method_12_code 2 = .ok (.bipush 24, 2) := by decide +kernel
theorem d_M_checkWithWord_4 : decode prog_2_method_12_code 4 = .ok (.istore_n 3, 1) := by decide +kernel
theorem d_M_checkWithWord_5 : decode prog_2_method_12_code 5 = .ok (.iload_n 3, 1) := by decide +kernel
theorem d_M_checkWithWord_6 : decode prog_2_method_12_code 6 = .ok (.ifCond .lt 21, 3) := by decide +kernel
theorem d_M_checkWithWord_9 : decode prog_2_method_12_code 9 = .ok (.iload_n 2, 1) := by decide +kernel
theorem d_M_checkWithWord_10 : decode prog_2_method_12_code 10 = .ok (.iload_n 1, 1) := by decide +kernel
theorem d_M_checkWithWord_11 : decode prog_2_method_12_code 11 = .ok (.iload_n 3, 1) := by decide +kernel
theorem d_M_checkWithWord_12 : decode prog_2_method_12_code 12 = .ok (.iushr, 1) := by decide +kernel
theorem d_M_checkWithWord_13 : decode prog_2_method_12_code 13 = .ok (.sipush 255, 3) := by decide +kernel
theorem d_M_checkWithWord_16 : decode prog_2_method_12_code 16 = .ok (.iand, 1) := by decide +kernel
theorem d_M_checkWithWord_17 : decode prog_2_method_12_code 17 = .ok (.invokestatic 52, 3) := by decide +kernel
theorem d_M_checkWithWord_20 : decode prog_2_method_12_code 20 = .ok (.istore_n 2, 1) := by decide +kernel
theorem d_M_checkWithWord_21 : decode prog_2_method_12_code 21 = .ok (.iinc 3 (-8), 3) := by decide +kernel
theorem d_M_checkWithWord_24 : decode prog_2_method_12_code 24 = .ok (.goto (-19), 3) := by decide +kernel
theorem d_M_checkWithWord_27 : decode prog_2_method_12_code 27 = .ok (.iload_n 2, 1) := by decide +kernel
theorem d_M_checkWithWord_28 : decode prog_2_method_12_code 28 = .ok (.ireturn, 1) := by decide +kernel
theorem d_M_checkWithByte_0 : decode prog_2_method_13_code 0 = .ok (.iload_n 0, 1) := by decide +kernel
theorem d_M_checkWithByte_1 : decode prog_2_method_13_code 1 = .ok (.sipush 256, 3) := by decide +kernel
theorem d_M_checkWithByte_4 : decode prog_2_method_13_code 4 = .ok (.iload_n 1, 1) := by decide +kernel
theorem d_M_checkWithByte_5 : decode prog_2_method_13_code 5 = .ok (.imul, 1) := by decide +kernel
theorem d_M_checkWithByte_6 : decode prog_2_method_13_code 6 = .ok (.ixor, 1) := by decide +kernel
theorem d_M_checkWithByte_7 : decode prog_2_method_13_code 7 = .ok (.istore_n 2, 1) := by decide +kernel
theorem d_M_checkWithByte_8 : decode prog_2_method_13_code 8 = .ok (.iconst 0, 1) := by decide +kernel
theorem d_M_checkWithByte_9 : decode prog_2_method_13_code 9 = .ok (.istore_n 3, 1) := by decide +kernel
theorem d_M_checkWithByte_10 : decode prog_2_method_13_code 10 = .ok (.iload_n 3, 1) := by decide +kernel
theorem d_M_checkWithByte_11 : decode prog_2_method_13_code 11 = .ok (.bipush 8, 2) := by decide +kernel
theorem d_M_checkWithByte_13 : decode prog_2_method_13_code 13 = .ok (.if_icmp .ge 32, 3) := by decide +kernel
theorem d_M_checkWithByte_16 : decode prog_2_method_13_code 16 = .ok (.iload_n 2, 1) := by decide +kernel
theorem d_M_checkWithByte_17 : decode prog_2_method_13_code 17 = .ok (.ldc 55, 2) := by decide +kernel
theorem d_M_checkWithByte_19 : decode prog_2_method_13_code 19 = .ok (.if_icmp .ge 9, 3) := by decide +kernel
theorem d_M_checkWithByte_22 : decode prog_2_method_13_code 22 = .ok (.iconst 2, 1) := by decide +kernel
theorem d_M_checkWithByte_23 : decode prog_2_method_13_code 23 = .ok (.iload_n 2, 1) := by decide +kernel
theorem d_M_checkWithByte_24 : decode prog_2_method_13_code 24 = .ok (.imul, 1) := by decide +kernel
theorem d_M_checkWithByte_25 : decode prog_2_method_13_code 25 = .ok (.goto 13, 3) := by decide +kernel
theorem d_M_checkWithByte_28 : decode prog_2_method_13_code 28 = .ok (.iconst 2, 1) := by decide +kernel
theorem d_M_checkWithByte_29 : decode prog_2_method_13_code 29 = .ok (.iload_n 2, 1) := by decide +kernel
theorem d_M_checkWithByte_30 : decode prog_2_method_13_code 30 = .ok (.imul, 1) := by decide +kernel
theorem d_M_checkWithByte_31 : decode prog_2_method_13_code 31 = .ok (.ldc 56, 2) := by decide +kernel
theorem d_M_checkWithByte_33 : decode prog_2_method_13_code 33 = .ok (.isub, 1) := by decide +kernel
theorem d_M_checkWithByte_34 : decode prog_2_method_13_code 34 = .ok (.sipush 4129, 3) := by decide +kernel
theorem d_M_checkWithByte_37 : decode prog_2_method_13_code 37 = .ok (.ixor, 1) := by decide +kernel
theorem d_M_checkWithByte_38 : decode prog_2_method_13_code 38 = .ok (.istore_n 2, 1) := by decide +kernel
theorem d_M_checkWithByte_39 : decode prog_2_method_13_code 39 = .ok (.iinc 3 1, 3) := by decide +kernel
theorem d_M_checkWithByte_42 : decode prog_2_method_13_code 42 = .ok (.goto (-32), 3) := by decide +kernel
theorem d_M_checkWithByte_45 : decode prog_2_method_13_code 45 = .ok (.iload_n 2, 1) := by decide +kernel
theorem d_M_checkWithByte_46 : decode prog_2_method_13_code 46 = .ok (.ireturn, 1) := by decide +kernel
theorem d_N_init_0 : decode prog_3_method_1_code 0 = .ok (.aload_n 0, 1) := by decide +kernel
theorem d_N_init_1 : decode prog_3_method_1_code 1 = .ok (.invokespecial 3, 3) := by decide +kernel
theorem d_N_init_4 : decode prog_3_method_1_code 4 = .ok (.aload_n 0, 1) := by decide +kernel
theorem d_N_init_5 : decode prog_3_method_1_code 5 = .ok (.bipush 10, 2) := by decide +kernel
theorem d_N_init_7 : decode prog_3_method_1_code 7 = .ok (.newarray .int, 2) := by decide +kernel
theorem d_N_init_9 : decode prog_3_method_1_code 9 = .ok (.putfield 9, 3) := by decide +kernel
theorem d_N_init_12 : decode prog_3_method_1_code 12 = .ok (.aload_n 0, 1) := by decide +kernel
theorem d_N_init_13 : decode prog_3_method_1_code 13 = .ok (.iconst 0, 1) := by decide +kernel
theorem d_N_init_14 : decode prog_3_method_1_code 14 = .ok (.putfield 15, 3) := by decide +kernel
theorem d_N_init_17 : decode prog_3_method_1_code 17 = .ok (.aload_n 0, 1) := by decide +kernel
theorem d_N_init_18 : decode prog_3_method_1_code 18 = .ok (.iconst 0, 1) := by decide +kernel
theorem d_N_init_19 : decode prog_3_method_1_code 19 = .ok (.putfield 19, 3) := by decide +kernel
theorem d_N_init_22 : decode prog_3_method_1_code 22 = .ok (.aload_n 0, 1) := by decide +kernel
theorem d_N_init_23 : decode prog_3_method_1_code 23 = .ok (.iconst (-1), 1) := by decide +kernel
theorem d_N_init_24 : decode prog_3_method_1_code 24 = .ok (.putfield 22, 3) := by decide +kernel
theorem d_N_init_27 : decode prog_3_method_1_code 27 = .ok (.aload_n 0, 1) := by decide +kernel
theorem d_N_init_28 : decode prog_3_method_1_code 28 = .ok (.iconst 0, 1) := by decide +kernel
theorem d_N_init_29 : decode prog_3_method_1_code 29 = .ok (.putfield 25, 3) := by decide +kernel
theorem d_N_init_32 : decode prog_3_method_1_code 32 = .ok (.return_, 1) := by decide +kernel
theorem d_N_becomeAbsent_0 : decode prog_3_method_2_code 0 = .ok (.aload_n 0, 1) := by decide +kernel
theorem d_N_becomeAbsent_1 : decode prog_3_method_2_code 1 = .ok (.iconst 0, 1) := by decide +kernel
theorem d_N_becomeAbsent_2 : decode prog_3_method_2_code 2 = .ok (.putfield 15, 3) := by decide +kernel
theorem d_N_becomeAbsent_5 : decode prog_3_method_2_code 5 = .ok (.aload_n 0, 1) := by decide +kernel
theorem d_N_becomeAbsent_6 : decode prog_3_method_2_code 6 = .ok (.iconst 0, 1) := by decide +kernel
theorem d_N_becomeAbsent_7 : decode prog_3_method_2_code 7 = .ok (.putfield 19, 3) := by decide +kernel
theorem d_N_becomeAbsent_10 : decode prog_3_method_2_code 10 = .ok (.aload_n 0, 1) := by decide +kernel
theorem d_N_becomeAbsent_11 : decode prog_3_method_2_code 11 = .ok (.iconst (-1), 1) := by decide +kernel
theorem d_N_becomeAbsent_12 : decode prog_3_method_2_code 12 = .ok (.putfield 22, 3) := by decide +kernel
theorem d_N_becomeAbsent_15 : decode prog_3_method_2_code 15 = .ok (.aload_n 0, 1) := by decide +kernel
theorem d_N_becomeAbsent_16 : decode prog_3_method_2_code 16 = .ok (.iconst 0, 1) := by decide +kernel
theorem d_N_becomeAbsent_17 : decode prog_3_method_2_code 17 = .ok (.putfield 25, 3) := by decide +kernel
theorem d_N_becomeAbsent_20 : decode prog_3_method_2_code 20 = .ok (.return_, 1) := by decide +kernel
theorem d_N_becomeNew_0 : decode prog_3_method_3_code 0 = .ok (.aload_n 0, 1) := by decide +kernel
theorem d_N_becomeNew_1 : decode prog_3_method_3_code 1 = .ok (.iload_n 1, 1) := by decide +kernel
theorem d_N_becomeNew_2 : decode prog_3_method_3_code 2 = .ok (.putfield 15, 3) := by decide +kernel
theorem d_N_becomeNew_5 : decode prog_3_method_3_code 5 = .ok (.aload_n 0, 1) := by decide +kernel
theorem d_N_becomeNew_6 : decode prog_3_method_3_code 6 = .ok (.iconst 0, 1) := by decide +kernel
theorem d_N_becomeNew_7 : decode prog_3_method_3_code 7 = .ok (.putfield 19, 3) := by decide +kernel
theorem d_N_becomeNew_10 : decode prog_3_method_3_code 10 = .ok (.aload_n 0, 1) := by decide +kernel
theorem d_N_becomeNew_11 : decode prog_3_method_3_code 11 = .ok (.iconst (-1), 1) := by decide +kernel
theorem d_N_becomeNew_12 : decode prog_3_method_3_code 12 = .ok (.putfield 22, 3) := by decide +kernel
theorem d_N_becomeNew_15 : decode prog_3_method_3_code 15 = .ok (.aload_n 0, 1) := by decide +kernel
theorem d_N_becomeNew_16 : decode prog_3_method_3_code 16 = .ok (.iconst 1, 1) := by decide +kernel
theorem d_N_becomeNew_17 : decode prog_3_method_3_code 17 = .ok (.putfield 25, 3) := by decide +kernel
theorem d_N_becomeNew_20 : decode prog_3_method_3_code 20 = .ok (.return_, 1) := by decide +kernel
theorem d_N_become_0 : decode prog_3_method_4_code 0 = .ok (.aload_n 0, 1) := by decide +kernel
theorem d_N_become_1 : decode prog_3_method_4_code 1 = .ok (.aload_n 1, 1) := by decide +kernel
theorem d_N_become_2 : decode prog_3_method_4_code 2 = .ok (.iload_n 2, 1) := by decide +kernel
theorem d_N_become_3 : decode prog_3_method_4_code 3 = .ok (.iconst 4, 1) := by decide +kernel
theorem d_N_become_4 : decode prog_3_method_4_code 4 = .ok (.invokevirtual 29, 3) := by decide +kernel
theorem d_N_become_7 : decode prog_3_method_4_code 7 = .ok (.putfield 15, 3) := by decide +kernel
theorem d_N_become_10 : decode prog_3_method_4_code 10 = .ok (.aload_n 0, 1) := by decide +kernel
theorem d_N_become_11 : decode prog_3_method_4_code 11 = .ok (.iconst 0, 1) := by decide +kernel
theorem d_N_become_12 : decode prog_3_method_4_code 12 = .ok (.bipush 10, 2) := by decide +kernel
theorem d_N_become_14 : decode prog_3_method_4_code 14 = .ok (.aload_n 1, 1) := by decide +kernel
theorem d_N_become_15 : decode prog_3_method_4_code 15 = .ok (.iload_n 2, 1) := by decide +kernel
theorem d_N_become_16 : decode prog_3_method_4_code 16 = .ok (.iconst 5, 1) := by decide +kernel
theorem d_N_become_17 : decode prog_3_method_4_code 17 = .ok (.invokevirtual 29, 3) := by decide +kernel
theorem d_N_become_20 : decode prog_3_method_4_code 20 = .ok (.invokestatic 35, 3) := by decide +kernel
theorem d_N_become_23 : decode prog_3_method_4_code 23 = .ok (.invokestatic 40, 3) := by decide +kernel
theorem d_N_become_26 : decode prog_3_method_4_code 26 = .ok (.putfield 19, 3) := by decide +kernel
theorem d_N_become_29 : decode prog_3_method_4_code 29 = .ok (.iconst 0, 1) := by decide +kernel
theorem d_N_become_30 : decode prog_3_method_4_code 30 = .ok (.istore_n 3, 1) := by decide +kernel
theorem d_N_become_31 : decode prog_3_method_4_code 31 = .ok (.iload_n 3, 1) := by decide +kernel
theorem d_N_become_32 : decode prog_3_method_4_code 32 = .ok (.aload_n 0, 1) := by decide +kernel
theorem d_N_become_33 : decode prog_3_method_4_code 33 = .ok (.getfield 19, 3) := by decide +kernel
theorem d_N_become_36 : decode prog_3_method_4_code 36 = .ok (.if_icmp .ge 24, 3) := by decide +kernel
theorem d_N_become_39 : decode prog_3_method_4_code 39 = .ok (.aload_n 0, 1) := by decide +kernel
theorem d_N_become_40 : decode prog_3_method_4_code 40 = .ok (.getfield 9, 3) := by decide +kernel
theorem d_N_become_43 : decode prog_3_method_4_code 43 = .ok (.iload_n 3, 1) := by decide +kernel
theorem d_N_become_44 : decode prog_3_method_4_code 44 = .ok (.aload_n 1, 1) := by decide +kernel
theorem d_N_become_45 : decode prog_3_method_4_code 45 = .ok (.iload_n 2, 1) := by decide +kernel
theorem d_N_become_46 : decode prog_3_method_4_code 46 = .ok (.bipush 6, 2) := by decide +kernel
theorem d_N_become_48 : decode prog_3_method_4_code 48 = .ok (.iload_n 3, 1) := by decide +kernel
theorem d_N_become_49 : decode prog_3_method_4_code 49 = .ok (.iadd, 1) := by decide +kernel
theorem d_N_become_50 : decode prog_3_method_4_code 50 = .ok (.invokevirtual 29, 3) := by decide +kernel
theorem d_N_become_53 : decode prog_3_method_4_code 53 = .ok (.iastore, 1) := by decide +kernel
theorem d_N_become_54 : decode prog_3_method_4_code 54 = .ok (.iinc 3 1, 3) := by decide +kernel
theorem d_N_become_57 : decode prog_3_method_4_code 57 = .ok (.goto (-26), 3) := by decide +kernel
theorem d_N_become_60 : decode prog_3_method_4_code 60 = .ok (.aload_n 0, 1) := by decide +kernel
theorem d_N_become_61 : decode prog_3_method_4_code 61 = .ok (.iload_n 2, 1) := by decide +kernel
theorem d_N_become_62 : decode prog_3_method_4_code 62 = .ok (.putfield 22, 3) := by decide +kernel
theorem d_N_become_65 : decode prog_3_method_4_code 65 = .ok (.aload_n 0, 1) := by decide +kernel
theorem d_N_become_66 : decode prog_3_method_4_code 66 = .ok (.iconst 0, 1) := by decide +kernel
theorem d_N_become_67 : decode prog_3_method_4_code 67 = .ok (.putfield 25, 3) := by decide +kernel
theorem d_N_become_70 : decode prog_3_method_4_code 70 = .ok (.return_, 1) := by decide +kernel
theorem d_N_ifUnchanged_0 : decode prog_3_method_5_code 0 = .ok (.aload_n 0, 1) := by decide +kernel
theorem d_N_ifUnchanged_1 : decode prog_3_method_5_code 1 = .ok (.getfield 25, 3) := by decide +kernel
theorem d_N_ifUnchanged_4 : decode prog_3_method_5_code 4 = .ok (.ifCond .eq 7, 3) := by decide +kernel
theorem d_N_ifUnchanged_7 : decode prog_3_method_5_code 7 = .ok (.iconst 0, 1) := by decide +kernel
theorem d_N_ifUnchanged_8 : decode prog_3_method_5_code 8 = .ok (.goto 4, 3) := by decide +kernel
theorem d_N_ifUnchanged_11 : decode prog_3_method_5_code 11 = .ok (.iconst 1, 1) := by decide +kernel
theorem d_N_ifUnchanged_12 : decode prog_3_method_5_code 12 = .ok (.ireturn, 1) := by decide +kernel
theorem d_N_has_0 : decode prog_3_method_6_code 0 = .ok (.iload_n 1, 1) := by decide +kernel
theorem d_N_has_1 : decode prog_3_method_6_code 1 = .ok (.ifCond .lt 15, 3) := by decide +kernel
theorem d_N_has_4 : decode prog_3_method_6_code 4 = .ok (.iload_n 1, 1) := by decide +kernel
theorem d_N_has_5 : decode prog_3_method_6_code 5 = .ok (.aload_n 0, 1) := by decide +kernel
theorem d_N_has_6 : decode prog_3_method_6_code 6 = .ok (.getfield 19, 3) := by decide +kernel
theorem d_N_has_9 : decode prog_3_method_6_code 9 = .ok (.if_icmp .ge 7, 3) := by decide +kernel
theorem d_N_has_12 : decode prog_3_method_6_code 12 = .ok (.iconst 1, 1) := by decide +kernel
theorem d_N_has_13 : decode prog_3_method_6_code 13 = .ok (.goto 4, 3) := by decide +kernel
theorem d_N_has_16 : decode prog_3_method_6_code 16 = .ok (.iconst 0, 1) := by decide +kernel
theorem d_N_has_17 : decode prog_3_method_6_code 17 = .ok (.ireturn, 1) := by decide +kernel
theorem d_N_indexOfName_0 : decode prog_3_method_7_code 0 = .ok (.iconst 0, 1) := by decide +kernel
theorem d_N_indexOfName_1 : decode prog_3_method_7_code 1 = .ok (.istore_n 2, 1) := by decide +kernel
theorem d_N_indexOfName_2 : decode prog_3_method_7_code 2 = .ok (.iload_n 2, 1) := by decide +kernel
theorem d_N_indexOfName_3 : decode prog_3_method_7_code 3 = .ok (.aload_n 0, 1) := by decide +kernel
theorem d_N_indexOfName_4 : decode prog_3_method_7_code 4 = .ok (.getfield 19, 3) := by decide +kernel
theorem d_N_indexOfName_7 : decode prog_3_method_7_code 7 = .ok (.if_icmp .ge 23, 3) := by decide +kernel
theorem d_N_indexOfName_10 : decode prog_3_method_7_code 10 = .ok (.aload_n 0, 1) := by decide +kernel
theorem d_N_indexOfName_11 : decode prog_3_method_7_code 11 = .ok (.getfield 9, 3) := by decide +kernel
theorem d_N_indexOfName_14 : decode prog_3_method_7_code 14 = .ok (.iload_n 2, 1) := by decide +kernel
theorem d_N_indexOfName_15 : decode prog_3_method_7_code 15 = .ok (.iaload, 1) := by decide +kernel
theorem d_N_indexOfName_16 : decode prog_3_method_7_code 16 = .ok (.iconst 4, 1) := by decide +kernel
theorem d_N_indexOfName_17 : decode prog_3_method_7_code 17 = .ok (.ishr, 1) := by decide +kernel
theorem d_N_indexOfName_18 : decode prog_3_method_7_code 18 = .ok (.iload_n 1, 1) := by decide +kernel
theorem d_N_indexOfName_19 : decode prog_3_method_7_code 19 = .ok (.if_icmp .ne 5, 3) := by decide +kernel
theorem d_N_indexOfName_22 : decode prog_3_method_7_code 22 = .ok (.iload_n 2, 1) := by decide +kernel
theorem d_N_indexOfName_23 : decode prog_3_method_7_code 23 = .ok (.ireturn, 1) := by decide +kernel
theorem d_N_indexOfName_24 : decode prog_3_method_7_code 24 = .ok (.iinc 2 1, 3) := by decide +kernel
theorem d_N_indexOfName_27 : decode prog_3_method_7_code 27 = .ok (.goto (-25), 3) := by decide +kernel
theorem d_N_indexOfName_30 : decode prog_3_method_7_code 30 = .ok (.iconst (-1), 1) := by decide +kernel
theorem d_N_indexOfName_31 : decode prog_3_method_7_code 31 = .ok (.ireturn, 1) := by decide +kernel
theorem d_N_nodeOfItem_0 : decode prog_3_method_8_code 0 = .ok (.aload_n 0, 1) := by decide +kernel
theorem d_N_nodeOfItem_1 : decode prog_3_method_8_code 1 = .ok (.iload_n 1, 1) := by decide +kernel
theorem d_N_nodeOfItem_2 : decode prog_3_method_8_code 2 = .ok (.invokevirtual 43, 3) := by decide +kernel
theorem d_N_nodeOfItem_5 : decode prog_3_method_8_code 5 = .ok (.ifCond .eq 15, 3) := by decide +kernel
theorem d_N_nodeOfItem_8 : decode prog_3_method_8_code 8 = .ok (.aload_n 0, 1) := by decide +kernel
theorem d_N_nodeOfItem_9 : decode prog_3_method_8_code 9 = .ok (.getfield 9, 3) := by decide +kernel
theorem d_N_nodeOfItem_12 : decode prog_3_method_8_code 12 = .ok (.iload_n 1, 1) := by decide +kernel
theorem d_N_nodeOfItem_13 : decode prog_3_method_8_code 13 = .ok (.iaload, 1) := by decide +kernel
theorem d_N_nodeOfItem_14 : decode prog_3_method_8_code 14 = .ok (.bipush 15, 2) := by decide +kernel
theorem d_N_nodeOfItem_16 : decode prog_3_method_8_code 16 = .ok (.iand, 1) := by decide +kernel
theorem d_N_nodeOfItem_17 : decode prog_3_method_8_code 17 = .ok (.goto 4, 3) := by decide +kernel
theorem d_N_nodeOfItem_20 : decode prog_3_method_8_code 20 = .ok (.iconst (-1), 1) := by decide +kernel
theorem d_N_nodeOfItem_21 : decode prog_3_method_8_code 21 = .ok (.ireturn, 1) := by decide +kernel
theorem d_N_holds_0 : decode prog_3_method_9_code 0 = .ok (.iconst 0, 1) := by decide +kernel
theorem d_N_holds_1 : decode prog_3_method_9_code 1 = .ok (.istore_n 2, 1) := by decide +kernel
theorem d_N_holds_2 : decode prog_3_method_9_code 2 = .ok (.iload_n 2, 1) := by decide +kernel
theorem d_N_holds_3 : decode prog_3_method_9_code 3 = .ok (.aload_n 0, 1) := by decide +kernel
theorem d_N_holds_4 : decode prog_3_method_9_code 4 = .ok (.getfield 19, 3) := by decide +kernel
theorem d_N_holds_7 : decode prog_3_method_9_code 7 = .ok (.if_icmp .ge 24, 3) := by decide +kernel
theorem d_N_holds_10 : decode prog_3_method_9_code 10 = .ok (.aload_n 0, 1) := by decide +kernel
theorem d_N_holds_11 : decode prog_3_method_9_code 11 = .ok (.getfield 9, 3) := by decide +kernel
theorem d_N_holds_14 : decode prog_3_method_9_code 14 = .ok (.iload_n 2, 1) := by decide +kernel
theorem d_N_holds_15 : decode prog_3_method_9_code 15 = .ok (.iaload, 1) := by decide +kernel
theorem d_N_holds_16 : decode prog_3_method_9_code 16 = .ok (.bipush 15, 2) := by decide +kernel
theorem d_N_holds_18 : decode prog_3_method_9_code 18 = .ok (.iand, 1) := by decide +kernel
theorem d_N_holds_19 : decode prog_3_method_9_code 19 = .ok (.iload_n 1, 1) := by decide +kernel
theorem d_N_holds_20 : decode prog_3_method_9_code 20 = .ok (.if_icmp .ne 5, 3) := by decide +kernel
theorem d_N_holds_23 : decode prog_3_method_9_code 23 = .ok (.iconst 1, 1) := by decide +kernel
theorem d_N_holds_24 : decode prog_3_method_9_code 24 = .ok (.ireturn, 1) := by decide +kernel
theorem d_N_holds_25 : decode prog_3_method_9_code 25 = .ok (.iinc 2 1, 3) := by decide +kernel
theorem d_N_holds_28 : decode prog_3_method_9_code 28 = .ok (.goto (-26), 3) := by decide +kernel
theorem d_N_holds_31 : decode prog_3_method_9_code 31 = .ok (.iconst 0, 1) := by decide +kernel
theorem d_N_holds_32 : decode prog_3_method_9_code 32 = .ok (.ireturn, 1) := by decide +kernel
theorem d_N_addItem_0 : decode prog_3_method_10_code 0 = .ok (.aload_n 0, 1) := by decide +kernel
theorem d_N_addItem_1 : decode prog_3_method_10_code 1 = .ok (.getfield 19, 3) := by decide +kernel
theorem d_N_addItem_4 : decode prog_3_method_10_code 4 = .ok (.bipush 10, 2) := by decide +kernel
theorem d_N_addItem_6 : decode prog_3_method_10_code 6 = .ok (.if_icmp .ge 28, 3) := by decide +kernel
theorem d_N_addItem_9 : decode prog_3_method_10_code 9 = .ok (.aload_n 0, 1) := by decide +kernel
theorem d_N_addItem_10 : decode prog_3_method_10_code 10 = .ok (.getfield 9, 3) := by decide +kernel
theorem d_N_addItem_13 : decode prog_3_method_10_code 13 = .ok (.aload_n 0, 1) := by decide +kernel
theorem d_N_addItem_14 : decode prog_3_method_10_code 14 = .ok (.getfield 19, 3) := by decide +kernel
theorem d_N_addItem_17 : decode prog_3_method_10_code 17 = .ok (.iload_n 1, 1) := by decide +kernel
theorem d_N_addItem_18 : decode prog_3_method_10_code 18 = .ok (.bipush 16, 2) := by decide +kernel
theorem d_N_addItem_20 : decode prog_3_method_10_code 20 = .ok (.imul, 1) := by decide +kernel
theorem d_N_addItem_21 : decode prog_3_method_10_code 21 = .ok (.iload_n 2, 1) := by decide +kernel
theorem d_N_addItem_22 : decode prog_3_method_10_code 22 = .ok (.iadd, 1) := by decide +kernel
theorem d_N_addItem_23 : decode prog_3_method_10_code 23 = .ok (.iastore, 1) := by decide +kernel
theorem d_N_addItem_24 : decode prog_3_method_10_code 24 = .ok (.aload_n 0, 1) := by decide +kernel
theorem d_N_addItem_25 : decode prog_3_method_10_code 25 = .ok (.dup, 1) := by decide +kernel
theorem d_N_addItem_26 : decode prog_3_method_10_code 26 = .ok (.getfield 19, 3) := by decide +kernel
theorem d_N_addItem_29 : decode prog_3_method_10_code 29 = .ok (.iconst 1, 1) := by decide +kernel
theorem d_N_addItem_30 : decode prog_3_method_10_code 30 = .ok (.iadd, 1) := by decide +kernel
theorem d_N_addItem_31 : decode prog_3_method_10_code 31 = .ok (.putfield 19, 3) := by decide +kernel
theorem d_N_addItem_34 : decode prog_3_method_10_code 34 = .ok (.aload_n 0, 1) := by decide +kernel
theorem d_N_addItem_35 : decode prog_3_method_10_code 35 = .ok (.iconst 1, 1) := by decide +kernel
theorem d_N_addItem_36 : decode prog_3_method_10_code 36 = .ok (.putfield 25, 3) := by decide +kernel
theorem d_N_addItem_39 : decode prog_3_method_10_code 39 = .ok (.return_, 1) := by decide +kernel
theorem d_N_dropItem_0 : decode prog_3_method_11_code 0 = .ok (.aload_n 0, 1) := by decide +kernel
theorem d_N_dropItem_1 : decode prog_3_method_11_code 1 = .ok (.iload_n 1, 1) := by decide +kernel
theorem d_N_dropItem_2 : decode prog_3_method_11_code 2 = .ok (.invokevirtual 43, 3) := by decide +kernel
theorem d_N_dropItem_5 : decode prog_3_method_11_code 5 = .ok (.ifCond .eq 43, 3) := by decide +kernel
theorem d_N_dropItem_8 : decode prog_3_method_11_code 8 = .ok (.aload_n 0, 1) := by decide +kernel
theorem d_N_dropItem_9 : decode prog_3_method_11_code 9 = .ok (.dup, 1) := by decide +kernel
theorem d_N_dropItem_10 : decode prog_3_method_11_code 10 = .ok (.getfield 19, 3) := by decide +kernel
theorem d_N_dropItem_13 : decode prog_3_method_11_code 13 = .ok (.iconst 1, 1) := by decide +kernel
theorem d_N_dropItem_14 : decode prog_3_method_11_code 14 = .ok (.isub, 1) := by decide +kernel
theorem d_N_dropItem_15 : decode prog_3_method_11_code 15 = .ok (.putfield 19, 3) := by decide +kernel
theorem d_N_dropItem_18 : decode prog_3_method_11_code 18 = .ok (.iload_n 1, 1) := by decide +kernel
theorem d_N_dropItem_19 : decode prog_3_method_11_code 19 = .ok (.istore_n 2, 1) := by decide +kernel
theorem d_N_dropItem_20 : decode prog_3_method_11_code 20 = .ok (.iload_n 2, 1) := by decide +kernel
theorem d_N_dropItem_21 : decode prog_3_method_11_code 21 = .ok (.aload_n 0, 1) := by decide +kernel
theorem d_N_dropItem_22 : decode prog_3_method_11_code 22 = .ok (.getfield 19, 3) := by decide +kernel
theorem d_N_dropItem_25 : decode prog_3_method_11_code 25 = .ok (.if_icmp .ge 23, 3) := by decide +kernel
theorem d_N_dropItem_28 : decode prog_3_method_11_code 28 = .ok (.aload_n 0, 1) := by decide +kernel
theorem d_N_dropItem_29 : decode prog_3_method_11_code 29 = .ok (.getfield 9, 3) := by decide +kernel
theorem d_N_dropItem_32 : decode prog_3_method_11_code 32 = .ok (.iload_n 2, 1) := by decide +kernel
theorem d_N_dropItem_33 : decode prog_3_method_11_code 33 = .ok (.aload_n 0, 1) := by decide +kernel
theorem d_N_dropItem_34 : decode prog_3_method_11_code 34 = .ok (.getfield 9, 3) := by decide +kernel
theorem d_N_dropItem_37 : decode prog_3_method_11_code 37 = .ok (.iload_n 2, 1) := by decide +kernel
theorem d_N_dropItem_38 : decode prog_3_method_11_code 38 = .ok (.iconst 1, 1) := by decide +kernel
theorem d_N_dropItem_39 : decode prog_3_method_11_code 39 = .ok (.iadd, 1) := by decide +kernel
theorem d_N_dropItem_40 : decode prog_3_method_11_code 40 = .ok (.iaload, 1) := by decide +kernel
theorem d_N_dropItem_41 : decode prog_3_method_11_code 41 = .ok (.iastore, 1) := by decide +kernel
theorem d_N_dropItem_42 : decode prog_3_method_11_code 42 = .ok (.iinc 2 1, 3) := by decide +kernel
theorem d_N_dropItem_45 : decode prog_3_method_11_code 45 = .ok (.goto (-25), 3) := by decide +kernel
theorem d_N_dropItem_48 : decode prog_3_method_11_code 48 = .ok (.aload_n 0, 1) := by decide +kernel
theorem d_N_dropItem_49 : decode prog_3_method_11_code 49 = .ok (.iconst 1, 1) := by decide +kernel
theorem d_N_dropItem_50 : decode prog_3_method_11_code 50 = .ok (.putfield 25, 3) := by decide +kernel
theorem d_N_dropItem_53 : decode prog_3_method_11_code 53 = .ok (.return_, 1) := by decide +kernel
theorem d_N_setBlock_0 : decode prog_3_method_12_code 0 = .ok (.iload_n 1, 1) := by decide +kernel
theorem d_N_setBlock_1 : decode prog_3_method_12_code 1 = .ok (.ifCond .lt 30, 3) := by decide +kernel
theorem d_N_setBlock_4 : decode prog_3_method_12_code 4 = .ok (.iload_n 1, 1) := by decide +kernel
theorem d_N_setBlock_5 : decode prog_3_method_12_code 5 = .ok (.bipush 10, 2) := by decide +kernel
theorem d_N_setBlock_7 : decode prog_3_method_12_code 7 = .ok (.if_icmp .ge 24, 3) := by decide +kernel
theorem d_N_setBlock_10 : decode prog_3_method_12_code 10 = .ok (.aload_n 0, 1) := by decide +kernel
theorem d_N_setBlock_11 : decode prog_3_method_12_code 11 = .ok (.getfield 9, 3) := by decide +kernel
theorem d_N_setBlock_14 : decode prog_3_method_12_code 14 = .ok (.iload_n 1, 1) := by decide +kernel
theorem d_N_setBlock_15 : decode prog_3_method_12_code 15 = .ok (.iload_n 2, 1) := by decide +kernel
theorem d_N_setBlock_16 : decode prog_3_method_12_code 16 = .ok (.iastore, 1) := by decide +kernel
theorem d_N_setBlock_17 : decode prog_3_method_12_code 17 = .ok (.aload_n 0, 1) := by decide +kernel
theorem d_N_setBlock_18 : decode prog_3_method_12_code 18 = .ok (.aload_n 0, 1) := by decide +kernel
theorem d_N_setBlock_19 : decode prog_3_method_12_code 19 = .ok (.getfield 19, 3) := by decide +kernel
theorem d_N_setBlock_22 : decode prog_3_method_12_code 22 = .ok (.iload_n 1, 1) := by decide +kernel
theorem d_N_setBlock_23 : decode prog_3_method_12_code 23 = .ok (.iconst 1, 1) := by decide +kernel
theorem d_N_setBlock_24 : decode prog_3_method_12_code 24 = .ok (.iadd, 1) := by decide +kernel
theorem d_N_setBlock_25 : decode prog_3_method_12_code 25 = .ok (.invokestatic 40, 3) := by decide +kernel
theorem d_N_setBlock_28 : decode prog_3_method_12_code 28 = .ok (.putfield 19, 3) := by decide +kernel
theorem d_N_setBlock_31 : decode prog_3_method_12_code 31 = .ok (.aload_n 0, 1) := by decide +kernel
theorem d_N_setBlock_32 : decode prog_3_method_12_code 32 = .ok (.iconst 1, 1) := by decide +kernel
theorem d_N_setBlock_33 : decode prog_3_method_12_code 33 = .ok (.putfield 25, 3) := by decide +kernel
theorem d_N_setBlock_36 : decode prog_3_method_12_code 36 = .ok (.return_, 1) := by decide +kernel
theorem d_T_init_0 : decode prog_4_method_1_code 0 = .ok (.aload_n 0, 1) := by decide +kernel
theorem d_T_init_1 : decode prog_4_method_1_code 1 = .ok (.invokespecial 3, 3) := by decide +kernel
theorem d_T_init_4 : decode prog_4_method_1_code 4 = .ok (.aload_n 0, 1) := by decide +kernel
theorem d_T_init_5 : decode prog_4_method_1_code 5 = .ok (.bipush 8, 2) := by decide +kernel
theorem d_T_init_7 : decode prog_4_method_1_code 7 = .ok (.anewarray 9, 3) := by decide +kernel
theorem d_T_init_10 : decode prog_4_method_1_code 10 = .ok (.putfield 11, 3) := by decide +kernel
theorem d_T_init_13 : decode prog_4_method_1_code 13 = .ok (.iconst 0, 1) := by decide +kernel
theorem d_T_init_14 : decode prog_4_method_1_code 14 = .ok (.istore_n 1, 1) := by decide +kernel
theorem d_T_init_15 : decode prog_4_method_1_code 15 = .ok (.iload_n 1, 1) := by decide +kernel
theorem d_T_init_16 : decode prog_4_method_1_code 16 = .ok (.bipush 8, 2) := by decide +kernel
theorem d_T_init_18 : decode prog_4_method_1_code 18 = .ok (.if_icmp .ge 22, 3) := by decide +kernel
theorem d_T_init_21 : decode prog_4_method_1_code 21 = .ok (.aload_n 0, 1) := by decide +kernel
theorem d_T_init_22 : decode prog_4_method_1_code 22 = .ok (.getfield 11, 3) := by decide +kernel
theorem d_T_init_25 : decode prog_4_method_1_code 25 = .ok (.iload_n 1, 1) := by decide +kernel
theorem d_T_init_26 : decode prog_4_method_1_code 26 = .ok (.new 9, 3) := by decide +kernel
theorem d_T_init_29 : decode prog_4_method_1_code 29 = .ok (.dup, 1) := by decide +kernel
theorem d_T_init_30 : decode prog_4_method_1_code 30 = .ok (.invokespecial 17, 3) := by decide +kernel
theorem d_T_init_33 : decode prog_4_method_1_code 33 = .ok (.aastore, 1) := by decide +kernel
theorem d_T_init_34 : decode prog_4_method_1_code 34 = .ok (.iinc 1 1, 3) := by decide +kernel
theorem d_T_init_37 : decode prog_4_method_1_code 37 = .ok (.goto (-22), 3) := by decide +kernel
theorem d_T_init_40 : decode prog_4_method_1_code 40 = .ok (.return_, 1) := by decide +kernel
theorem d_T_becomeNothing_0 : decode prog_4_method_2_code 0 = .ok (.iconst 0, 1) := by decide +kernel
theorem d_T_becomeNothing_1 : decode prog_4_method_2_code 1 = .ok (.istore_n 1, 1) := by decide +kernel
theorem d_T_becomeNothing_2 : decode prog_4_method_2_code 2 = .ok (.iload_n 1, 1) := by decide +kernel
theorem d_T_becomeNothing_3 : decode prog_4_method_2_code 3 = .ok (.bipush 8, 2) := by decide +kernel
theorem d_T_becomeNothing_5 : decode prog_4_method_2_code 5 = .ok (.if_icmp .ge 18, 3) := by decide +kernel
theorem d_T_becomeNothing_8 : decode prog_4_method_2_code 8 = .ok (.aload_n 0, 1) := by decide +kernel
theorem d_T_becomeNothing_9 : decode prog_4_method_2_code 9 = .ok (.getfield 11, 3) := by decide +kernel
theorem d_T_becomeNothing_12 : decode prog_4_method_2_code 12 = .ok (.iload_n 1, 1) := by decide +kernel
theorem d_T_becomeNothing_13 : decode prog_4_method_2_code 13 = .ok (.aaload, 1) := by decide +kernel
theorem d_T_becomeNothing_14 : decode prog_4_method_2_code 14 = .ok (.invokevirtual 18, 3) := by decide +kernel
theorem d_T_becomeNothing_17 : decode prog_4_method_2_code 17 = .ok (.iinc 1 1, 3) := by decide +kernel
theorem d_T_becomeNothing_20 : decode prog_4_method_2_code 20 = .ok (.goto (-18), 3) := by decide +kernel
theorem d_T_becomeNothing_23 : decode prog_4_method_2_code 23 = .ok (.return_, 1) := by decide +kernel
theorem d_T_becomeEmpty_0 : decode prog_4_method_3_code 0 = .ok (.aload_n 0, 1) := by decide +kernel
theorem d_T_becomeEmpty_1 : decode prog_4_method_3_code 1 = .ok (.invokevirtual 21, 3) := by decide +kernel
theorem d_T_becomeEmpty_4 : decode prog_4_method_3_code 4 = .ok (.aload_n 0, 1) := by decide +kernel
theorem d_T_becomeEmpty_5 : decode prog_4_method_3_code 5 = .ok (.getfield 11, 3) := by decide +kernel
theorem d_T_becomeEmpty_8 : decode prog_4_method_3_code 8 = .ok (.iconst 0, 1) := by decide +kernel
theorem d_T_becomeEmpty_9 : decode prog_4_method_3_code 9 = .ok (.aaload, 1) := by decide +kernel
theorem d_T_becomeEmpty_10 : decode prog_4_method_3_code 10 = .ok (.iconst 1, 1) := by decide +kernel
theorem d_T_becomeEmpty_11 : decode prog_4_method_3_code 11 = .ok (.invokevirtual 24, 3) := by decide +kernel
theorem d_T_becomeEmpty_14 : decode prog_4_method_3_code 14 = .ok (.return_, 1) := by decide +kernel
theorem d_T_become_0 : decode prog_4_method_4_code 0 = .ok (.iconst 0, 1) := by decide +kernel
theorem d_T_become_1 : decode prog_4_method_4_code 1 = .ok (.istore_n 3, 1) := by decide +kernel
theorem d_T_become_2 : decode prog_4_method_4_code 2 = .ok (.iload_n 3, 1) := by decide +kernel
theorem d_T_become_3 : decode prog_4_method_4_code 3 = .ok (.bipush 8, 2) := by decide +kernel
theorem d_T_become_5 : decode prog_4_method_4_code 5 = .ok (.if_icmp .ge 50, 3) := by decide +kernel
theorem d_T_become_8 : decode prog_4_method_4_code 8 = .ok (.aload_n 1, 1) := by decide +kernel
theorem d_T_become_9 : decode prog_4_method_4_code 9 = .ok (.iload_n 2, 1) := by decide +kernel
theorem d_T_become_10 : decode prog_4_method_4_code 10 = .ok (.iconst 4, 1) := by decide +kernel
theorem d_T_become_11 : decode prog_4_method_4_code 11 = .ok (.iload_n 3, 1) := by decide +kernel
theorem d_T_become_12 : decode prog_4_method_4_code 12 = .ok (.iadd, 1) := by decide +kernel
theorem d_T_become_13 : decode prog_4_method_4_code 13 = .ok (.invokevirtual 28, 3) := by decide +kernel
theorem d_T_become_16 : decode prog_4_method_4_code 16 = .ok (.istore 4, 2) := by decide +kernel
theorem d_T_become_18 : decode prog_4_method_4_code 18 = .ok (.iload 4, 2) := by decide +kernel
theorem d_T_become_20 : decode prog_4_method_4_code 20 = .ok (.ifCond .ne 15, 3) := by decide +kernel
theorem d_T_become_23 : decode prog_4_method_4_code 23 = .ok (.aload_n 0, 1) := by decide +kernel
theorem d_T_become_24 : decode prog_4_method_4_code 24 = .ok (.getfield 11, 3) := by decide +kernel
theorem d_T_become_27 : decode prog_4_method_4_code 27 = .ok (.iload_n 3, 1) := by decide +kernel
theorem d_T_become_28 : decode prog_4_method_4_code 28 = .ok (.aaload, 1) := by decide +kernel
theorem d_T_become_29 : decode prog_4_method_4_code 29 = .ok (.invokevirtual 18, 3) := by decide +kernel
theorem d_T_become_32 : decode prog_4_method_4_code 32 = .ok (.goto 17, 3) := by decide +kernel
theorem d_T_become_35 : decode prog_4_method_4_code 35 = .ok (.aload_n 0, 1) := by decide +kernel
theorem d_T_become_36 : decode prog_4_method_4_code 36 = .ok (.getfield 11, 3) := by decide +kernel
theorem d_T_become_39 : decode prog_4_method_4_code 39 = .ok (.iload_n 3, 1) := by decide +kernel
theorem d_T_become_40 : decode prog_4_method_4_code 40 = .ok (.aaload, 1) := by decide +kernel
theorem d_T_become_41 : decode prog_4_method_4_code 41 = .ok (.aload_n 1, 1) := by decide +kernel
theorem d_T_become_42 : decode prog_4_method_4_code 42 = .ok (.iload 4, 2) := by decide +kernel
theorem d_T_become_44 : decode prog_4_method_4_code 44 = .ok (.iconst 1, 1) := by decide +kernel
theorem d_T_become_45 : decode prog_4_method_4_code 45 = .ok (.isub, 1) := by decide +kernel
theorem d_T_become_46 : decode prog_4_method_4_code 46 = .ok (.invokevirtual 34, 3) := by decide +kernel
theorem d_T_become_49 : decode prog_4_method_4_code 49 = .ok (.iinc 3 1, 3) := by decide +kernel
theorem d_T_become_52 : decode prog_4_method_4_code 52 = .ok (.goto (-50), 3) := by decide +kernel
theorem d_T_become_55 : decode prog_4_method_4_code 55 = .ok (.return_, 1) := by decide +kernel
theorem d_T_nodeAt_0 : decode prog_4_method_5_code 0 = .ok (.iload_n 1, 1) := by decide +kernel
theorem d_T_nodeAt_1 : decode prog_4_method_5_code 1 = .ok (.ifCond .lt 21, 3) := by decide +kernel
theorem d_T_nodeAt_4 : decode prog_4_method_5_code 4 = .ok (.iload_n 1, 1) := by decide +kernel
theorem d_T_nodeAt_5 : decode prog_4_method_5_code 5 = .ok (.bipush 8, 2) := by decide +kernel
theorem d_T_nodeAt_7 : decode prog_4_method_5_code 7 = .ok (.if_icmp .ge 15, 3) := by decide +kernel
theorem d_T_nodeAt_10 : decode prog_4_method_5_code 10 = .ok (.aload_n 0, 1) := by decide +kernel
theorem d_T_nodeAt_11 : decode prog_4_method_5_code 11 = .ok (.getfield 11, 3) := by decide +kernel
theorem d_T_nodeAt_14 : decode prog_4_method_5_code 14 = .ok (.iload_n 1, 1) := by decide +kernel
theorem d_T_nodeAt_15 : decode prog_4_method_5_code 15 = .ok (.aaload, 1) := by decide +kernel
theorem d_T_nodeAt_16 : decode prog_4_method_5_code 16 = .ok (.getfield 38, 3) := by decide +kernel
theorem d_T_nodeAt_19 : decode prog_4_method_5_code 19 = .ok (.ifCond .ne 5, 3) := by decide +kernel
theorem d_T_nodeAt_22 : decode prog_4_method_5_code 22 = .ok (.aconst_null, 1) := by decide +kernel
theorem d_T_nodeAt_23 : decode prog_4_method_5_code 23 = .ok (.areturn, 1) := by decide +kernel
theorem d_T_nodeAt_24 : decode prog_4_method_5_code 24 = .ok (.aload_n 0, 1) := by decide +kernel
theorem d_T_nodeAt_25 : decode prog_4_method_5_code 25 = .ok (.getfield 11, 3) := by decide +kernel
theorem d_T_nodeAt_28 : decode prog_4_method_5_code 28 = .ok (.iload_n 1, 1) := by decide +kernel
theorem d_T_nodeAt_29 : decode prog_4_method_5_code 29 = .ok (.aaload, 1) := by decide +kernel
theorem d_T_nodeAt_30 : decode prog_4_method_5_code 30 = .ok (.areturn, 1) := by decide +kernel
theorem d_T_directoryAt_0 : decode prog_4_method_6_code 0 = .ok (.aload_n 0, 1) := by decide +kernel
theorem d_T_directoryAt_1 : decode prog_4_method_6_code 1 = .ok (.iload_n 1, 1) := by decide +kernel
theorem d_T_directoryAt_2 : decode prog_4_method_6_code 2 = .ok (.invokevirtual 42, 3) := by decide +kernel
theorem d_T_directoryAt_5 : decode prog_4_method_6_code 5 = .ok (.astore_n 2, 1) := by decide +kernel
theorem d_T_directoryAt_6 : decode prog_4_method_6_code 6 = .ok (.aload_n 2, 1) := by decide +kernel
theorem d_T_directoryAt_7 : decode prog_4_method_6_code 7 = .ok (.ifnull 15, 3) := by decide +kernel
theorem d_T_directoryAt_10 : decode prog_4_method_6_code 10 = .ok (.aload_n 2, 1) := by decide +kernel
theorem d_T_directoryAt_11 : decode prog_4_method_6_code 11 = .ok (.getfield 38, 3) := by decide +kernel
theorem d_T_directoryAt_14 : decode prog_4_method_6_code 14 = .ok (.iconst 1, 1) := by decide +kernel
theorem d_T_directoryAt_15 : decode prog_4_method_6_code 15 = .ok (.if_icmp .ne 7, 3) := by decide +kernel
theorem d_T_directoryAt_18 : decode prog_4_method_6_code 18 = .ok (.aload_n 2, 1) := by decide +kernel
theorem d_T_directoryAt_19 : decode prog_4_method_6_code 19 = .ok (.goto 4, 3) := by decide +kernel
theorem d_T_directoryAt_22 : decode prog_4_method_6_code 22 = .ok (.aconst_null, 1) := by decide +kernel
theorem d_T_directoryAt_23 : decode prog_4_method_6_code 23 = .ok (.areturn, 1) := by decide +kernel
theorem d_T_fileAt_0 : decode prog_4_method_7_code 0 = .ok (.aload_n 0, 1) := by decide +kernel
theorem d_T_fileAt_1 : decode prog_4_method_7_code 1 = .ok (.iload_n 1, 1) := by decide +kernel
theorem d_T_fileAt_2 : decode prog_4_method_7_code 2 = .ok (.invokevirtual 42, 3) := by decide +kernel
theorem d_T_fileAt_5 : decode prog_4_method_7_code 5 = .ok (.astore_n 2, 1) := by decide +kernel
theorem d_T_fileAt_6 : decode prog_4_method_7_code 6 = .ok (.aload_n 2, 1) := by decide +kernel
theorem d_T_fileAt_7 : decode prog_4_method_7_code 7 = .ok (.ifnull 15, 3) := by decide +kernel
theorem d_T_fileAt_10 : decode prog_4_method_7_code 10 = .ok (.aload_n 2, 1) := by decide +kernel
theorem d_T_fileAt_11 : decode prog_4_method_7_code 11 = .ok (.getfield 38, 3) := by decide +kernel
theorem d_T_fileAt_14 : decode prog_4_method_7_code 14 = .ok (.iconst 2, 1) := by decide +kernel
theorem d_T_fileAt_15 : decode prog_4_method_7_code 15 = .ok (.if_icmp .ne 7, 3) := by decide +kernel
theorem d_T_fileAt_18 : decode prog_4_method_7_code 18 = .ok (.aload_n 2, 1) := by decide +kernel
theorem d_T_fileAt_19 : decode prog_4_method_7_code 19 = .ok (.goto 4, 3) := by decide +kernel
theorem d_T_fileAt_22 : decode prog_4_method_7_code 22 = .ok (.aconst_null, 1) := by decide +kernel
theorem d_T_fileAt_23 : decode prog_4_method_7_code 23 = .ok (.areturn, 1) := by decide +kernel
theorem d_T_leastAbsent_0 : decode prog_4_method_8_code 0 = .ok (.iconst 0, 1) := by decide +kernel
theorem d_T_leastAbsent_1 : decode prog_4_method_8_code 1 = .ok (.istore_n 1, 1) := by decide +kernel
theorem d_T_leastAbsent_2 : decode prog_4_method_8_code 2 = .ok (.iload_n 1, 1) := by decide +kernel
theorem d_T_leastAbsent_3 : decode prog_4_method_8_code 3 = .ok (.bipush 8, 2) := by decide +kernel
theorem d_T_leastAbsent_5 : decode prog_4_method_8_code 5 = .ok (.if_icmp .ge 23, 3) := by decide +kernel
theorem d_T_leastAbsent_8 : decode prog_4_method_8_code 8 = .ok (.aload_n 0, 1) := by decide +kernel
theorem d_T_leastAbsent_9 : decode prog_4_method_8_code 9 = .ok (.getfield 11, 3) := by decide +kernel
theorem d_T_leastAbsent_12 : decode prog_4_method_8_code 12 = .ok (.iload_n 1, 1) := by decide +kernel
theorem d_T_leastAbsent_13 : decode prog_4_method_8_code 13 = .ok (.aaload, 1) := by decide +kernel
theorem d_T_leastAbsent_14 : decode prog_4_method_8_code 14 = .ok (.getfield 38, 3) := by decide +kernel
theorem d_T_leastAbsent_17 : decode prog_4_method_8_code 17 = .ok (.ifCond .ne 5, 3) := by decide +kernel
theorem d_T_leastAbsent_20 : decode prog_4_method_8_code 20 = .ok (.iload_n 1, 1) := by decide +kernel
theorem d_T_leastAbsent_21 : decode prog_4_method_8_code 21 = .ok (.ireturn, 1) := by decide +kernel
theorem d_T_leastAbsent_22 : decode prog_4_method_8_code 22 = .ok (.iinc 1 1, 3) := by decide +kernel
theorem d_T_leastAbsent_25 : decode prog_4_method_8_code 25 = .ok (.goto (-23), 3) := by decide +kernel
theorem d_T_leastAbsent_28 : decode prog_4_method_8_code 28 = .ok (.iconst (-1), 1) := by decide +kernel
theorem d_T_leastAbsent_29 : decode prog_4_method_8_code 29 = .ok (.ireturn, 1) := by decide +kernel
theorem d_T_countChanged_0 : decode prog_4_method_9_code 0 = .ok (.iconst 0, 1) := by decide +kernel
theorem d_T_countChanged_1 : decode prog_4_method_9_code 1 = .ok (.istore_n 1, 1) := by decide +kernel
theorem d_T_countChanged_2 : decode prog_4_method_9_code 2 = .ok (.iconst 0, 1) := by decide +kernel
theorem d_T_countChanged_3 : decode prog_4_method_9_code 3 = .ok (.istore_n 2, 1) := by decide +kernel
theorem d_T_countChanged_4 : decode prog_4_method_9_code 4 = .ok (.iload_n 2, 1) := by decide +kernel
theorem d_T_countChanged_5 : decode prog_4_method_9_code 5 = .ok (.bipush 8, 2) := by decide +kernel
theorem d_T_countChanged_7 : decode prog_4_method_9_code 7 = .ok (.if_icmp .ge 24, 3) := by decide +kernel
theorem d_T_countChanged_10 : decode prog_4_method_9_code 10 = .ok (.aload_n 0, 1) := by decide +kernel
theorem d_T_countChanged_11 : decode prog_4_method_9_code 11 = .ok (.getfield 11, 3) := by decide +kernel
theorem d_T_countChanged_14 : decode prog_4_method_9_code 14 = .ok (.iload_n 2, 1) := by decide +kernel
theorem d_T_countChanged_15 : decode prog_4_method_9_code 15 = .ok (.aaload, 1) := by decide +kernel
theorem d_T_countChanged_16 : decode prog_4_method_9_code 16 = .ok (.getfield 46, 3) := by decide +kernel
theorem d_T_countChanged_19 : decode prog_4_method_9_code 19 = .ok (.ifCond .eq 6, 3) := by decide +kernel
theorem d_T_countChanged_22 : decode prog_4_method_9_code 22 = .ok (.iinc 1 1, 3) := by decide +kernel
theorem d_T_countChanged_25 : decode prog_4_method_9_code 25 = .ok (.iinc 2 1, 3) := by decide +kernel
theorem d_T_countChanged_28 : decode prog_4_method_9_code 28 = .ok (.goto (-24), 3) := by decide +kernel
theorem d_T_countChanged_31 : decode prog_4_method_9_code 31 = .ok (.iload_n 1, 1) := by decide +kernel
theorem d_T_countChanged_32 : decode prog_4_method_9_code 32 = .ok (.ireturn, 1) := by decide +kernel
theorem d_T_isAtOrBelow_0 : decode prog_4_method_10_code 0 = .ok (.iload_n 1, 1) := by decide +kernel
theorem d_T_isAtOrBelow_1 : decode prog_4_method_10_code 1 = .ok (.istore_n 3, 1) := by decide +kernel
theorem d_T_isAtOrBelow_2 : decode prog_4_method_10_code 2 = .ok (.iconst 0, 1) := by decide +kernel
theorem d_T_isAtOrBelow_3 : decode prog_4_method_10_code 3 = .ok (.istore 4, 2) := by decide +kernel
theorem d_T_isAtOrBelow_5 : decode prog_4_method_10_code 5 = .ok (.iload 4, 2) := by decide +kernel
theorem d_T_isAtOrBelow_7 : decode prog_4_method_10_code 7 = .ok (.bipush 8, 2) := by decide +kernel
theorem d_T_isAtOrBelow_9 : decode prog_4_method_10_code 9 = .ok (.if_icmp .ge 27, 3) := by decide +kernel
theorem d_T_isAtOrBelow_12 : decode prog_4_method_10_code 12 = .ok (.iload_n 3, 1) := by decide +kernel
theorem d_T_isAtOrBelow_13 : decode prog_4_method_10_code 13 = .ok (.iconst (-1), 1) := by decide +kernel
theorem d_T_isAtOrBelow_14 : decode prog_4_method_10_code 14 = .ok (.if_icmp .eq 22, 3) := by decide +kernel
theorem d_T_isAtOrBelow_17 : decode prog_4_method_10_code 17 = .ok (.iload_n 3, 1) := by decide +kernel
theorem d_T_isAtOrBelow_18 : decode prog_4_method_10_code 18 = .ok (.iload_n 2, 1) := by decide +kernel
theorem d_T_isAtOrBelow_19 : decode prog_4_method_10_code 19 = .ok (.if_icmp .ne 5, 3) := by decide +kernel
theorem d_T_isAtOrBelow_22 : decode prog_4_method_10_code 22 = .ok (.iconst 1, 1) := by decide +kernel
theorem d_T_isAtOrBelow_23 : decode prog_4_method_10_code 23 = .ok (.ireturn, 1) := by decide +kernel
theorem d_T_isAtOrBelow_24 : decode prog_4_method_10_code 24 = .ok (.aload_n 0, 1) := by decide +kernel
theorem d_T_isAtOrBelow_25 : decode prog_4_method_10_code 25 = .ok (.iload_n 3, 1) := by decide +kernel
theorem d_T_isAtOrBelow_26 : decode prog_4_method_10_code 26 = .ok (.invokevirtual 50, 3) := by decide +kernel
theorem d_T_isAtOrBelow_29 : decode prog_4_method_10_code 29 = .ok (.istore_n 3, 1) := by decide +kernel
theorem d_T_isAtOrBelow_30 : decode prog_4_method_10_code 30 = .ok (.iinc 4 1, 3) := by decide +kernel
theorem d_T_isAtOrBelow_33 : decode prog_4_method_10_code 33 = .ok (.goto (-28), 3) := by decide +kernel
theorem d_T_isAtOrBelow_36 : decode prog_4_method_10_code 36 = .ok (.iconst 0, 1) := by decide +kernel
theorem d_T_isAtOrBelow_37 : decode prog_4_method_10_code 37 = .ok (.ireturn, 1) := by decide +kernel
theorem d_T_parentOf_0 : decode prog_4_method_11_code 0 = .ok (.iconst 0, 1) := by decide +kernel
theorem d_T_parentOf_1 : decode prog_4_method_11_code 1 = .ok (.istore_n 2, 1) := by decide +kernel
theorem d_T_parentOf_2 : decode prog_4_method_11_code 2 = .ok (.iload_n 2, 1) := by decide +kernel
theorem d_T_parentOf_3 : decode prog_4_method_11_code 3 = .ok (.bipush 8, 2) := by decide +kernel
theorem d_T_parentOf_5 : decode prog_4_method_11_code 5 = .ok (.if_icmp .ge 37, 3) := by decide +kernel
theorem d_T_parentOf_8 : decode prog_4_method_11_code 8 = .ok (.aload_n 0, 1) := by decide +kernel
theorem d_T_parentOf_9 : decode prog_4_method_11_code 9 = .ok (.getfield 11, 3) := by decide +kernel
theorem d_T_parentOf_12 : decode prog_4_method_11_code 12 = .ok (.iload_n 2, 1) := by decide +kernel
theorem d_T_parentOf_13 : decode prog_4_method_11_code 13 = .ok (.aaload, 1) := by decide +kernel
theorem d_T_parentOf_14 : decode prog_4_method_11_code 14 = .ok (.getfield 38, 3) := by decide +kernel
theorem d_T_parentOf_17 : decode prog_4_method_11_code 17 = .ok (.iconst 1, 1) := by decide +kernel
theorem d_T_parentOf_18 : decode prog_4_method_11_code 18 = .ok (.if_icmp .ne 18, 3) := by decide +kernel
theorem d_T_parentOf_21 : decode prog_4_method_11_code 21 = .ok (.aload_n 0, 1) := by decide +kernel
theorem d_T_parentOf_22 : decode prog_4_method_11_code 22 = .ok (.getfield 11, 3) := by decide +kernel
theorem d_T_parentOf_25 : decode prog_4_method_11_code 25 = .ok (.iload_n 2, 1) := by decide +kernel
theorem d_T_parentOf_26 : decode prog_4_method_11_code 26 = .ok (.aaload, 1) := by decide +kernel
theorem d_T_parentOf_27 : decode prog_4_method_11_code 27 = .ok (.iload_n 1, 1) := by decide +kernel
theorem d_T_parentOf_28 : decode prog_4_method_11_code 28 = .ok (.invokevirtual 54, 3) := by decide +kernel
theorem d_T_parentOf_31 : decode prog_4_method_11_code 31 = .ok (.ifCond .eq 5, 3) := by decide +kernel
theorem d_T_parentOf_34 : decode prog_4_method_11_code 34 = .ok (.iload_n 2, 1) := by decide +kernel
theorem d_T_parentOf_35 : decode prog_4_method_11_code 35 = .ok (.ireturn, 1) := by decide +kernel
theorem d_T_parentOf_36 : decode prog_4_method_11_code 36 = .ok (.iinc 2 1, 3) := by decide +kernel
theorem d_T_parentOf_39 : decode prog_4_method_11_code 39 = .ok (.goto (-37), 3) := by decide +kernel
theorem d_T_parentOf_42 : decode prog_4_method_11_code 42 = .ok (.iconst (-1), 1) := by decide +kernel
theorem d_T_parentOf_43 : decode prog_4_method_11_code 43 = .ok (.ireturn, 1) := by decide +kernel
