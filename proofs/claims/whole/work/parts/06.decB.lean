theorem d_S_init_0 : decode prog_1_method_1_code 0 = .ok (.aload_n 0, 1) := by decide +kernel
theorem d_S_init_1 : decode prog_1_method_1_code 1 = .ok (.invokespecial 1, 3) := by decide +kernel
theorem d_S_init_4 : decode prog_1_method_1_code 4 = .ok (.aload_n 0, 1) := by decide +kernel
theorem d_S_init_5 : decode prog_1_method_1_code 5 = .ok (.new 7, 3) := by decide +kernel
theorem d_S_init_8 : decode prog_1_method_1_code 8 = .ok (.dup, 1) := by decide +kernel
theorem d_S_init_9 : decode prog_1_method_1_code 9 = .ok (.bipush 16, 2) := by decide +kernel
theorem d_S_init_11 : decode prog_1_method_1_code 11 = .ok (.sipush 128, 3) := by decide +kernel
theorem d_S_init_14 : decode prog_1_method_1_code 14 = .ok (.iload_n 1, 1) := by decide +kernel
theorem d_S_init_15 : decode prog_1_method_1_code 15 = .ok (.invokestatic 11, 3) := by decide +kernel
theorem d_S_init_18 : decode prog_1_method_1_code 18 = .ok (.invokestatic 17, 3) := by decide +kernel
theorem d_S_init_21 : decode prog_1_method_1_code 21 = .ok (.invokespecial 20, 3) := by decide +kernel
theorem d_S_init_24 : decode prog_1_method_1_code 24 = .ok (.putfield 23, 3) := by decide +kernel
theorem d_S_init_27 : decode prog_1_method_1_code 27 = .ok (.aload_n 0, 1) := by decide +kernel
theorem d_S_init_28 : decode prog_1_method_1_code 28 = .ok (.new 27, 3) := by decide +kernel
theorem d_S_init_31 : decode prog_1_method_1_code 31 = .ok (.dup, 1) := by decide +kernel
theorem d_S_init_32 : decode prog_1_method_1_code 32 = .ok (.invokespecial 29, 3) := by decide +kernel
theorem d_S_init_35 : decode prog_1_method_1_code 35 = .ok (.putfield 30, 3) := by decide +kernel
theorem d_S_init_38 : decode prog_1_method_1_code 38 = .ok (.aload_n 0, 1) := by decide +kernel
theorem d_S_init_39 : decode prog_1_method_1_code 39 = .ok (.new 27, 3) := by decide +kernel
theorem d_S_init_42 : decode prog_1_method_1_code 42 = .ok (.dup, 1) := by decide +kernel
theorem d_S_init_43 : decode prog_1_method_1_code 43 = .ok (.invokespecial 29, 3) := by decide +kernel
theorem d_S_init_46 : decode prog_1_method_1_code 46 = .ok (.putfield 34, 3) := by decide +kernel
theorem d_S_init_49 : decode prog_1_method_1_code 49 = .ok (.aload_n 0, 1) := by decide +kernel
theorem d_S_init_50 : decode prog_1_method_1_code 50 = .ok (.getfield 30, 3) := by decide +kernel
theorem d_S_init_53 : decode prog_1_method_1_code 53 = .ok (.invokevirtual 37, 3) := by decide +kernel
theorem d_S_init_56 : decode prog_1_method_1_code 56 = .ok (.return_, 1) := by decide +kernel
theorem d_S_make_0 : decode prog_1_method_2_code 0 = .ok (.aload_n 0, 1) := by decide +kernel
theorem d_S_make_1 : decode prog_1_method_2_code 1 = .ok (.getfield 30, 3) := by decide +kernel
theorem d_S_make_4 : decode prog_1_method_2_code 4 = .ok (.iload_n 1, 1) := by decide +kernel
theorem d_S_make_5 : decode prog_1_method_2_code 5 = .ok (.invokevirtual 40, 3) := by decide +kernel
theorem d_S_make_8 : decode prog_1_method_2_code 8 = .ok (.astore 4, 2) := by decide +kernel
theorem d_S_make_10 : decode prog_1_method_2_code 10 = .ok (.aload 4, 2) := by decide +kernel
theorem d_S_make_12 : decode prog_1_method_2_code 12 = .ok (.ifnull 10, 3) := by decide +kernel
theorem d_S_make_15 : decode prog_1_method_2_code 15 = .ok (.iload_n 2, 1) := by decide +kernel
theorem d_S_make_16 : decode prog_1_method_2_code 16 = .ok (.invokestatic 44, 3) := by decide +kernel
theorem d_S_make_19 : decode prog_1_method_2_code 19 = .ok (.ifCond .ne 5, 3) := by decide +kernel
theorem d_S_make_22 : decode prog_1_method_2_code 22 = .ok (.iconst (-1), 1) := by decide +kernel
theorem d_S_make_23 : decode prog_1_method_2_code 23 = .ok (.ireturn, 1) := by decide +kernel
theorem d_S_make_24 : decode prog_1_method_2_code 24 = .ok (.aload 4, 2) := by decide +kernel
theorem d_S_make_26 : decode prog_1_method_2_code 26 = .ok (.iload_n 2, 1) := by decide +kernel
theorem d_S_make_27 : decode prog_1_method_2_code 27 = .ok (.invokevirtual 48, 3) := by decide +kernel
theorem d_S_make_30 : decode prog_1_method_2_code 30 = .ok (.iconst (-1), 1) := by decide +kernel
theorem d_S_make_31 : decode prog_1_method_2_code 31 = .ok (.if_icmp .eq 6, 3) := by decide +kernel
theorem d_S_make_34 : decode prog_1_method_2_code 34 = .ok (.bipush (-2), 2) := by decide +kernel
theorem d_S_make_36 : decode prog_1_method_2_code 36 = .ok (.ireturn, 1) := by decide +kernel
theorem d_S_make_37 : decode prog_1_method_2_code 37 = .ok (.aload_n 0, 1) := by decide +kernel
theorem d_S_make_38 : decode prog_1_method_2_code 38 = .ok (.getfield 30, 3) := by decide +kernel
theorem d_S_make_41 : decode prog_1_method_2_code 41 = .ok (.invokevirtual 54, 3) := by decide +kernel
theorem d_S_make_44 : decode prog_1_method_2_code 44 = .ok (.istore 5, 2) := by decide +kernel
theorem d_S_make_46 : decode prog_1_method_2_code 46 = .ok (.iload 5, 2) := by decide +kernel
theorem d_S_make_48 : decode prog_1_method_2_code 48 = .ok (.iconst (-1), 1) := by decide +kernel
theorem d_S_make_49 : decode prog_1_method_2_code 49 = .ok (.if_icmp .ne 6, 3) := by decide +kernel
theorem d_S_make_52 : decode prog_1_method_2_code 52 = .ok (.bipush (-3), 2) := by decide +kernel
theorem d_S_make_54 : decode prog_1_method_2_code 54 = .ok (.ireturn, 1) := by decide +kernel
theorem d_S_make_55 : decode prog_1_method_2_code 55 = .ok (.aload_n 0, 1) := by decide +kernel
theorem d_S_make_56 : decode prog_1_method_2_code 56 = .ok (.iconst 0, 1) := by decide +kernel
theorem d_S_make_57 : decode prog_1_method_2_code 57 = .ok (.iconst 1, 1) := by decide +kernel
theorem d_S_make_58 : decode prog_1_method_2_code 58 = .ok (.aload 4, 2) := by decide +kernel
theorem d_S_make_60 : decode prog_1_method_2_code 60 = .ok (.invokevirtual 58, 3) := by decide +kernel
theorem d_S_make_63 : decode prog_1_method_2_code 63 = .ok (.iadd, 1) := by decide +kernel
theorem d_S_make_64 : decode prog_1_method_2_code 64 = .ok (.invokevirtual 61, 3) := by decide +kernel
theorem d_S_make_67 : decode prog_1_method_2_code 67 = .ok (.ifCond .eq 6, 3) := by decide +kernel
theorem d_S_make_70 : decode prog_1_method_2_code 70 = .ok (.bipush (-4), 2) := by decide +kernel
theorem d_S_make_72 : decode prog_1_method_2_code 72 = .ok (.ireturn, 1) := by decide +kernel
theorem d_S_make_73 : decode prog_1_method_2_code 73 = .ok (.aload_n 0, 1) := by decide +kernel
theorem d_S_make_74 : decode prog_1_method_2_code 74 = .ok (.getfield 30, 3) := by decide +kernel
theorem d_S_make_77 : decode prog_1_method_2_code 77 = .ok (.getfield 65, 3) := by decide +kernel
theorem d_S_make_80 : decode prog_1_method_2_code 80 = .ok (.iload 5, 2) := by decide +kernel
theorem d_S_make_82 : decode prog_1_method_2_code 82 = .ok (.aaload, 1) := by decide +kernel
theorem d_S_make_83 : decode prog_1_method_2_code 83 = .ok (.iload_n 3, 1) := by decide +kernel
theorem d_S_make_84 : decode prog_1_method_2_code 84 = .ok (.ifCond .eq 7, 3) := by decide +kernel
theorem d_S_make_87 : decode prog_1_method_2_code 87 = .ok (.iconst 1, 1) := by decide +kernel
theorem d_S_make_88 : decode prog_1_method_2_code 88 = .ok (.goto 4, 3) := by decide +kernel
theorem d_S_make_91 : decode prog_1_method_2_code 91 = .ok (.iconst 2, 1) := by decide +kernel
theorem d_S_make_92 : decode prog_1_method_2_code 92 = .ok (.invokevirtual 69, 3) := by decide +kernel
theorem d_S_make_95 : decode prog_1_method_2_code 95 = .ok (.aload 4, 2) := by decide +kernel
theorem d_S_make_97 : decode prog_1_method_2_code 97 = .ok (.iload_n 2, 1) := by decide +kernel
theorem d_S_make_98 : decode prog_1_method_2_code 98 = .ok (.iload 5, 2) := by decide +kernel
theorem d_S_make_100 : decode prog_1_method_2_code 100 = .ok (.invokevirtual 72, 3) := by decide +kernel
theorem d_S_make_103 : decode prog_1_method_2_code 103 = .ok (.iload 5, 2) := by decide +kernel
theorem d_S_make_105 : decode prog_1_method_2_code 105 = .ok (.ireturn, 1) := by decide +kernel
theorem d_S_write_0 : decode prog_1_method_3_code 0 = .ok (.aload_n 0, 1) := by decide +kernel
theorem d_S_write_1 : decode prog_1_method_3_code 1 = .ok (.getfield 30, 3) := by decide +kernel
theorem d_S_write_4 : decode prog_1_method_3_code 4 = .ok (.iload_n 1, 1) := by decide +kernel
theorem d_S_write_5 : decode prog_1_method_3_code 5 = .ok (.invokevirtual 76, 3) := by decide +kernel
theorem d_S_write_8 : decode prog_1_method_3_code 8 = .ok (.astore 4, 2) := by decide +kernel
theorem d_S_write_10 : decode prog_1_method_3_code 10 = .ok (.aload 4, 2) := by decide +kernel
theorem d_S_write_12 : decode prog_1_method_3_code 12 = .ok (.ifnull 13, 3) := by decide +kernel
theorem d_S_write_15 : decode prog_1_method_3_code 15 = .ok (.iload_n 3, 1) := by decide +kernel
theorem d_S_write_16 : decode prog_1_method_3_code 16 = .ok (.ifCond .lt 9, 3) := by decide +kernel
theorem d_S_write_19 : decode prog_1_method_3_code 19 = .ok (.iload_n 3, 1) := by decide +kernel
theorem d_S_write_20 : decode prog_1_method_3_code 20 = .ok (.ldc 79, 2) := by decide +kernel
theorem d_S_write_22 : decode prog_1_method_3_code 22 = .ok (.if_icmp .le 5, 3) := by decide +kernel
theorem d_S_write_25 : decode prog_1_method_3_code 25 = .ok (.iconst (-1), 1) := by decide +kernel
theorem d_S_write_26 : decode prog_1_method_3_code 26 = .ok (.ireturn, 1) := by decide +kernel
theorem d_S_write_27 : decode prog_1_method_3_code 27 = .ok (.iload_n 2, 1) := by decide +kernel
theorem d_S_write_28 : decode prog_1_method_3_code 28 = .ok (.ifCond .lt 18, 3) := by decide +kernel
theorem d_S_write_31 : decode prog_1_method_3_code 31 = .ok (.iload_n 2, 1) := by decide +kernel
theorem d_S_write_32 : decode prog_1_method_3_code 32 = .ok (.aload 4, 2) := by decide +kernel
theorem d_S_write_34 : decode prog_1_method_3_code 34 = .ok (.getfield 80, 3) := by decide +kernel
theorem d_S_write_37 : decode prog_1_method_3_code 37 = .ok (.if_icmp .gt 9, 3) := by decide +kernel
theorem d_S_write_40 : decode prog_1_method_3_code 40 = .ok (.iload_n 2, 1) := by decide +kernel
theorem d_S_write_41 : decode prog_1_method_3_code 41 = .ok (.bipush 10, 2) := by decide +kernel
theorem d_S_write_43 : decode prog_1_method_3_code 43 = .ok (.if_icmp .lt 5, 3) := by decide +kernel
theorem d_S_write_46 : decode prog_1_method_3_code 46 = .ok (.iconst (-1), 1) := by decide +kernel
theorem d_S_write_47 : decode prog_1_method_3_code 47 = .ok (.ireturn, 1) := by decide +kernel
theorem d_S_write_48 : decode prog_1_method_3_code 48 = .ok (.aload_n 0, 1) := by decide +kernel
theorem d_S_write_49 : decode prog_1_method_3_code 49 = .ok (.iconst 1, 1) := by decide +kernel
theorem d_S_write_50 : decode prog_1_method_3_code 50 = .ok (.aload 4, 2) := by decide +kernel
theorem d_S_write_52 : decode prog_1_method_3_code 52 = .ok (.invokevirtual 58, 3) := by decide +kernel
theorem d_S_write_55 : decode prog_1_method_3_code 55 = .ok (.invokevirtual 61, 3) := by decide +kernel
theorem d_S_write_58 : decode prog_1_method_3_code 58 = .ok (.ifCond .eq 6, 3) := by decide +kernel
theorem d_S_write_61 : decode prog_1_method_3_code 61 = .ok (.bipush (-4), 2) := by decide +kernel
theorem d_S_write_63 : decode prog_1_method_3_code 63 = .ok (.ireturn, 1) := by decide +kernel
theorem d_S_write_64 : decode prog_1_method_3_code 64 = .ok (.aload_n 0, 1) := by decide +kernel
theorem d_S_write_65 : decode prog_1_method_3_code 65 = .ok (.getfield 23, 3) := by decide +kernel
theorem d_S_write_68 : decode prog_1_method_3_code 68 = .ok (.getfield 84, 3) := by decide +kernel
theorem d_S_write_71 : decode prog_1_method_3_code 71 = .ok (.istore 5, 2) := by decide +kernel
theorem d_S_write_73 : decode prog_1_method_3_code 73 = .ok (.aload_n 0, 1) := by decide +kernel
theorem d_S_write_74 : decode prog_1_method_3_code 74 = .ok (.getfield 23, 3) := by decide +kernel
theorem d_S_write_77 : decode prog_1_method_3_code 77 = .ok (.iconst 1, 1) := by decide +kernel
theorem d_S_write_78 : decode prog_1_method_3_code 78 = .ok (.iload_n 1, 1) := by decide +kernel
theorem d_S_write_79 : decode prog_1_method_3_code 79 = .ok (.invokevirtual 87, 3) := by decide +kernel
theorem d_S_write_82 : decode prog_1_method_3_code 82 = .ok (.aload_n 0, 1) := by decide +kernel
theorem d_S_write_83 : decode prog_1_method_3_code 83 = .ok (.getfield 23, 3) := by decide +kernel
theorem d_S_write_86 : decode prog_1_method_3_code 86 = .ok (.iconst 4, 1) := by decide +kernel
theorem d_S_write_87 : decode prog_1_method_3_code 87 = .ok (.iload_n 3, 1) := by decide +kernel
theorem d_S_write_88 : decode prog_1_method_3_code 88 = .ok (.invokevirtual 90, 3) := by decide +kernel
theorem d_S_write_91 : decode prog_1_method_3_code 91 = .ok (.aload_n 0, 1) := by decide +kernel
theorem d_S_write_92 : decode prog_1_method_3_code 92 = .ok (.getfield 23, 3) := by decide +kernel
theorem d_S_write_95 : decode prog_1_method_3_code 95 = .ok (.invokevirtual 93, 3) := by decide +kernel
theorem d_S_write_98 : decode prog_1_method_3_code 98 = .ok (.ifCond .ne 10, 3) := by decide +kernel
theorem d_S_write_101 : decode prog_1_method_3_code 101 = .ok (.aload_n 0, 1) := by decide +kernel
theorem d_S_write_102 : decode prog_1_method_3_code 102 = .ok (.invokevirtual 97, 3) := by decide +kernel
theorem d_S_write_105 : decode prog_1_method_3_code 105 = .ok (.bipush (-5), 2) := by decide +kernel
theorem d_S_write_107 : decode prog_1_method_3_code 107 = .ok (.ireturn, 1) := by decide +kernel
theorem d_S_write_108 : decode prog_1_method_3_code 108 = .ok (.aload 4, 2) := by decide +kernel
theorem d_S_write_110 : decode prog_1_method_3_code 110 = .ok (.iload_n 2, 1) := by decide +kernel
theorem d_S_write_111 : decode prog_1_method_3_code 111 = .ok (.iload 5, 2) := by decide +kernel
theorem d_S_write_113 : decode prog_1_method_3_code 113 = .ok (.invokevirtual 100, 3) := by decide +kernel
theorem d_S_write_116 : decode prog_1_method_3_code 116 = .ok (.iload 5, 2) := by decide +kernel
theorem d_S_write_118 : decode prog_1_method_3_code 118 = .ok (.ireturn, 1) := by decide +kernel
theorem d_S_remove_0 : decode prog_1_method_4_code 0 = .ok (.aload_n 0, 1) := by decide +kernel
theorem d_S_remove_1 : decode prog_1_method_4_code 1 = .ok (.getfield 30, 3) := by decide +kernel
theorem d_S_remove_4 : decode prog_1_method_4_code 4 = .ok (.iload_n 1, 1) := by decide +kernel
theorem d_S_remove_5 : decode prog_1_method_4_code 5 = .ok (.invokevirtual 40, 3) := by decide +kernel
theorem d_S_remove_8 : decode prog_1_method_4_code 8 = .ok (.astore_n 3, 1) := by decide +kernel
theorem d_S_remove_9 : decode prog_1_method_4_code 9 = .ok (.aload_n 3, 1) := by decide +kernel
theorem d_S_remove_10 : decode prog_1_method_4_code 10 = .ok (.ifnonnull 5, 3) := by decide +kernel
theorem d_S_remove_13 : decode prog_1_method_4_code 13 = .ok (.iconst (-1), 1) := by decide +kernel
theorem d_S_remove_14 : decode prog_1_method_4_code 14 = .ok (.ireturn, 1) := by decide +kernel
theorem d_S_remove_15 : decode prog_1_method_4_code 15 = .ok (.aload_n 3, 1) := by decide +kernel
theorem d_S_remove_16 : decode prog_1_method_4_code 16 = .ok (.iload_n 2, 1) := by decide +kernel
theorem d_S_remove_17 : decode prog_1_method_4_code 17 = .ok (.invokevirtual 48, 3) := by decide +kernel
theorem d_S_remove_20 : decode prog_1_method_4_code 20 = .ok (.istore 4, 2) := by decide +kernel
theorem d_S_remove_22 : decode prog_1_method_4_code 22 = .ok (.aload_n 0, 1) := by decide +kernel
theorem d_S_remove_23 : decode prog_1_method_4_code 23 = .ok (.getfield 30, 3) := by decide +kernel
theorem d_S_remove_26 : decode prog_1_method_4_code 26 = .ok (.aload_n 3, 1) := by decide +kernel
theorem d_S_remove_27 : decode prog_1_method_4_code 27 = .ok (.iload 4, 2) := by decide +kernel
theorem d_S_remove_29 : decode prog_1_method_4_code 29 = .ok (.invokevirtual 103, 3) := by decide +kernel
theorem d_S_remove_32 : decode prog_1_method_4_code 32 = .ok (.invokevirtual 106, 3) := by decide +kernel
theorem d_S_remove_35 : decode prog_1_method_4_code 35 = .ok (.astore 5, 2) := by decide +kernel
theorem d_S_remove_37 : decode prog_1_method_4_code 37 = .ok (.aload 5, 2) := by decide +kernel
theorem d_S_remove_39 : decode prog_1_method_4_code 39 = .ok (.ifnonnull 5, 3) := by decide +kernel
theorem d_S_remove_42 : decode prog_1_method_4_code 42 = .ok (.iconst (-1), 1) := by decide +kernel
theorem d_S_remove_43 : decode prog_1_method_4_code 43 = .ok (.ireturn, 1) := by decide +kernel
theorem d_S_remove_44 : decode prog_1_method_4_code 44 = .ok (.aload 5, 2) := by decide +kernel
theorem d_S_remove_46 : decode prog_1_method_4_code 46 = .ok (.getfield 109, 3) := by decide +kernel
theorem d_S_remove_49 : decode prog_1_method_4_code 49 = .ok (.iconst 1, 1) := by decide +kernel
theorem d_S_remove_50 : decode prog_1_method_4_code 50 = .ok (.if_icmp .ne 14, 3) := by decide +kernel
theorem d_S_remove_53 : decode prog_1_method_4_code 53 = .ok (.aload 5, 2) := by decide +kernel
theorem d_S_remove_55 : decode prog_1_method_4_code 55 = .ok (.getfield 80, 3) := by decide +kernel
theorem d_S_remove_58 : decode prog_1_method_4_code 58 = .ok (.ifCond .le 6, 3) := by decide +kernel
theorem d_S_remove_61 : decode prog_1_method_4_code 61 = .ok (.bipush (-6), 2) := by decide +kernel
theorem d_S_remove_63 : decode prog_1_method_4_code 63 = .ok (.ireturn, 1) := by decide +kernel
theorem d_S_remove_64 : decode prog_1_method_4_code 64 = .ok (.aload 5, 2) := by decide +kernel
theorem d_S_remove_66 : decode prog_1_method_4_code 66 = .ok (.getfield 112, 3) := by decide +kernel
theorem d_S_remove_69 : decode prog_1_method_4_code 69 = .ok (.ifCond .eq 7, 3) := by decide +kernel
theorem d_S_remove_72 : decode prog_1_method_4_code 72 = .ok (.iconst 1, 1) := by decide +kernel
theorem d_S_remove_73 : decode prog_1_method_4_code 73 = .ok (.goto 4, 3) := by decide +kernel
theorem d_S_remove_76 : decode prog_1_method_4_code 76 = .ok (.iconst 0, 1) := by decide +kernel
theorem d_S_remove_77 : decode prog_1_method_4_code 77 = .ok (.istore 6, 2) := by decide +kernel
theorem d_S_remove_79 : decode prog_1_method_4_code 79 = .ok (.aload_n 0, 1) := by decide +kernel
theorem d_S_remove_80 : decode prog_1_method_4_code 80 = .ok (.iconst 0, 1) := by decide +kernel
theorem d_S_remove_81 : decode prog_1_method_4_code 81 = .ok (.aload_n 3, 1) := by decide +kernel
theorem d_S_remove_82 : decode prog_1_method_4_code 82 = .ok (.invokevirtual 58, 3) := by decide +kernel
theorem d_S_remove_85 : decode prog_1_method_4_code 85 = .ok (.iload 6, 2) := by decide +kernel
theorem d_S_remove_87 : decode prog_1_method_4_code 87 = .ok (.isub, 1) := by decide +kernel
theorem d_S_remove_88 : decode prog_1_method_4_code 88 = .ok (.invokevirtual 61, 3) := by decide +kernel
theorem d_S_remove_91 : decode prog_1_method_4_code 91 = .ok (.ifCond .eq 6, 3) := by decide +kernel
theorem d_S_remove_94 : decode prog_1_method_4_code 94 = .ok (.bipush (-4), 2) := by decide +kernel
theorem d_S_remove_96 : decode prog_1_method_4_code 96 = .ok (.ireturn, 1) := by decide +kernel
theorem d_S_remove_97 : decode prog_1_method_4_code 97 = .ok (.aload_n 3, 1) := by decide +kernel
theorem d_S_remove_98 : decode prog_1_method_4_code 98 = .ok (.iload 4, 2) := by decide +kernel
theorem d_S_remove_100 : decode prog_1_method_4_code 100 = .ok (.invokevirtual 103, 3) := by decide +kernel
theorem d_S_remove_103 : decode prog_1_method_4_code 103 = .ok (.istore 7, 2) := by decide +kernel
theorem d_S_remove_105 : decode prog_1_method_4_code 105 = .ok (.aload_n 3, 1) := by decide +kernel
theorem d_S_remove_106 : decode prog_1_method_4_code 106 = .ok (.iload 4, 2) := by decide +kernel
theorem d_S_remove_108 : decode prog_1_method_4_code 108 = .ok (.invokevirtual 116, 3) := by decide +kernel
theorem d_S_remove_111 : decode prog_1_method_4_code 111 = .ok (.aload 5, 2) := by decide +kernel
theorem d_S_remove_113 : decode prog_1_method_4_code 113 = .ok (.invokevirtual 119, 3) := by decide +kernel
theorem d_S_remove_116 : decode prog_1_method_4_code 116 = .ok (.iload 7, 2) := by decide +kernel
theorem d_S_remove_118 : decode prog_1_method_4_code 118 = .ok (.ireturn, 1) := by decide +kernel
theorem d_S_move_0 : decode prog_1_method_5_code 0 = .ok (.aload_n 0, 1) := by decide +kernel
theorem d_S_move_1 : decode prog_1_method_5_code 1 = .ok (.getfield 30, 3) := by decide +kernel
theorem d_S_move_4 : decode prog_1_method_5_code 4 = .ok (.iload_n 1, 1) := by decide +kernel
theorem d_S_move_5 : decode prog_1_method_5_code 5 = .ok (.invokevirtual 40, 3) := by decide +kernel
theorem d_S_move_8 : decode prog_1_method_5_code 8 = .ok (.astore 5, 2) := by decide +kernel
theorem d_S_move_10 : decode prog_1_method_5_code 10 = .ok (.aload_n 0, 1) := by decide +kernel
theorem d_S_move_11 : decode prog_1_method_5_code 11 = .ok (.getfield 30, 3) := by decide +kernel
theorem d_S_move_14 : decode prog_1_method_5_code 14 = .ok (.iload_n 3, 1) := by decide +kernel
theorem d_S_move_15 : decode prog_1_method_5_code 15 = .ok (.invokevirtual 40, 3) := by decide +kernel
theorem d_S_move_18 : decode prog_1_method_5_code 18 = .ok (.astore 6, 2) := by decide +kernel
theorem d_S_move_20 : decode prog_1_method_5_code 20 = .ok (.aload 5, 2) := by decide +kernel
theorem d_S_move_22 : decode prog_1_method_5_code 22 = .ok (.ifnull 16, 3) := by decide +kernel
theorem d_S_move_25 : decode prog_1_method_5_code 25 = .ok (.aload 6, 2) := by decide +kernel
theorem d_S_move_27 : decode prog_1_method_5_code 27 = .ok (.ifnull 11, 3) := by decide +kernel
theorem d_S_move_30 : decode prog_1_method_5_code 30 = .ok (.iload 4, 2) := by decide +kernel
theorem d_S_move_32 : decode prog_1_method_5_code 32 = .ok (.invokestatic 44, 3) := by decide +kernel
theorem d_S_move_35 : decode prog_1_method_5_code 35 = .ok (.ifCond .ne 5, 3) := by decide +kernel
theorem d_S_move_38 : decode prog_1_method_5_code 38 = .ok (.iconst (-1), 1) := by decide +kernel
theorem d_S_move_39 : decode prog_1_method_5_code 39 = .ok (.ireturn, 1) := by decide +kernel
theorem d_S_move_40 : decode prog_1_method_5_code 40 = .ok (.aload 5, 2) := by decide +kernel
theorem d_S_move_42 : decode prog_1_method_5_code 42 = .ok (.iload_n 2, 1) := by decide +kernel
theorem d_S_move_43 : decode prog_1_method_5_code 43 = .ok (.invokevirtual 48, 3) := by decide +kernel
theorem d_S_move_46 : decode prog_1_method_5_code 46 = .ok (.istore 7, 2) := by decide +kernel
theorem d_S_move_48 : decode prog_1_method_5_code 48 = .ok (.iload 7, 2) := by decide +kernel
theorem d_S_move_50 : decode prog_1_method_5_code 50 = .ok (.iconst (-1), 1) := by decide +kernel
theorem d_S_move_51 : decode prog_1_method_5_code 51 = .ok (.if_icmp .ne 5, 3) := by decide +kernel
theorem d_S_move_54 : decode prog_1_method_5_code 54 = .ok (.iconst (-1), 1) := by decide +kernel
theorem d_S_move_55 : decode prog_1_method_5_code 55 = .ok (.ireturn, 1) := by decide +kernel
theorem d_S_move_56 : decode prog_1_method_5_code 56 = .ok (.aload 6, 2) := by decide +kernel
theorem d_S_move_58 : decode prog_1_method_5_code 58 = .ok (.iload 4, 2) := by decide +kernel
theorem d_S_move_60 : decode prog_1_method_5_code 60 = .ok (.invokevirtual 48, 3) := by decide +kernel
theorem d_S_move_63 : decode prog_1_method_5_code 63 = .ok (.iconst (-1), 1) := by decide +kernel
theorem d_S_move_64 : decode prog_1_method_5_code 64 = .ok (.if_icmp .eq 6, 3) := by decide +kernel
theorem d_S_move_67 : decode prog_1_method_5_code 67 = .ok (.bipush (-2), 2) := by decide +kernel
theorem d_S_move_69 : decode prog_1_method_5_code 69 = .ok (.ireturn, 1) := by decide +kernel
theorem d_S_move_70 : decode prog_1_method_5_code 70 = .ok (.aload 5, 2) := by decide +kernel
theorem d_S_move_72 : decode prog_1_method_5_code 72 = .ok (.iload 7, 2) := by decide +kernel
theorem d_S_move_74 : decode prog_1_method_5_code 74 = .ok (.invokevirtual 103, 3) := by decide +kernel
theorem d_S_move_77 : decode prog_1_method_5_code 77 = .ok (.istore 8, 2) := by decide +kernel
theorem d_S_move_79 : decode prog_1_method_5_code 79 = .ok (.aload_n 0, 1) := by decide +kernel
theorem d_S_move_80 : decode prog_1_method_5_code 80 = .ok (.getfield 30, 3) := by decide +kernel
theorem d_S_move_83 : decode prog_1_method_5_code 83 = .ok (.iload_n 3, 1) := by decide +kernel
theorem d_S_move_84 : decode prog_1_method_5_code 84 = .ok (.iload 8, 2) := by decide +kernel
theorem d_S_move_86 : decode prog_1_method_5_code 86 = .ok (.invokevirtual 122, 3) := by decide +kernel
theorem d_S_move_89 : decode prog_1_method_5_code 89 = .ok (.ifCond .eq 6, 3) := by decide +kernel
theorem d_S_move_92 : decode prog_1_method_5_code 92 = .ok (.bipush (-7), 2) := by decide +kernel
theorem d_S_move_94 : decode prog_1_method_5_code 94 = .ok (.ireturn, 1) := by decide +kernel
theorem d_S_move_95 : decode prog_1_method_5_code 95 = .ok (.iload_n 3, 1) := by decide +kernel
theorem d_S_move_96 : decode prog_1_method_5_code 96 = .ok (.iload_n 1, 1) := by decide +kernel
theorem d_S_move_97 : decode prog_1_method_5_code 97 = .ok (.if_icmp .ne 7, 3) := by decide +kernel
theorem d_S_move_100 : decode prog_1_method_5_code 100 = .ok (.iconst 0, 1) := by decide +kernel
theorem d_S_move_101 : decode prog_1_method_5_code 101 = .ok (.goto 8, 3) := by decide +kernel
theorem d_S_move_104 : decode prog_1_method_5_code 104 = .ok (.aload 6, 2) := by decide +kernel
theorem d_S_move_106 : decode prog_1_method_5_code 106 = .ok (.invokevirtual 58, 3) := by decide +kernel
theorem d_S_move_109 : decode prog_1_method_5_code 109 = .ok (.istore 9, 2) := by decide +kernel
theorem d_S_move_111 : decode prog_1_method_5_code 111 = .ok (.aload_n 0, 1) := by decide +kernel
theorem d_S_move_112 : decode prog_1_method_5_code 112 = .ok (.iconst 0, 1) := by decide +kernel
theorem d_S_move_113 : decode prog_1_method_5_code 113 = .ok (.aload 5, 2) := by decide +kernel
theorem d_S_move_115 : decode prog_1_method_5_code 115 = .ok (.invokevirtual 58, 3) := by decide +kernel
theorem d_S_move_118 : decode prog_1_method_5_code 118 = .ok (.iload 9, 2) := by decide +kernel
theorem d_S_move_120 : decode prog_1_method_5_code 120 = .ok (.iadd, 1) := by decide +kernel
theorem d_S_move_121 : decode prog_1_method_5_code 121 = .ok (.invokevirtual 61, 3) := by decide +kernel
theorem d_S_move_124 : decode prog_1_method_5_code 124 = .ok (.ifCond .eq 6, 3) := by decide +kernel
theorem d_S_move_127 : decode prog_1_method_5_code 127 = .ok (.bipush (-4), 2) := by decide +kernel
theorem d_S_move_129 : decode prog_1_method_5_code 129 = .ok (.ireturn, 1) := by decide +kernel
theorem d_S_move_130 : decode prog_1_method_5_code 130 = .ok (.aload 5, 2) := by decide +kernel
theorem d_S_move_132 : decode prog_1_method_5_code 132 = .ok (.iload 7, 2) := by decide +kernel
theorem d_S_move_134 : decode prog_1_method_5_code 134 = .ok (.invokevirtual 116, 3) := by decide +kernel
theorem d_S_move_137 : decode prog_1_method_5_code 137 = .ok (.aload 6, 2) := by decide +kernel
theorem d_S_move_139 : decode prog_1_method_5_code 139 = .ok (.iload 4, 2) := by decide +kernel
theorem d_S_move_141 : decode prog_1_method_5_code 141 = .ok (.iload 8, 2) := by decide +kernel
theorem d_S_move_143 : decode prog_1_method_5_code 143 = .ok (.invokevirtual 72, 3) := by decide +kernel
theorem d_S_move_146 : decode prog_1_method_5_code 146 = .ok (.iload 8, 2) := by decide +kernel
theorem d_S_move_148 : decode prog_1_method_5_code 148 = .ok (.ireturn, 1) := by decide +kernel
theorem d_S_close_0 : decode prog_1_method_6_code 0 = .ok (.aload_n 0, 1) := by decide +kernel
theorem d_S_close_1 : decode prog_1_method_6_code 1 = .ok (.getfield 30, 3) := by decide +kernel
theorem d_S_close_4 : decode prog_1_method_6_code 4 = .ok (.invokevirtual 125, 3) := by decide +kernel
theorem d_S_close_7 : decode prog_1_method_6_code 7 = .ok (.istore_n 1, 1) := by decide +kernel
theorem d_S_close_8 : decode prog_1_method_6_code 8 = .ok (.iload_n 1, 1) := by decide +kernel
theorem d_S_close_9 : decode prog_1_method_6_code 9 = .ok (.ifCond .ne 5, 3) := by decide +kernel
theorem d_S_close_12 : decode prog_1_method_6_code 12 = .ok (.iconst 0, 1) := by decide +kernel
theorem d_S_close_13 : decode prog_1_method_6_code 13 = .ok (.ireturn, 1) := by decide +kernel
theorem d_S_close_14 : decode prog_1_method_6_code 14 = .ok (.aload_n 0, 1) := by decide +kernel
theorem d_S_close_15 : decode prog_1_method_6_code 15 = .ok (.iconst 0, 1) := by decide +kernel
theorem d_S_close_16 : decode prog_1_method_6_code 16 = .ok (.iconst 0, 1) := by decide +kernel
theorem d_S_close_17 : decode prog_1_method_6_code 17 = .ok (.invokevirtual 61, 3) := by decide +kernel
theorem d_S_close_20 : decode prog_1_method_6_code 20 = .ok (.ifCond .eq 6, 3) := by decide +kernel
theorem d_S_close_23 : decode prog_1_method_6_code 23 = .ok (.bipush (-4), 2) := by decide +kernel
theorem d_S_close_25 : decode prog_1_method_6_code 25 = .ok (.ireturn, 1) := by decide +kernel
theorem d_S_close_26 : decode prog_1_method_6_code 26 = .ok (.aload_n 0, 1) := by decide +kernel
theorem d_S_close_27 : decode prog_1_method_6_code 27 = .ok (.invokevirtual 128, 3) := by decide +kernel
theorem d_S_close_30 : decode prog_1_method_6_code 30 = .ok (.ifCond .eq 16, 3) := by decide +kernel
theorem d_S_close_33 : decode prog_1_method_6_code 33 = .ok (.aload_n 0, 1) := by decide +kernel
theorem d_S_close_34 : decode prog_1_method_6_code 34 = .ok (.aload_n 0, 1) := by decide +kernel
theorem d_S_close_35 : decode prog_1_method_6_code 35 = .ok (.invokevirtual 131, 3) := by decide +kernel
theorem d_S_close_38 : decode prog_1_method_6_code 38 = .ok (.iconst 1, 1) := by decide +kernel
theorem d_S_close_39 : decode prog_1_method_6_code 39 = .ok (.iadd, 1) := by decide +kernel
theorem d_S_close_40 : decode prog_1_method_6_code 40 = .ok (.invokevirtual 134, 3) := by decide +kernel
theorem d_S_close_43 : decode prog_1_method_6_code 43 = .ok (.ifCond .ne 10, 3) := by decide +kernel
theorem d_S_close_46 : decode prog_1_method_6_code 46 = .ok (.aload_n 0, 1) := by decide +kernel
theorem d_S_close_47 : decode prog_1_method_6_code 47 = .ok (.invokevirtual 97, 3) := by decide +kernel
theorem d_S_close_50 : decode prog_1_method_6_code 50 = .ok (.bipush (-5), 2) := by decide +kernel
theorem d_S_close_52 : decode prog_1_method_6_code 52 = .ok (.ireturn, 1) := by decide +kernel
theorem d_S_close_53 : decode prog_1_method_6_code 53 = .ok (.iload_n 1, 1) := by decide +kernel
theorem d_S_close_54 : decode prog_1_method_6_code 54 = .ok (.iconst 1, 1) := by decide +kernel
theorem d_S_close_55 : decode prog_1_method_6_code 55 = .ok (.iadd, 1) := by decide +kernel
theorem d_S_close_56 : decode prog_1_method_6_code 56 = .ok (.ireturn, 1) := by decide +kernel
theorem d_S_arm_0 : decode prog_1_method_7_code 0 = .ok (.iload_n 1, 1) := by decide +kernel
theorem d_S_arm_1 : decode prog_1_method_7_code 1 = .ok (.ifCond .lt 10, 3) := by decide +kernel
theorem d_S_arm_4 : decode prog_1_method_7_code 4 = .ok (.iload_n 1, 1) := by decide +kernel
theorem d_S_arm_5 : decode prog_1_method_7_code 5 = .ok (.sipush 1000, 3) := by decide +kernel
theorem d_S_arm_8 : decode prog_1_method_7_code 8 = .ok (.if_icmp .le 5, 3) := by decide +kernel
theorem d_S_arm_11 : decode prog_1_method_7_code 11 = .ok (.iconst 0, 1) := by decide +kernel
theorem d_S_arm_12 : decode prog_1_method_7_code 12 = .ok (.ireturn, 1) := by decide +kernel
theorem d_S_arm_13 : decode prog_1_method_7_code 13 = .ok (.aload_n 0, 1) := by decide +kernel
theorem d_S_arm_14 : decode prog_1_method_7_code 14 = .ok (.getfield 23, 3) := by decide +kernel
theorem d_S_arm_17 : decode prog_1_method_7_code 17 = .ok (.iload_n 1, 1) := by decide +kernel
theorem d_S_arm_18 : decode prog_1_method_7_code 18 = .ok (.putfield 137, 3) := by decide +kernel
theorem d_S_arm_21 : decode prog_1_method_7_code 21 = .ok (.iconst 1, 1) := by decide +kernel
theorem d_S_arm_22 : decode prog_1_method_7_code 22 = .ok (.ireturn, 1) := by decide +kernel
theorem d_S_crash_0 : decode prog_1_method_8_code 0 = .ok (.aload_n 0, 1) := by decide +kernel
theorem d_S_crash_1 : decode prog_1_method_8_code 1 = .ok (.invokevirtual 97, 3) := by decide +kernel
theorem d_S_crash_4 : decode prog_1_method_8_code 4 = .ok (.aload_n 0, 1) := by decide +kernel
theorem d_S_crash_5 : decode prog_1_method_8_code 5 = .ok (.getfield 23, 3) := by decide +kernel
theorem d_S_crash_8 : decode prog_1_method_8_code 8 = .ok (.iconst (-1), 1) := by decide +kernel
theorem d_S_crash_9 : decode prog_1_method_8_code 9 = .ok (.putfield 137, 3) := by decide +kernel
theorem d_S_crash_12 : decode prog_1_method_8_code 12 = .ok (.aload_n 0, 1) := by decide +kernel
theorem d_S_crash_13 : decode prog_1_method_8_code 13 = .ok (.invokevirtual 131, 3) := by decide +kernel
theorem d_S_crash_16 : decode prog_1_method_8_code 16 = .ok (.ireturn, 1) := by decide +kernel
theorem d_S_spoil_0 : decode prog_1_method_9_code 0 = .ok (.aload_n 0, 1) := by decide +kernel
theorem d_S_spoil_1 : decode prog_1_method_9_code 1 = .ok (.getfield 23, 3) := by decide +kernel
theorem d_S_spoil_4 : decode prog_1_method_9_code 4 = .ok (.iload_n 1, 1) := by decide +kernel
theorem d_S_spoil_5 : decode prog_1_method_9_code 5 = .ok (.invokevirtual 140, 3) := by decide +kernel
theorem d_S_spoil_8 : decode prog_1_method_9_code 8 = .ok (.ifCond .ne 5, 3) := by decide +kernel
theorem d_S_spoil_11 : decode prog_1_method_9_code 11 = .ok (.iconst 0, 1) := by decide +kernel
theorem d_S_spoil_12 : decode prog_1_method_9_code 12 = .ok (.ireturn, 1) := by decide +kernel
theorem d_S_spoil_13 : decode prog_1_method_9_code 13 = .ok (.aload_n 0, 1) := by decide +kernel
theorem d_S_spoil_14 : decode prog_1_method_9_code 14 = .ok (.getfield 23, 3) := by decide +kernel
theorem d_S_spoil_17 : decode prog_1_method_9_code 17 = .ok (.iload_n 1, 1) := by decide +kernel
theorem d_S_spoil_18 : decode prog_1_method_9_code 18 = .ok (.invokevirtual 143, 3) := by decide +kernel
theorem d_S_spoil_21 : decode prog_1_method_9_code 21 = .ok (.iconst 1, 1) := by decide +kernel
theorem d_S_spoil_22 : decode prog_1_method_9_code 22 = .ok (.ireturn, 1) := by decide +kernel
theorem d_S_left_0 : decode prog_1_method_10_code 0 = .ok (.aload_n 0, 1) := by decide +kernel
theorem d_S_left_1 : decode prog_1_method_10_code 1 = .ok (.getfield 23, 3) := by decide +kernel
theorem d_S_left_4 : decode prog_1_method_10_code 4 = .ok (.invokevirtual 146, 3) := by decide +kernel
theorem d_S_left_7 : decode prog_1_method_10_code 7 = .ok (.ireturn, 1) := by decide +kernel
theorem d_S_changed_0 : decode prog_1_method_11_code 0 = .ok (.aload_n 0, 1) := by decide +kernel
theorem d_S_changed_1 : decode prog_1_method_11_code 1 = .ok (.getfield 30, 3) := by decide +kernel
theorem d_S_changed_4 : decode prog_1_method_11_code 4 = .ok (.invokevirtual 125, 3) := by decide +kernel
theorem d_S_changed_7 : decode prog_1_method_11_code 7 = .ok (.ireturn, 1) := by decide +kernel
theorem d_S_tables_0 : decode prog_1_method_12_code 0 = .ok (.iconst 0, 1) := by decide +kernel
theorem d_S_tables_1 : decode prog_1_method_12_code 1 = .ok (.istore_n 1, 1) := by decide +kernel
theorem d_S_tables_2 : decode prog_1_method_12_code 2 = .ok (.iconst 0, 1) := by decide +kernel
theorem d_S_tables_3 : decode prog_1_method_12_code 3 = .ok (.istore_n 2, 1) := by decide +kernel
theorem d_S_tables_4 : decode prog_1_method_12_code 4 = .ok (.iload_n 2, 1) := by decide +kernel
theorem d_S_tables_5 : decode prog_1_method_12_code 5 = .ok (.aload_n 0, 1) := by decide +kernel
theorem d_S_tables_6 : decode prog_1_method_12_code 6 = .ok (.getfield 23, 3) := by decide +kernel
theorem d_S_tables_9 : decode prog_1_method_12_code 9 = .ok (.getfield 84, 3) := by decide +kernel
theorem d_S_tables_12 : decode prog_1_method_12_code 12 = .ok (.if_icmp .ge 20, 3) := by decide +kernel
theorem d_S_tables_15 : decode prog_1_method_12_code 15 = .ok (.aload_n 0, 1) := by decide +kernel
theorem d_S_tables_16 : decode prog_1_method_12_code 16 = .ok (.iload_n 2, 1) := by decide +kernel
theorem d_S_tables_17 : decode prog_1_method_12_code 17 = .ok (.invokevirtual 149, 3) := by decide +kernel
theorem d_S_tables_20 : decode prog_1_method_12_code 20 = .ok (.ifCond .eq 6, 3) := by decide +kernel
theorem d_S_tables_23 : decode prog_1_method_12_code 23 = .ok (.iinc 1 1, 3) := by decide +kernel
theorem d_S_tables_26 : decode prog_1_method_12_code 26 = .ok (.iinc 2 1, 3) := by decide +kernel
theorem d_S_tables_29 : decode prog_1_method_12_code 29 = .ok (.goto (-25), 3) := by decide +kernel
theorem d_S_tables_32 : decode prog_1_method_12_code 32 = .ok (.iload_n 1, 1) := by decide +kernel
theorem d_S_tables_33 : decode prog_1_method_12_code 33 = .ok (.ireturn, 1) := by decide +kernel
theorem d_S_kind_0 : decode prog_1_method_13_code 0 = .ok (.aload_n 0, 1) := by decide +kernel
theorem d_S_kind_1 : decode prog_1_method_13_code 1 = .ok (.iload_n 1, 1) := by decide +kernel
theorem d_S_kind_2 : decode prog_1_method_13_code 2 = .ok (.invokevirtual 152, 3) := by decide +kernel
theorem d_S_kind_5 : decode prog_1_method_13_code 5 = .ok (.iload_n 2, 1) := by decide +kernel
theorem d_S_kind_6 : decode prog_1_method_13_code 6 = .ok (.invokevirtual 106, 3) := by decide +kernel
theorem d_S_kind_9 : decode prog_1_method_13_code 9 = .ok (.astore_n 3, 1) := by decide +kernel
theorem d_S_kind_10 : decode prog_1_method_13_code 10 = .ok (.aload_n 3, 1) := by decide +kernel
theorem d_S_kind_11 : decode prog_1_method_13_code 11 = .ok (.ifnonnull 7, 3) := by decide +kernel
theorem d_S_kind_14 : decode prog_1_method_13_code 14 = .ok (.iconst (-1), 1) := by decide +kernel
theorem d_S_kind_15 : decode prog_1_method_13_code 15 = .ok (.goto 7, 3) := by decide +kernel
theorem d_S_kind_18 : decode prog_1_method_13_code 18 = .ok (.aload_n 3, 1) := by decide +kernel
theorem d_S_kind_19 : decode prog_1_method_13_code 19 = .ok (.getfield 109, 3) := by decide +kernel
theorem d_S_kind_22 : decode prog_1_method_13_code 22 = .ok (.ireturn, 1) := by decide +kernel
theorem d_S_items_0 : decode prog_1_method_14_code 0 = .ok (.aload_n 0, 1) := by decide +kernel
theorem d_S_items_1 : decode prog_1_method_14_code 1 = .ok (.iload_n 1, 1) := by decide +kernel
theorem d_S_items_2 : decode prog_1_method_14_code 2 = .ok (.invokevirtual 152, 3) := by decide +kernel
theorem d_S_items_5 : decode prog_1_method_14_code 5 = .ok (.iload_n 2, 1) := by decide +kernel
theorem d_S_items_6 : decode prog_1_method_14_code 6 = .ok (.invokevirtual 106, 3) := by decide +kernel
theorem d_S_items_9 : decode prog_1_method_14_code 9 = .ok (.astore_n 3, 1) := by decide +kernel
theorem d_S_items_10 : decode prog_1_method_14_code 10 = .ok (.aload_n 3, 1) := by decide +kernel
theorem d_S_items_11 : decode prog_1_method_14_code 11 = .ok (.ifnonnull 7, 3) := by decide +kernel
theorem d_S_items_14 : decode prog_1_method_14_code 14 = .ok (.iconst (-1), 1) := by decide +kernel
theorem d_S_items_15 : decode prog_1_method_14_code 15 = .ok (.goto 7, 3) := by decide +kernel
theorem d_S_items_18 : decode prog_1_method_14_code 18 = .ok (.aload_n 3, 1) := by decide +kernel
theorem d_S_items_19 : decode prog_1_method_14_code 19 = .ok (.getfield 80, 3) := by decide +kernel
theorem d_S_items_22 : decode prog_1_method_14_code 22 = .ok (.ireturn, 1) := by decide +kernel
theorem d_S_find_0 : decode prog_1_method_15_code 0 = .ok (.aload_n 0, 1) := by decide +kernel
theorem d_S_find_1 : decode prog_1_method_15_code 1 = .ok (.iload_n 1, 1) := by decide +kernel
theorem d_S_find_2 : decode prog_1_method_15_code 2 = .ok (.invokevirtual 152, 3) := by decide +kernel
theorem d_S_find_5 : decode prog_1_method_15_code 5 = .ok (.iload_n 2, 1) := by decide +kernel
theorem d_S_find_6 : decode prog_1_method_15_code 6 = .ok (.invokevirtual 40, 3) := by decide +kernel
theorem d_S_find_9 : decode prog_1_method_15_code 9 = .ok (.astore 4, 2) := by decide +kernel
theorem d_S_find_11 : decode prog_1_method_15_code 11 = .ok (.aload 4, 2) := by decide +kernel
theorem d_S_find_13 : decode prog_1_method_15_code 13 = .ok (.ifnonnull 5, 3) := by decide +kernel
theorem d_S_find_16 : decode prog_1_method_15_code 16 = .ok (.iconst (-1), 1) := by decide +kernel
theorem d_S_find_17 : decode prog_1_method_15_code 17 = .ok (.ireturn, 1) := by decide +kernel
theorem d_S_find_18 : decode prog_1_method_15_code 18 = .ok (.aload 4, 2) := by decide +kernel
theorem d_S_find_20 : decode prog_1_method_15_code 20 = .ok (.iload_n 3, 1) := by decide +kernel
theorem d_S_find_21 : decode prog_1_method_15_code 21 = .ok (.invokevirtual 48, 3) := by decide +kernel
theorem d_S_find_24 : decode prog_1_method_15_code 24 = .ok (.istore 5, 2) := by decide +kernel
theorem d_S_find_26 : decode prog_1_method_15_code 26 = .ok (.iload 5, 2) := by decide +kernel
theorem d_S_find_28 : decode prog_1_method_15_code 28 = .ok (.iconst (-1), 1) := by decide +kernel
theorem d_S_find_29 : decode prog_1_method_15_code 29 = .ok (.if_icmp .ne 7, 3) := by decide +kernel
theorem d_S_find_32 : decode prog_1_method_15_code 32 = .ok (.iconst (-1), 1) := by decide +kernel
theorem d_S_find_33 : decode prog_1_method_15_code 33 = .ok (.goto 10, 3) := by decide +kernel
theorem d_S_find_36 : decode prog_1_method_15_code 36 = .ok (.aload 4, 2) := by decide +kernel
theorem d_S_find_38 : decode prog_1_method_15_code 38 = .ok (.iload 5, 2) := by decide +kernel
theorem d_S_find_40 : decode prog_1_method_15_code 40 = .ok (.invokevirtual 103, 3) := by decide +kernel
theorem d_S_find_43 : decode prog_1_method_15_code 43 = .ok (.ireturn, 1) := by decide +kernel
theorem d_S_item_0 : decode prog_1_method_16_code 0 = .ok (.aload_n 0, 1) := by decide +kernel
theorem d_S_item_1 : decode prog_1_method_16_code 1 = .ok (.iload_n 1, 1) := by decide +kernel
theorem d_S_item_2 : decode prog_1_method_16_code 2 = .ok (.invokevirtual 152, 3) := by decide +kernel
theorem d_S_item_5 : decode prog_1_method_16_code 5 = .ok (.iload_n 2, 1) := by decide +kernel
theorem d_S_item_6 : decode prog_1_method_16_code 6 = .ok (.invokevirtual 40, 3) := by decide +kernel
theorem d_S_item_9 : decode prog_1_method_16_code 9 = .ok (.astore 4, 2) := by decide +kernel
theorem d_S_item_11 : decode prog_1_method_16_code 11 = .ok (.aload 4, 2) := by decide +kernel
theorem d_S_item_13 : decode prog_1_method_16_code 13 = .ok (.ifnull 12, 3) := by decide +kernel
theorem d_S_item_16 : decode prog_1_method_16_code 16 = .ok (.aload 4, 2) := by decide +kernel
theorem d_S_item_18 : decode prog_1_method_16_code 18 = .ok (.iload_n 3, 1) := by decide +kernel
theorem d_S_item_19 : decode prog_1_method_16_code 19 = .ok (.invokevirtual 156, 3) := by decide +kernel
theorem d_S_item_22 : decode prog_1_method_16_code 22 = .ok (.ifCond .ne 7, 3) := by decide +kernel
theorem d_S_item_25 : decode prog_1_method_16_code 25 = .ok (.iconst (-1), 1) := by decide +kernel
theorem d_S_item_26 : decode prog_1_method_16_code 26 = .ok (.goto 10, 3) := by decide +kernel
theorem d_S_item_29 : decode prog_1_method_16_code 29 = .ok (.aload 4, 2) := by decide +kernel
theorem d_S_item_31 : decode prog_1_method_16_code 31 = .ok (.getfield 159, 3) := by decide +kernel
theorem d_S_item_34 : decode prog_1_method_16_code 34 = .ok (.iload_n 3, 1) := by decide +kernel
theorem d_S_item_35 : decode prog_1_method_16_code 35 = .ok (.iaload, 1) := by decide +kernel
theorem d_S_item_36 : decode prog_1_method_16_code 36 = .ok (.ireturn, 1) := by decide +kernel
theorem d_S_block_0 : decode prog_1_method_17_code 0 = .ok (.aload_n 0, 1) := by decide +kernel
theorem d_S_block_1 : decode prog_1_method_17_code 1 = .ok (.iload_n 1, 1) := by decide +kernel
theorem d_S_block_2 : decode prog_1_method_17_code 2 = .ok (.invokevirtual 152, 3) := by decide +kernel
theorem d_S_block_5 : decode prog_1_method_17_code 5 = .ok (.iload_n 2, 1) := by decide +kernel
theorem d_S_block_6 : decode prog_1_method_17_code 6 = .ok (.invokevirtual 76, 3) := by decide +kernel
theorem d_S_block_9 : decode prog_1_method_17_code 9 = .ok (.astore 4, 2) := by decide +kernel
theorem d_S_block_11 : decode prog_1_method_17_code 11 = .ok (.aload 4, 2) := by decide +kernel
theorem d_S_block_13 : decode prog_1_method_17_code 13 = .ok (.ifnull 12, 3) := by decide +kernel
theorem d_S_block_16 : decode prog_1_method_17_code 16 = .ok (.aload 4, 2) := by decide +kernel
theorem d_S_block_18 : decode prog_1_method_17_code 18 = .ok (.iload_n 3, 1) := by decide +kernel
theorem d_S_block_19 : decode prog_1_method_17_code 19 = .ok (.invokevirtual 156, 3) := by decide +kernel
theorem d_S_block_22 : decode prog_1_method_17_code 22 = .ok (.ifCond .ne 5, 3) := by decide +kernel
theorem d_S_block_25 : decode prog_1_method_17_code 25 = .ok (.iconst (-1), 1) := by decide +kernel
theorem d_S_block_26 : decode prog_1_method_17_code 26 = .ok (.ireturn, 1) := by decide +kernel
theorem d_S_block_27 : decode prog_1_method_17_code 27 = .ok (.aload 4, 2) := by decide +kernel
theorem d_S_block_29 : decode prog_1_method_17_code 29 = .ok (.getfield 159, 3) := by decide +kernel
theorem d_S_block_32 : decode prog_1_method_17_code 32 = .ok (.iload_n 3, 1) := by decide +kernel
theorem d_S_block_33 : decode prog_1_method_17_code 33 = .ok (.iaload, 1) := by decide +kernel
theorem d_S_block_34 : decode prog_1_method_17_code 34 = .ok (.istore 5, 2) := by decide +kernel
theorem d_S_block_36 : decode prog_1_method_17_code 36 = .ok (.aload_n 0, 1) := by decide +kernel
theorem d_S_block_37 : decode prog_1_method_17_code 37 = .ok (.getfield 23, 3) := by decide +kernel
theorem d_S_block_40 : decode prog_1_method_17_code 40 = .ok (.iload 5, 2) := by decide +kernel
theorem d_S_block_42 : decode prog_1_method_17_code 42 = .ok (.invokevirtual 163, 3) := by decide +kernel
theorem d_S_block_45 : decode prog_1_method_17_code 45 = .ok (.ifCond .eq 16, 3) := by decide +kernel
theorem d_S_block_48 : decode prog_1_method_17_code 48 = .ok (.aload_n 0, 1) := by decide +kernel
theorem d_S_block_49 : decode prog_1_method_17_code 49 = .ok (.getfield 23, 3) := by decide +kernel
theorem d_S_block_52 : decode prog_1_method_17_code 52 = .ok (.iload 5, 2) := by decide +kernel
theorem d_S_block_54 : decode prog_1_method_17_code 54 = .ok (.iconst 4, 1) := by decide +kernel
theorem d_S_block_55 : decode prog_1_method_17_code 55 = .ok (.invokevirtual 166, 3) := by decide +kernel
theorem d_S_block_58 : decode prog_1_method_17_code 58 = .ok (.goto 5, 3) := by decide +kernel
theorem d_S_block_61 : decode prog_1_method_17_code 61 = .ok (.bipush (-8), 2) := by decide +kernel
theorem d_S_block_63 : decode prog_1_method_17_code 63 = .ok (.ireturn, 1) := by decide +kernel
theorem d_S_word_0 : decode prog_1_method_18_code 0 = .ok (.aload_n 0, 1) := by decide +kernel
theorem d_S_word_1 : decode prog_1_method_18_code 1 = .ok (.getfield 23, 3) := by decide +kernel
theorem d_S_word_4 : decode prog_1_method_18_code 4 = .ok (.iload_n 1, 1) := by decide +kernel
theorem d_S_word_5 : decode prog_1_method_18_code 5 = .ok (.iload_n 2, 1) := by decide +kernel
theorem d_S_word_6 : decode prog_1_method_18_code 6 = .ok (.invokevirtual 169, 3) := by decide +kernel
theorem d_S_word_9 : decode prog_1_method_18_code 9 = .ok (.ifCond .eq 15, 3) := by decide +kernel
theorem d_S_word_12 : decode prog_1_method_18_code 12 = .ok (.aload_n 0, 1) := by decide +kernel
theorem d_S_word_13 : decode prog_1_method_18_code 13 = .ok (.getfield 23, 3) := by decide +kernel
theorem d_S_word_16 : decode prog_1_method_18_code 16 = .ok (.iload_n 1, 1) := by decide +kernel
theorem d_S_word_17 : decode prog_1_method_18_code 17 = .ok (.iload_n 2, 1) := by decide +kernel
theorem d_S_word_18 : decode prog_1_method_18_code 18 = .ok (.invokevirtual 166, 3) := by decide +kernel
theorem d_S_word_21 : decode prog_1_method_18_code 21 = .ok (.goto 4, 3) := by decide +kernel
theorem d_S_word_24 : decode prog_1_method_18_code 24 = .ok (.iconst (-1), 1) := by decide +kernel
theorem d_S_word_25 : decode prog_1_method_18_code 25 = .ok (.ireturn, 1) := by decide +kernel
theorem d_S_isName_0 : decode prog_1_method_19_code 0 = .ok (.iload_n 0, 1) := by decide +kernel
theorem d_S_isName_1 : decode prog_1_method_19_code 1 = .ok (.ifCond .lt 13, 3) := by decide +kernel
theorem d_S_isName_4 : decode prog_1_method_19_code 4 = .ok (.iload_n 0, 1) := by decide +kernel
theorem d_S_isName_5 : decode prog_1_method_19_code 5 = .ok (.bipush 100, 2) := by decide +kernel
theorem d_S_isName_7 : decode prog_1_method_19_code 7 = .ok (.if_icmp .ge 7, 3) := by decide +kernel
theorem d_S_isName_10 : decode prog_1_method_19_code 10 = .ok (.iconst 1, 1) := by decide +kernel
theorem d_S_isName_11 : decode prog_1_method_19_code 11 = .ok (.goto 4, 3) := by decide +kernel
theorem d_S_isName_14 : decode prog_1_method_19_code 14 = .ok (.iconst 0, 1) := by decide +kernel
theorem d_S_isName_15 : decode prog_1_method_19_code 15 = .ok (.ireturn, 1) := by decide +kernel
theorem d_S_isTooFull_0 : decode prog_1_method_20_code 0 = .ok (.aload_n 0, 1) := by decide +kernel
theorem d_S_isTooFull_1 : decode prog_1_method_20_code 1 = .ok (.getfield 23, 3) := by decide +kernel
theorem d_S_isTooFull_4 : decode prog_1_method_20_code 4 = .ok (.invokevirtual 146, 3) := by decide +kernel
theorem d_S_isTooFull_7 : decode prog_1_method_20_code 7 = .ok (.iload_n 1, 1) := by decide +kernel
theorem d_S_isTooFull_8 : decode prog_1_method_20_code 8 = .ok (.isub, 1) := by decide +kernel
theorem d_S_isTooFull_9 : decode prog_1_method_20_code 9 = .ok (.aload_n 0, 1) := by decide +kernel
theorem d_S_isTooFull_10 : decode prog_1_method_20_code 10 = .ok (.getfield 30, 3) := by decide +kernel
theorem d_S_isTooFull_13 : decode prog_1_method_20_code 13 = .ok (.invokevirtual 125, 3) := by decide +kernel
theorem d_S_isTooFull_16 : decode prog_1_method_20_code 16 = .ok (.iload_n 2, 1) := by decide +kernel
theorem d_S_isTooFull_17 : decode prog_1_method_20_code 17 = .ok (.iadd, 1) := by decide +kernel
theorem d_S_isTooFull_18 : decode prog_1_method_20_code 18 = .ok (.iconst 1, 1) := by decide +kernel
theorem d_S_isTooFull_19 : decode prog_1_method_20_code 19 = .ok (.iadd, 1) := by decide +kernel
theorem d_S_isTooFull_20 : decode prog_1_method_20_code 20 = .ok (.if_icmp .ge 7, 3) := by decide +kernel
theorem d_S_isTooFull_23 : decode prog_1_method_20_code 23 = .ok (.iconst 1, 1) := by decide +kernel
theorem d_S_isTooFull_24 : decode prog_1_method_20_code 24 = .ok (.goto 4, 3) := by decide +kernel
theorem d_S_isTooFull_27 : decode prog_1_method_20_code 27 = .ok (.iconst 0, 1) := by decide +kernel
theorem d_S_isTooFull_28 : decode prog_1_method_20_code 28 = .ok (.ireturn, 1) := by decide +kernel
theorem d_S_writeEntries_0 : decode prog_1_method_21_code 0 = .ok (.iconst 0, 1) := by decide +kernel
theorem d_S_writeEntries_1 : decode prog_1_method_21_code 1 = .ok (.istore_n 1, 1) := by decide +kernel
theorem d_S_writeEntries_2 : decode prog_1_method_21_code 2 = .ok (.iload_n 1, 1) := by decide +kernel
theorem d_S_writeEntries_3 : decode prog_1_method_21_code 3 = .ok (.bipush 8, 2) := by decide +kernel
theorem d_S_writeEntries_5 : decode prog_1_method_21_code 5 = .ok (.if_icmp .ge 37, 3) := by decide +kernel
theorem d_S_writeEntries_8 : decode prog_1_method_21_code 8 = .ok (.aload_n 0, 1) := by decide +kernel
theorem d_S_writeEntries_9 : decode prog_1_method_21_code 9 = .ok (.getfield 30, 3) := by decide +kernel
theorem d_S_writeEntries_12 : decode prog_1_method_21_code 12 = .ok (.getfield 65, 3) := by decide +kernel
theorem d_S_writeEntries_15 : decode prog_1_method_21_code 15 = .ok (.iload_n 1, 1) := by decide +kernel
theorem d_S_writeEntries_16 : decode prog_1_method_21_code 16 = .ok (.aaload, 1) := by decide +kernel
theorem d_S_writeEntries_17 : decode prog_1_method_21_code 17 = .ok (.astore_n 2, 1) := by decide +kernel
theorem d_S_writeEntries_18 : decode prog_1_method_21_code 18 = .ok (.aload_n 2, 1) := by decide +kernel
theorem d_S_writeEntries_19 : decode prog_1_method_21_code 19 = .ok (.getfield 112, 3) := by decide +kernel
theorem d_S_writeEntries_22 : decode prog_1_method_21_code 22 = .ok (.ifCond .eq 14, 3) := by decide +kernel
theorem d_S_writeEntries_25 : decode prog_1_method_21_code 25 = .ok (.aload_n 0, 1) := by decide +kernel
theorem d_S_writeEntries_26 : decode prog_1_method_21_code 26 = .ok (.iload_n 1, 1) := by decide +kernel
theorem d_S_writeEntries_27 : decode prog_1_method_21_code 27 = .ok (.aload_n 2, 1) := by decide +kernel
theorem d_S_writeEntries_28 : decode prog_1_method_21_code 28 = .ok (.invokevirtual 172, 3) := by decide +kernel
theorem d_S_writeEntries_31 : decode prog_1_method_21_code 31 = .ok (.ifCond .ne 5, 3) := by decide +kernel
theorem d_S_writeEntries_34 : decode prog_1_method_21_code 34 = .ok (.iconst 0, 1) := by decide +kernel
theorem d_S_writeEntries_35 : decode prog_1_method_21_code 35 = .ok (.ireturn, 1) := by decide +kernel
theorem d_S_writeEntries_36 : decode prog_1_method_21_code 36 = .ok (.iinc 1 1, 3) := by decide +kernel
theorem d_S_writeEntries_39 : decode prog_1_method_21_code 39 = .ok (.goto (-37), 3) := by decide +kernel
theorem d_S_writeEntries_42 : decode prog_1_method_21_code 42 = .ok (.iconst 1, 1) := by decide +kernel
theorem d_S_writeEntries_43 : decode prog_1_method_21_code 43 = .ok (.ireturn, 1) := by decide +kernel
theorem d_S_writeEntry_0 : decode prog_1_method_22_code 0 = .ok (.aload_n 2, 1) := by decide +kernel
theorem d_S_writeEntry_1 : decode prog_1_method_22_code 1 = .ok (.aload_n 0, 1) := by decide +kernel
theorem d_S_writeEntry_2 : decode prog_1_method_22_code 2 = .ok (.getfield 23, 3) := by decide +kernel
theorem d_S_writeEntry_5 : decode prog_1_method_22_code 5 = .ok (.getfield 84, 3) := by decide +kernel
theorem d_S_writeEntry_8 : decode prog_1_method_22_code 8 = .ok (.putfield 176, 3) := by decide +kernel
theorem d_S_writeEntry_11 : decode prog_1_method_22_code 11 = .ok (.aload_n 2, 1) := by decide +kernel
theorem d_S_writeEntry_12 : decode prog_1_method_22_code 12 = .ok (.iconst 0, 1) := by decide +kernel
theorem d_S_writeEntry_13 : decode prog_1_method_22_code 13 = .ok (.putfield 112, 3) := by decide +kernel
theorem d_S_writeEntry_16 : decode prog_1_method_22_code 16 = .ok (.aload_n 0, 1) := by decide +kernel
theorem d_S_writeEntry_17 : decode prog_1_method_22_code 17 = .ok (.getfield 23, 3) := by decide +kernel
theorem d_S_writeEntry_20 : decode prog_1_method_22_code 20 = .ok (.iconst 2, 1) := by decide +kernel
theorem d_S_writeEntry_21 : decode prog_1_method_22_code 21 = .ok (.iload_n 1, 1) := by decide +kernel
theorem d_S_writeEntry_22 : decode prog_1_method_22_code 22 = .ok (.invokevirtual 87, 3) := by decide +kernel
theorem d_S_writeEntry_25 : decode prog_1_method_22_code 25 = .ok (.aload_n 0, 1) := by decide +kernel
theorem d_S_writeEntry_26 : decode prog_1_method_22_code 26 = .ok (.getfield 23, 3) := by decide +kernel
theorem d_S_writeEntry_29 : decode prog_1_method_22_code 29 = .ok (.iconst 4, 1) := by decide +kernel
theorem d_S_writeEntry_30 : decode prog_1_method_22_code 30 = .ok (.aload_n 2, 1) := by decide +kernel
theorem d_S_writeEntry_31 : decode prog_1_method_22_code 31 = .ok (.getfield 109, 3) := by decide +kernel
theorem d_S_writeEntry_34 : decode prog_1_method_22_code 34 = .ok (.invokevirtual 90, 3) := by decide +kernel
theorem d_S_writeEntry_37 : decode prog_1_method_22_code 37 = .ok (.aload_n 0, 1) := by decide +kernel
theorem d_S_writeEntry_38 : decode prog_1_method_22_code 38 = .ok (.getfield 23, 3) := by decide +kernel
theorem d_S_writeEntry_41 : decode prog_1_method_22_code 41 = .ok (.iconst 5, 1) := by decide +kernel
theorem d_S_writeEntry_42 : decode prog_1_method_22_code 42 = .ok (.aload_n 2, 1) := by decide +kernel
theorem d_S_writeEntry_43 : decode prog_1_method_22_code 43 = .ok (.getfield 80, 3) := by decide +kernel
theorem d_S_writeEntry_46 : decode prog_1_method_22_code 46 = .ok (.invokevirtual 90, 3) := by decide +kernel
theorem d_S_writeEntry_49 : decode prog_1_method_22_code 49 = .ok (.iconst 0, 1) := by decide +kernel
theorem d_S_writeEntry_50 : decode prog_1_method_22_code 50 = .ok (.istore_n 3, 1) := by decide +kernel
theorem d_S_writeEntry_51 : decode prog_1_method_22_code 51 = .ok (.iload_n 3, 1) := by decide +kernel
theorem d_S_writeEntry_52 : decode prog_1_method_22_code 52 = .ok (.aload_n 2, 1) := by decide +kernel
theorem d_S_writeEntry_53 : decode prog_1_method_22_code 53 = .ok (.getfield 80, 3) := by decide +kernel
theorem d_S_writeEntry_56 : decode prog_1_method_22_code 56 = .ok (.if_icmp .ge 26, 3) := by decide +kernel
theorem d_S_writeEntry_59 : decode prog_1_method_22_code 59 = .ok (.aload_n 0, 1) := by decide +kernel
theorem d_S_writeEntry_60 : decode prog_1_method_22_code 60 = .ok (.getfield 23, 3) := by decide +kernel
theorem d_S_writeEntry_63 : decode prog_1_method_22_code 63 = .ok (.bipush 6, 2) := by decide +kernel
theorem d_S_writeEntry_65 : decode prog_1_method_22_code 65 = .ok (.iload_n 3, 1) := by decide +kernel
theorem d_S_writeEntry_66 : decode prog_1_method_22_code 66 = .ok (.iadd, 1) := by decide +kernel
theorem d_S_writeEntry_67 : decode prog_1_method_22_code 67 = .ok (.aload_n 2, 1) := by decide +kernel
theorem d_S_writeEntry_68 : decode prog_1_method_22_code 68 = .ok (.getfield 159, 3) := by decide +kernel
theorem d_S_writeEntry_71 : decode prog_1_method_22_code 71 = .ok (.iload_n 3, 1) := by decide +kernel
theorem d_S_writeEntry_72 : decode prog_1_method_22_code 72 = .ok (.iaload, 1) := by decide +kernel
theorem d_S_writeEntry_73 : decode prog_1_method_22_code 73 = .ok (.invokevirtual 90, 3) := by decide +kernel
theorem d_S_writeEntry_76 : decode prog_1_method_22_code 76 = .ok (.iinc 3 1, 3) := by decide +kernel
theorem d_S_writeEntry_79 : decode prog_1_method_22_code 79 = .ok (.goto (-28), 3) := by decide +kernel
theorem d_S_writeEntry_82 : decode prog_1_method_22_code 82 = .ok (.aload_n 0, 1) := by decide +kernel
theorem d_S_writeEntry_83 : decode prog_1_method_22_code 83 = .ok (.getfield 23, 3) := by decide +kernel
theorem d_S_writeEntry_86 : decode prog_1_method_22_code 86 = .ok (.invokevirtual 93, 3) := by decide +kernel
theorem d_S_writeEntry_89 : decode prog_1_method_22_code 89 = .ok (.ireturn, 1) := by decide +kernel
theorem d_S_writeTable_0 : decode prog_1_method_23_code 0 = .ok (.aload_n 0, 1) := by decide +kernel
theorem d_S_writeTable_1 : decode prog_1_method_23_code 1 = .ok (.getfield 23, 3) := by decide +kernel
theorem d_S_writeTable_4 : decode prog_1_method_23_code 4 = .ok (.iconst 3, 1) := by decide +kernel
theorem d_S_writeTable_5 : decode prog_1_method_23_code 5 = .ok (.iload_n 1, 1) := by decide +kernel
theorem d_S_writeTable_6 : decode prog_1_method_23_code 6 = .ok (.invokevirtual 87, 3) := by decide +kernel
theorem d_S_writeTable_9 : decode prog_1_method_23_code 9 = .ok (.iconst 0, 1) := by decide +kernel
theorem d_S_writeTable_10 : decode prog_1_method_23_code 10 = .ok (.istore_n 2, 1) := by decide +kernel
theorem d_S_writeTable_11 : decode prog_1_method_23_code 11 = .ok (.iload_n 2, 1) := by decide +kernel
theorem d_S_writeTable_12 : decode prog_1_method_23_code 12 = .ok (.bipush 8, 2) := by decide +kernel
theorem d_S_writeTable_14 : decode prog_1_method_23_code 14 = .ok (.if_icmp .ge 33, 3) := by decide +kernel
theorem d_S_writeTable_17 : decode prog_1_method_23_code 17 = .ok (.aload_n 0, 1) := by decide +kernel
theorem d_S_writeTable_18 : decode prog_1_method_23_code 18 = .ok (.getfield 23, 3) := by decide +kernel
theorem d_S_writeTable_21 : decode prog_1_method_23_code 21 = .ok (.iconst 4, 1) := by decide +kernel
theorem d_S_writeTable_22 : decode prog_1_method_23_code 22 = .ok (.iload_n 2, 1) := by decide +kernel
theorem d_S_writeTable_23 : decode prog_1_method_23_code 23 = .ok (.iadd, 1) := by decide +kernel
theorem d_S_writeTable_24 : decode prog_1_method_23_code 24 = .ok (.aload_n 0, 1) := by decide +kernel
theorem d_S_writeTable_25 : decode prog_1_method_23_code 25 = .ok (.getfield 30, 3) := by decide +kernel
theorem d_S_writeTable_28 : decode prog_1_method_23_code 28 = .ok (.getfield 65, 3) := by decide +kernel
theorem d_S_writeTable_31 : decode prog_1_method_23_code 31 = .ok (.iload_n 2, 1) := by decide +kernel
theorem d_S_writeTable_32 : decode prog_1_method_23_code 32 = .ok (.aaload, 1) := by decide +kernel
theorem d_S_writeTable_33 : decode prog_1_method_23_code 33 = .ok (.getfield 176, 3) := by decide +kernel
theorem d_S_writeTable_36 : decode prog_1_method_23_code 36 = .ok (.iconst 1, 1) := by decide +kernel
theorem d_S_writeTable_37 : decode prog_1_method_23_code 37 = .ok (.iadd, 1) := by decide +kernel
theorem d_S_writeTable_38 : decode prog_1_method_23_code 38 = .ok (.invokevirtual 90, 3) := by decide +kernel
theorem d_S_writeTable_41 : decode prog_1_method_23_code 41 = .ok (.iinc 2 1, 3) := by decide +kernel
theorem d_S_writeTable_44 : decode prog_1_method_23_code 44 = .ok (.goto (-33), 3) := by decide +kernel
theorem d_S_writeTable_47 : decode prog_1_method_23_code 47 = .ok (.aload_n 0, 1) := by decide +kernel
theorem d_S_writeTable_48 : decode prog_1_method_23_code 48 = .ok (.getfield 23, 3) := by decide +kernel
theorem d_S_writeTable_51 : decode prog_1_method_23_code 51 = .ok (.invokevirtual 93, 3) := by decide +kernel
theorem d_S_writeTable_54 : decode prog_1_method_23_code 54 = .ok (.ireturn, 1) := by decide +kernel
theorem d_S_readBack_0 : decode prog_1_method_24_code 0 = .ok (.aload_n 0, 1) := by decide +kernel
theorem d_S_readBack_1 : decode prog_1_method_24_code 1 = .ok (.invokevirtual 179, 3) := by decide +kernel
theorem d_S_readBack_4 : decode prog_1_method_24_code 4 = .ok (.istore_n 1, 1) := by decide +kernel
theorem d_S_readBack_5 : decode prog_1_method_24_code 5 = .ok (.iload_n 1, 1) := by decide +kernel
theorem d_S_readBack_6 : decode prog_1_method_24_code 6 = .ok (.iconst (-1), 1) := by decide +kernel
theorem d_S_readBack_7 : decode prog_1_method_24_code 7 = .ok (.if_icmp .ne 13, 3) := by decide +kernel
theorem d_S_readBack_10 : decode prog_1_method_24_code 10 = .ok (.aload_n 0, 1) := by decide +kernel
theorem d_S_readBack_11 : decode prog_1_method_24_code 11 = .ok (.getfield 30, 3) := by decide +kernel
theorem d_S_readBack_14 : decode prog_1_method_24_code 14 = .ok (.invokevirtual 37, 3) := by decide +kernel
theorem d_S_readBack_17 : decode prog_1_method_24_code 17 = .ok (.goto 15, 3) := by decide +kernel
theorem d_S_readBack_20 : decode prog_1_method_24_code 20 = .ok (.aload_n 0, 1) := by decide +kernel
theorem d_S_readBack_21 : decode prog_1_method_24_code 21 = .ok (.getfield 30, 3) := by decide +kernel
theorem d_S_readBack_24 : decode prog_1_method_24_code 24 = .ok (.aload_n 0, 1) := by decide +kernel
theorem d_S_readBack_25 : decode prog_1_method_24_code 25 = .ok (.getfield 23, 3) := by decide +kernel
theorem d_S_readBack_28 : decode prog_1_method_24_code 28 = .ok (.iload_n 1, 1) := by decide +kernel
theorem d_S_readBack_29 : decode prog_1_method_24_code 29 = .ok (.invokevirtual 182, 3) := by decide +kernel
theorem d_S_readBack_32 : decode prog_1_method_24_code 32 = .ok (.return_, 1) := by decide +kernel
theorem d_S_treeAt_0 : decode prog_1_method_25_code 0 = .ok (.iload_n 1, 1) := by decide +kernel
theorem d_S_treeAt_1 : decode prog_1_method_25_code 1 = .ok (.ifCond .ne 8, 3) := by decide +kernel
theorem d_S_treeAt_4 : decode prog_1_method_25_code 4 = .ok (.aload_n 0, 1) := by decide +kernel
theorem d_S_treeAt_5 : decode prog_1_method_25_code 5 = .ok (.getfield 30, 3) := by decide +kernel
theorem d_S_treeAt_8 : decode prog_1_method_25_code 8 = .ok (.areturn, 1) := by decide +kernel
theorem d_S_treeAt_9 : decode prog_1_method_25_code 9 = .ok (.aload_n 0, 1) := by decide +kernel
theorem d_S_treeAt_10 : decode prog_1_method_25_code 10 = .ok (.iload_n 1, 1) := by decide +kernel
theorem d_S_treeAt_11 : decode prog_1_method_25_code 11 = .ok (.invokevirtual 186, 3) := by decide +kernel
theorem d_S_treeAt_14 : decode prog_1_method_25_code 14 = .ok (.istore_n 2, 1) := by decide +kernel
theorem d_S_treeAt_15 : decode prog_1_method_25_code 15 = .ok (.iload_n 2, 1) := by decide +kernel
theorem d_S_treeAt_16 : decode prog_1_method_25_code 16 = .ok (.iconst (-1), 1) := by decide +kernel
theorem d_S_treeAt_17 : decode prog_1_method_25_code 17 = .ok (.if_icmp .ne 13, 3) := by decide +kernel
theorem d_S_treeAt_20 : decode prog_1_method_25_code 20 = .ok (.aload_n 0, 1) := by decide +kernel
theorem d_S_treeAt_21 : decode prog_1_method_25_code 21 = .ok (.getfield 34, 3) := by decide +kernel
theorem d_S_treeAt_24 : decode prog_1_method_25_code 24 = .ok (.invokevirtual 189, 3) := by decide +kernel
theorem d_S_treeAt_27 : decode prog_1_method_25_code 27 = .ok (.goto 15, 3) := by decide +kernel
theorem d_S_treeAt_30 : decode prog_1_method_25_code 30 = .ok (.aload_n 0, 1) := by decide +kernel
theorem d_S_treeAt_31 : decode prog_1_method_25_code 31 = .ok (.getfield 34, 3) := by decide +kernel
theorem d_S_treeAt_34 : decode prog_1_method_25_code 34 = .ok (.aload_n 0, 1) := by decide +kernel
theorem d_S_treeAt_35 : decode prog_1_method_25_code 35 = .ok (.getfield 23, 3) := by decide +kernel
theorem d_S_treeAt_38 : decode prog_1_method_25_code 38 = .ok (.iload_n 2, 1) := by decide +kernel
theorem d_S_treeAt_39 : decode prog_1_method_25_code 39 = .ok (.invokevirtual 182, 3) := by decide +kernel
theorem d_S_treeAt_42 : decode prog_1_method_25_code 42 = .ok (.aload_n 0, 1) := by decide +kernel
theorem d_S_treeAt_43 : decode prog_1_method_25_code 43 = .ok (.getfield 34, 3) := by decide +kernel
theorem d_S_treeAt_46 : decode prog_1_method_25_code 46 = .ok (.areturn, 1) := by decide +kernel
theorem d_S_tablePlace_0 : decode prog_1_method_26_code 0 = .ok (.iconst 0, 1) := by decide +kernel
theorem d_S_tablePlace_1 : decode prog_1_method_26_code 1 = .ok (.istore_n 2, 1) := by decide +kernel
theorem d_S_tablePlace_2 : decode prog_1_method_26_code 2 = .ok (.iconst 0, 1) := by decide +kernel
theorem d_S_tablePlace_3 : decode prog_1_method_26_code 3 = .ok (.istore_n 3, 1) := by decide +kernel
theorem d_S_tablePlace_4 : decode prog_1_method_26_code 4 = .ok (.iload_n 3, 1) := by decide +kernel
theorem d_S_tablePlace_5 : decode prog_1_method_26_code 5 = .ok (.aload_n 0, 1) := by decide +kernel
theorem d_S_tablePlace_6 : decode prog_1_method_26_code 6 = .ok (.getfield 23, 3) := by decide +kernel
theorem d_S_tablePlace_9 : decode prog_1_method_26_code 9 = .ok (.getfield 84, 3) := by decide +kernel
theorem d_S_tablePlace_12 : decode prog_1_method_26_code 12 = .ok (.if_icmp .ge 27, 3) := by decide +kernel
theorem d_S_tablePlace_15 : decode prog_1_method_26_code 15 = .ok (.aload_n 0, 1) := by decide +kernel
theorem d_S_tablePlace_16 : decode prog_1_method_26_code 16 = .ok (.iload_n 3, 1) := by decide +kernel
theorem d_S_tablePlace_17 : decode prog_1_method_26_code 17 = .ok (.invokevirtual 149, 3) := by decide +kernel
theorem d_S_tablePlace_20 : decode prog_1_method_26_code 20 = .ok (.ifCond .eq 13, 3) := by decide +kernel
theorem d_S_tablePlace_23 : decode prog_1_method_26_code 23 = .ok (.iinc 2 1, 3) := by decide +kernel
theorem d_S_tablePlace_26 : decode prog_1_method_26_code 26 = .ok (.iload_n 2, 1) := by decide +kernel
theorem d_S_tablePlace_27 : decode prog_1_method_26_code 27 = .ok (.iload_n 1, 1) := by decide +kernel
theorem d_S_tablePlace_28 : decode prog_1_method_26_code 28 = .ok (.if_icmp .ne 5, 3) := by decide +kernel
theorem d_S_tablePlace_31 : decode prog_1_method_26_code 31 = .ok (.iload_n 3, 1) := by decide +kernel
theorem d_S_tablePlace_32 : decode prog_1_method_26_code 32 = .ok (.ireturn, 1) := by decide +kernel
theorem d_S_tablePlace_33 : decode prog_1_method_26_code 33 = .ok (.iinc 3 1, 3) := by decide +kernel
theorem d_S_tablePlace_36 : decode prog_1_method_26_code 36 = .ok (.goto (-32), 3) := by decide +kernel
theorem d_S_tablePlace_39 : decode prog_1_method_26_code 39 = .ok (.iconst (-1), 1) := by decide +kernel
theorem d_S_tablePlace_40 : decode prog_1_method_26_code 40 = .ok (.ireturn, 1) := by decide +kernel
theorem d_S_newestTable_0 : decode prog_1_method_27_code 0 = .ok (.aload_n 0, 1) := by decide +kernel
theorem d_S_newestTable_1 : decode prog_1_method_27_code 1 = .ok (.getfield 23, 3) := by decide +kernel
theorem d_S_newestTable_4 : decode prog_1_method_27_code 4 = .ok (.getfield 84, 3) := by decide +kernel
theorem d_S_newestTable_7 : decode prog_1_method_27_code 7 = .ok (.iconst 1, 1) := by decide +kernel
theorem d_S_newestTable_8 : decode prog_1_method_27_code 8 = .ok (.isub, 1) := by decide +kernel
theorem d_S_newestTable_9 : decode prog_1_method_27_code 9 = .ok (.istore_n 1, 1) := by decide +kernel
theorem d_S_newestTable_10 : decode prog_1_method_27_code 10 = .ok (.iload_n 1, 1) := by decide +kernel
theorem d_S_newestTable_11 : decode prog_1_method_27_code 11 = .ok (.ifCond .lt 19, 3) := by decide +kernel
theorem d_S_newestTable_14 : decode prog_1_method_27_code 14 = .ok (.aload_n 0, 1) := by decide +kernel
theorem d_S_newestTable_15 : decode prog_1_method_27_code 15 = .ok (.iload_n 1, 1) := by decide +kernel
theorem d_S_newestTable_16 : decode prog_1_method_27_code 16 = .ok (.invokevirtual 149, 3) := by decide +kernel
theorem d_S_newestTable_19 : decode prog_1_method_27_code 19 = .ok (.ifCond .eq 5, 3) := by decide +kernel
theorem d_S_newestTable_22 : decode prog_1_method_27_code 22 = .ok (.iload_n 1, 1) := by decide +kernel
theorem d_S_newestTable_23 : decode prog_1_method_27_code 23 = .ok (.ireturn, 1) := by decide +kernel
theorem d_S_newestTable_24 : decode prog_1_method_27_code 24 = .ok (.iinc 1 (-1), 3) := by decide +kernel
theorem d_S_newestTable_27 : decode prog_1_method_27_code 27 = .ok (.goto (-17), 3) := by decide +kernel
theorem d_S_newestTable_30 : decode prog_1_method_27_code 30 = .ok (.iconst (-1), 1) := by decide +kernel
theorem d_S_newestTable_31 : decode prog_1_method_27_code 31 = .ok (.ireturn, 1) := by decide +kernel
theorem d_S_newestNumber_0 : decode prog_1_method_28_code 0 = .ok (.aload_n 0, 1) := by decide +kernel
theorem d_S_newestNumber_1 : decode prog_1_method_28_code 1 = .ok (.invokevirtual 179, 3) := by decide +kernel
theorem d_S_newestNumber_4 : decode prog_1_method_28_code 4 = .ok (.istore_n 1, 1) := by decide +kernel
theorem d_S_newestNumber_5 : decode prog_1_method_28_code 5 = .ok (.iload_n 1, 1) := by decide +kernel
theorem d_S_newestNumber_6 : decode prog_1_method_28_code 6 = .ok (.iconst (-1), 1) := by decide +kernel
theorem d_S_newestNumber_7 : decode prog_1_method_28_code 7 = .ok (.if_icmp .ne 7, 3) := by decide +kernel
theorem d_S_newestNumber_10 : decode prog_1_method_28_code 10 = .ok (.iconst 0, 1) := by decide +kernel
theorem d_S_newestNumber_11 : decode prog_1_method_28_code 11 = .ok (.goto 12, 3) := by decide +kernel
theorem d_S_newestNumber_14 : decode prog_1_method_28_code 14 = .ok (.aload_n 0, 1) := by decide +kernel
theorem d_S_newestNumber_15 : decode prog_1_method_28_code 15 = .ok (.getfield 23, 3) := by decide +kernel
theorem d_S_newestNumber_18 : decode prog_1_method_28_code 18 = .ok (.iload_n 1, 1) := by decide +kernel
theorem d_S_newestNumber_19 : decode prog_1_method_28_code 19 = .ok (.iconst 3, 1) := by decide +kernel
theorem d_S_newestNumber_20 : decode prog_1_method_28_code 20 = .ok (.invokevirtual 166, 3) := by decide +kernel
theorem d_S_newestNumber_23 : decode prog_1_method_28_code 23 = .ok (.ireturn, 1) := by decide +kernel
theorem d_S_isValidTable_0 : decode prog_1_method_29_code 0 = .ok (.aload_n 0, 1) := by decide +kernel
theorem d_S_isValidTable_1 : decode prog_1_method_29_code 1 = .ok (.getfield 23, 3) := by decide +kernel
theorem d_S_isValidTable_4 : decode prog_1_method_29_code 4 = .ok (.iload_n 1, 1) := by decide +kernel
theorem d_S_isValidTable_5 : decode prog_1_method_29_code 5 = .ok (.iconst 0, 1) := by decide +kernel
theorem d_S_isValidTable_6 : decode prog_1_method_29_code 6 = .ok (.invokevirtual 166, 3) := by decide +kernel
theorem d_S_isValidTable_9 : decode prog_1_method_29_code 9 = .ok (.iconst 3, 1) := by decide +kernel
theorem d_S_isValidTable_10 : decode prog_1_method_29_code 10 = .ok (.if_icmp .ne 14, 3) := by decide +kernel
theorem d_S_isValidTable_13 : decode prog_1_method_29_code 13 = .ok (.aload_n 0, 1) := by decide +kernel
theorem d_S_isValidTable_14 : decode prog_1_method_29_code 14 = .ok (.getfield 23, 3) := by decide +kernel
theorem d_S_isValidTable_17 : decode prog_1_method_29_code 17 = .ok (.iload_n 1, 1) := by decide +kernel
theorem d_S_isValidTable_18 : decode prog_1_method_29_code 18 = .ok (.invokevirtual 163, 3) := by decide +kernel
theorem d_S_isValidTable_21 : decode prog_1_method_29_code 21 = .ok (.ifCond .ne 5, 3) := by decide +kernel
theorem d_S_isValidTable_24 : decode prog_1_method_29_code 24 = .ok (.iconst 0, 1) := by decide +kernel
theorem d_S_isValidTable_25 : decode prog_1_method_29_code 25 = .ok (.ireturn, 1) := by decide +kernel
theorem d_S_isValidTable_26 : decode prog_1_method_29_code 26 = .ok (.iconst 0, 1) := by decide +kernel
theorem d_S_isValidTable_27 : decode prog_1_method_29_code 27 = .ok (.istore_n 2, 1) := by decide +kernel
theorem d_S_isValidTable_28 : decode prog_1_method_29_code 28 = .ok (.iload_n 2, 1) := by decide +kernel
theorem d_S_isValidTable_29 : decode prog_1_method_29_code 29 = .ok (.bipush 8, 2) := by decide +kernel
theorem d_S_isValidTable_31 : decode prog_1_method_29_code 31 = .ok (.if_icmp .ge 40, 3) := by decide +kernel
theorem d_S_isValidTable_34 : decode prog_1_method_29_code 34 = .ok (.aload_n 0, 1) := by decide +kernel
theorem d_S_isValidTable_35 : decode prog_1_method_29_code 35 = .ok (.getfield 23, 3) := by decide +kernel
theorem d_S_isValidTable_38 : decode prog_1_method_29_code 38 = .ok (.iload_n 1, 1) := by decide +kernel
theorem d_S_isValidTable_39 : decode prog_1_method_29_code 39 = .ok (.iconst 4, 1) := by decide +kernel
theorem d_S_isValidTable_40 : decode prog_1_method_29_code 40 = .ok (.iload_n 2, 1) := by decide +kernel
theorem d_S_isValidTable_41 : decode prog_1_method_29_code 41 = .ok (.iadd, 1) := by decide +kernel
theorem d_S_isValidTable_42 : decode prog_1_method_29_code 42 = .ok (.invokevirtual 166, 3) := by decide +kernel
theorem d_S_isValidTable_45 : decode prog_1_method_29_code 45 = .ok (.istore_n 3, 1) := by decide +kernel
theorem d_S_isValidTable_46 : decode prog_1_method_29_code 46 = .ok (.iload_n 3, 1) := by decide +kernel
theorem d_S_isValidTable_47 : decode prog_1_method_29_code 47 = .ok (.ifCond .eq 18, 3) := by decide +kernel
theorem d_S_isValidTable_50 : decode prog_1_method_29_code 50 = .ok (.aload_n 0, 1) := by decide +kernel
theorem d_S_isValidTable_51 : decode prog_1_method_29_code 51 = .ok (.getfield 23, 3) := by decide +kernel
theorem d_S_isValidTable_54 : decode prog_1_method_29_code 54 = .ok (.iload_n 3, 1) := by decide +kernel
theorem d_S_isValidTable_55 : decode prog_1_method_29_code 55 = .ok (.iconst 1, 1) := by decide +kernel
theorem d_S_isValidTable_56 : decode prog_1_method_29_code 56 = .ok (.isub, 1) := by decide +kernel
theorem d_S_isValidTable_57 : decode prog_1_method_29_code 57 = .ok (.invokevirtual 163, 3) := by decide +kernel
theorem d_S_isValidTable_60 : decode prog_1_method_29_code 60 = .ok (.ifCond .ne 5, 3) := by decide +kernel
theorem d_S_isValidTable_63 : decode prog_1_method_29_code 63 = .ok (.iconst 0, 1) := by decide +kernel
theorem d_S_isValidTable_64 : decode prog_1_method_29_code 64 = .ok (.ireturn, 1) := by decide +kernel
theorem d_S_isValidTable_65 : decode prog_1_method_29_code 65 = .ok (.iinc 2 1, 3) := by decide +kernel
theorem d_S_isValidTable_68 : decode prog_1_method_29_code 68 = .ok (.goto (-40), 3) := by decide +kernel
theorem d_S_isValidTable_71 : decode prog_1_method_29_code 71 = .ok (.iconst 1, 1) := by decide +kernel
theorem d_S_isValidTable_72 : decode prog_1_method_29_code 72 = .ok (.ireturn, 1) := by decide +kernel
