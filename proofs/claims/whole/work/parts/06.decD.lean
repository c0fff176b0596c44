theorem d_R_make_79 : decode prog_6_method_21_code 79 = .ok (.aload_n 0, 1) := by decide +kernel
theorem d_R_make_80 : decode prog_6_method_21_code 80 = .ok (.iconst 0, 1) := by decide +kernel
theorem d_R_make_81 : decode prog_6_method_21_code 81 = .ok (.iload 5, 2) := by decide +kernel
theorem d_R_make_83 : decode prog_6_method_21_code 83 = .ok (.invokevirtual 107, 3) := by decide +kernel
theorem d_R_make_86 : decode prog_6_method_21_code 86 = .ok (.ifCond .eq 6, 3) := by decide +kernel
theorem d_R_make_89 : decode prog_6_method_21_code 89 = .ok (.bipush (-4), 2) := by decide +kernel
theorem d_R_make_91 : decode prog_6_method_21_code 91 = .ok (.ireturn, 1) := by decide +kernel
theorem d_R_make_92 : decode prog_6_method_21_code 92 = .ok (.aload_n 0, 1) := by decide +kernel
theorem d_R_make_93 : decode prog_6_method_21_code 93 = .ok (.getfield 13, 3) := by decide +kernel
theorem d_R_make_96 : decode prog_6_method_21_code 96 = .ok (.iload 4, 2) := by decide +kernel
theorem d_R_make_98 : decode prog_6_method_21_code 98 = .ok (.iload_n 3, 1) := by decide +kernel
theorem d_R_make_99 : decode prog_6_method_21_code 99 = .ok (.ifCond .eq 7, 3) := by decide +kernel
theorem d_R_make_102 : decode prog_6_method_21_code 102 = .ok (.iconst 1, 1) := by decide +kernel
theorem d_R_make_103 : decode prog_6_method_21_code 103 = .ok (.goto 4, 3) := by decide +kernel
theorem d_R_make_106 : decode prog_6_method_21_code 106 = .ok (.iconst 2, 1) := by decide +kernel
theorem d_R_make_107 : decode prog_6_method_21_code 107 = .ok (.iastore, 1) := by decide +kernel
theorem d_R_make_108 : decode prog_6_method_21_code 108 = .ok (.aload_n 0, 1) := by decide +kernel
theorem d_R_make_109 : decode prog_6_method_21_code 109 = .ok (.getfield 16, 3) := by decide +kernel
theorem d_R_make_112 : decode prog_6_method_21_code 112 = .ok (.iload 4, 2) := by decide +kernel
theorem d_R_make_114 : decode prog_6_method_21_code 114 = .ok (.iconst 0, 1) := by decide +kernel
theorem d_R_make_115 : decode prog_6_method_21_code 115 = .ok (.iastore, 1) := by decide +kernel
theorem d_R_make_116 : decode prog_6_method_21_code 116 = .ok (.aload_n 0, 1) := by decide +kernel
theorem d_R_make_117 : decode prog_6_method_21_code 117 = .ok (.getfield 22, 3) := by decide +kernel
theorem d_R_make_120 : decode prog_6_method_21_code 120 = .ok (.iload 4, 2) := by decide +kernel
theorem d_R_make_122 : decode prog_6_method_21_code 122 = .ok (.iconst 1, 1) := by decide +kernel
theorem d_R_make_123 : decode prog_6_method_21_code 123 = .ok (.bastore, 1) := by decide +kernel
theorem d_R_make_124 : decode prog_6_method_21_code 124 = .ok (.aload_n 0, 1) := by decide +kernel
theorem d_R_make_125 : decode prog_6_method_21_code 125 = .ok (.iload_n 1, 1) := by decide +kernel
theorem d_R_make_126 : decode prog_6_method_21_code 126 = .ok (.bipush 16, 2) := by decide +kernel
theorem d_R_make_128 : decode prog_6_method_21_code 128 = .ok (.iload_n 2, 1) := by decide +kernel
theorem d_R_make_129 : decode prog_6_method_21_code 129 = .ok (.imul, 1) := by decide +kernel
theorem d_R_make_130 : decode prog_6_method_21_code 130 = .ok (.iload 4, 2) := by decide +kernel
theorem d_R_make_132 : decode prog_6_method_21_code 132 = .ok (.iadd, 1) := by decide +kernel
theorem d_R_make_133 : decode prog_6_method_21_code 133 = .ok (.invokevirtual 110, 3) := by decide +kernel
theorem d_R_make_136 : decode prog_6_method_21_code 136 = .ok (.iload 4, 2) := by decide +kernel
theorem d_R_make_138 : decode prog_6_method_21_code 138 = .ok (.ireturn, 1) := by decide +kernel
theorem d_R_write_0 : decode prog_6_method_22_code 0 = .ok (.aload_n 0, 1) := by decide +kernel
theorem d_R_write_1 : decode prog_6_method_22_code 1 = .ok (.iload_n 1, 1) := by decide +kernel
theorem d_R_write_2 : decode prog_6_method_22_code 2 = .ok (.iconst 2, 1) := by decide +kernel
theorem d_R_write_3 : decode prog_6_method_22_code 3 = .ok (.invokevirtual 96, 3) := by decide +kernel
theorem d_R_write_6 : decode prog_6_method_22_code 6 = .ok (.ifCond .eq 33, 3) := by decide +kernel
theorem d_R_write_9 : decode prog_6_method_22_code 9 = .ok (.iload_n 3, 1) := by decide +kernel
theorem d_R_write_10 : decode prog_6_method_22_code 10 = .ok (.ifCond .lt 29, 3) := by decide +kernel
theorem d_R_write_13 : decode prog_6_method_22_code 13 = .ok (.iload_n 3, 1) := by decide +kernel
theorem d_R_write_14 : decode prog_6_method_22_code 14 = .ok (.ldc 53, 2) := by decide +kernel
theorem d_R_write_16 : decode prog_6_method_22_code 16 = .ok (.if_icmp .gt 23, 3) := by decide +kernel
theorem d_R_write_19 : decode prog_6_method_22_code 19 = .ok (.iload_n 2, 1) := by decide +kernel
theorem d_R_write_20 : decode prog_6_method_22_code 20 = .ok (.ifCond .lt 19, 3) := by decide +kernel
theorem d_R_write_23 : decode prog_6_method_22_code 23 = .ok (.iload_n 2, 1) := by decide +kernel
theorem d_R_write_24 : decode prog_6_method_22_code 24 = .ok (.aload_n 0, 1) := by decide +kernel
theorem d_R_write_25 : decode prog_6_method_22_code 25 = .ok (.getfield 16, 3) := by decide +kernel
theorem d_R_write_28 : decode prog_6_method_22_code 28 = .ok (.iload_n 1, 1) := by decide +kernel
theorem d_R_write_29 : decode prog_6_method_22_code 29 = .ok (.iaload, 1) := by decide +kernel
theorem d_R_write_30 : decode prog_6_method_22_code 30 = .ok (.if_icmp .gt 9, 3) := by decide +kernel
theorem d_R_write_33 : decode prog_6_method_22_code 33 = .ok (.iload_n 2, 1) := by decide +kernel
theorem d_R_write_34 : decode prog_6_method_22_code 34 = .ok (.bipush 9, 2) := by decide +kernel
theorem d_R_write_36 : decode prog_6_method_22_code 36 = .ok (.if_icmp .le 5, 3) := by decide +kernel
theorem d_R_write_39 : decode prog_6_method_22_code 39 = .ok (.iconst (-1), 1) := by decide +kernel
theorem d_R_write_40 : decode prog_6_method_22_code 40 = .ok (.ireturn, 1) := by decide +kernel
theorem d_R_write_41 : decode prog_6_method_22_code 41 = .ok (.aload_n 0, 1) := by decide +kernel
theorem d_R_write_42 : decode prog_6_method_22_code 42 = .ok (.iload_n 1, 1) := by decide +kernel
theorem d_R_write_43 : decode prog_6_method_22_code 43 = .ok (.iconst (-1), 1) := by decide +kernel
theorem d_R_write_44 : decode prog_6_method_22_code 44 = .ok (.iconst (-1), 1) := by decide +kernel
theorem d_R_write_45 : decode prog_6_method_22_code 45 = .ok (.invokevirtual 103, 3) := by decide +kernel
theorem d_R_write_48 : decode prog_6_method_22_code 48 = .ok (.istore 4, 2) := by decide +kernel
theorem d_R_write_50 : decode prog_6_method_22_code 50 = .ok (.aload_n 0, 1) := by decide +kernel
theorem d_R_write_51 : decode prog_6_method_22_code 51 = .ok (.iconst 1, 1) := by decide +kernel
theorem d_R_write_52 : decode prog_6_method_22_code 52 = .ok (.iload 4, 2) := by decide +kernel
theorem d_R_write_54 : decode prog_6_method_22_code 54 = .ok (.invokevirtual 107, 3) := by decide +kernel
theorem d_R_write_57 : decode prog_6_method_22_code 57 = .ok (.ifCond .eq 6, 3) := by decide +kernel
theorem d_R_write_60 : decode prog_6_method_22_code 60 = .ok (.bipush (-4), 2) := by decide +kernel
theorem d_R_write_62 : decode prog_6_method_22_code 62 = .ok (.ireturn, 1) := by decide +kernel
theorem d_R_write_63 : decode prog_6_method_22_code 63 = .ok (.aload_n 0, 1) := by decide +kernel
theorem d_R_write_64 : decode prog_6_method_22_code 64 = .ok (.getfield 66, 3) := by decide +kernel
theorem d_R_write_67 : decode prog_6_method_22_code 67 = .ok (.istore 5, 2) := by decide +kernel
theorem d_R_write_69 : decode prog_6_method_22_code 69 = .ok (.aload_n 0, 1) := by decide +kernel
theorem d_R_write_70 : decode prog_6_method_22_code 70 = .ok (.iconst 1, 1) := by decide +kernel
theorem d_R_write_71 : decode prog_6_method_22_code 71 = .ok (.iload_n 1, 1) := by decide +kernel
theorem d_R_write_72 : decode prog_6_method_22_code 72 = .ok (.invokevirtual 114, 3) := by decide +kernel
theorem d_R_write_75 : decode prog_6_method_22_code 75 = .ok (.aload_n 0, 1) := by decide +kernel
theorem d_R_write_76 : decode prog_6_method_22_code 76 = .ok (.getfield 38, 3) := by decide +kernel
theorem d_R_write_79 : decode prog_6_method_22_code 79 = .ok (.iconst 4, 1) := by decide +kernel
theorem d_R_write_80 : decode prog_6_method_22_code 80 = .ok (.iload_n 3, 1) := by decide +kernel
theorem d_R_write_81 : decode prog_6_method_22_code 81 = .ok (.iastore, 1) := by decide +kernel
theorem d_R_write_82 : decode prog_6_method_22_code 82 = .ok (.aload_n 0, 1) := by decide +kernel
theorem d_R_write_83 : decode prog_6_method_22_code 83 = .ok (.invokevirtual 117, 3) := by decide +kernel
theorem d_R_write_86 : decode prog_6_method_22_code 86 = .ok (.ifCond .ne 6, 3) := by decide +kernel
theorem d_R_write_89 : decode prog_6_method_22_code 89 = .ok (.bipush (-5), 2) := by decide +kernel
theorem d_R_write_91 : decode prog_6_method_22_code 91 = .ok (.ireturn, 1) := by decide +kernel
theorem d_R_write_92 : decode prog_6_method_22_code 92 = .ok (.aload_n 0, 1) := by decide +kernel
theorem d_R_write_93 : decode prog_6_method_22_code 93 = .ok (.getfield 19, 3) := by decide +kernel
theorem d_R_write_96 : decode prog_6_method_22_code 96 = .ok (.bipush 10, 2) := by decide +kernel
theorem d_R_write_98 : decode prog_6_method_22_code 98 = .ok (.iload_n 1, 1) := by decide +kernel
theorem d_R_write_99 : decode prog_6_method_22_code 99 = .ok (.imul, 1) := by decide +kernel
theorem d_R_write_100 : decode prog_6_method_22_code 100 = .ok (.iload_n 2, 1) := by decide +kernel
theorem d_R_write_101 : decode prog_6_method_22_code 101 = .ok (.iadd, 1) := by decide +kernel
theorem d_R_write_102 : decode prog_6_method_22_code 102 = .ok (.iload 5, 2) := by decide +kernel
theorem d_R_write_104 : decode prog_6_method_22_code 104 = .ok (.iastore, 1) := by decide +kernel
theorem d_R_write_105 : decode prog_6_method_22_code 105 = .ok (.aload_n 0, 1) := by decide +kernel
theorem d_R_write_106 : decode prog_6_method_22_code 106 = .ok (.getfield 16, 3) := by decide +kernel
theorem d_R_write_109 : decode prog_6_method_22_code 109 = .ok (.iload_n 1, 1) := by decide +kernel
theorem d_R_write_110 : decode prog_6_method_22_code 110 = .ok (.iload_n 2, 1) := by decide +kernel
theorem d_R_write_111 : decode prog_6_method_22_code 111 = .ok (.aload_n 0, 1) := by decide +kernel
theorem d_R_write_112 : decode prog_6_method_22_code 112 = .ok (.getfield 16, 3) := by decide +kernel
theorem d_R_write_115 : decode prog_6_method_22_code 115 = .ok (.iload_n 1, 1) := by decide +kernel
theorem d_R_write_116 : decode prog_6_method_22_code 116 = .ok (.iaload, 1) := by decide +kernel
theorem d_R_write_117 : decode prog_6_method_22_code 117 = .ok (.if_icmp .ne 9, 3) := by decide +kernel
theorem d_R_write_120 : decode prog_6_method_22_code 120 = .ok (.iload_n 2, 1) := by decide +kernel
theorem d_R_write_121 : decode prog_6_method_22_code 121 = .ok (.iconst 1, 1) := by decide +kernel
theorem d_R_write_122 : decode prog_6_method_22_code 122 = .ok (.iadd, 1) := by decide +kernel
theorem d_R_write_123 : decode prog_6_method_22_code 123 = .ok (.goto 9, 3) := by decide +kernel
theorem d_R_write_126 : decode prog_6_method_22_code 126 = .ok (.aload_n 0, 1) := by decide +kernel
theorem d_R_write_127 : decode prog_6_method_22_code 127 = .ok (.getfield 16, 3) := by decide +kernel
theorem d_R_write_130 : decode prog_6_method_22_code 130 = .ok (.iload_n 1, 1) := by decide +kernel
theorem d_R_write_131 : decode prog_6_method_22_code 131 = .ok (.iaload, 1) := by decide +kernel
theorem d_R_write_132 : decode prog_6_method_22_code 132 = .ok (.iastore, 1) := by decide +kernel
theorem d_R_write_133 : decode prog_6_method_22_code 133 = .ok (.aload_n 0, 1) := by decide +kernel
theorem d_R_write_134 : decode prog_6_method_22_code 134 = .ok (.getfield 22, 3) := by decide +kernel
theorem d_R_write_137 : decode prog_6_method_22_code 137 = .ok (.iload_n 1, 1) := by decide +kernel
theorem d_R_write_138 : decode prog_6_method_22_code 138 = .ok (.iconst 1, 1) := by decide +kernel
theorem d_R_write_139 : decode prog_6_method_22_code 139 = .ok (.bastore, 1) := by decide +kernel
theorem d_R_write_140 : decode prog_6_method_22_code 140 = .ok (.iload 5, 2) := by decide +kernel
theorem d_R_write_142 : decode prog_6_method_22_code 142 = .ok (.ireturn, 1) := by decide +kernel
theorem d_R_remove_0 : decode prog_6_method_23_code 0 = .ok (.aload_n 0, 1) := by decide +kernel
theorem d_R_remove_1 : decode prog_6_method_23_code 1 = .ok (.iload_n 1, 1) := by decide +kernel
theorem d_R_remove_2 : decode prog_6_method_23_code 2 = .ok (.iconst 1, 1) := by decide +kernel
theorem d_R_remove_3 : decode prog_6_method_23_code 3 = .ok (.invokevirtual 96, 3) := by decide +kernel
theorem d_R_remove_6 : decode prog_6_method_23_code 6 = .ok (.ifCond .eq 12, 3) := by decide +kernel
theorem d_R_remove_9 : decode prog_6_method_23_code 9 = .ok (.aload_n 0, 1) := by decide +kernel
theorem d_R_remove_10 : decode prog_6_method_23_code 10 = .ok (.iload_n 1, 1) := by decide +kernel
theorem d_R_remove_11 : decode prog_6_method_23_code 11 = .ok (.iload_n 2, 1) := by decide +kernel
theorem d_R_remove_12 : decode prog_6_method_23_code 12 = .ok (.invokevirtual 100, 3) := by decide +kernel
theorem d_R_remove_15 : decode prog_6_method_23_code 15 = .ok (.goto 4, 3) := by decide +kernel
theorem d_R_remove_18 : decode prog_6_method_23_code 18 = .ok (.iconst (-1), 1) := by decide +kernel
theorem d_R_remove_19 : decode prog_6_method_23_code 19 = .ok (.istore_n 3, 1) := by decide +kernel
theorem d_R_remove_20 : decode prog_6_method_23_code 20 = .ok (.iload_n 3, 1) := by decide +kernel
theorem d_R_remove_21 : decode prog_6_method_23_code 21 = .ok (.ifCond .ge 5, 3) := by decide +kernel
theorem d_R_remove_24 : decode prog_6_method_23_code 24 = .ok (.iconst (-1), 1) := by decide +kernel
theorem d_R_remove_25 : decode prog_6_method_23_code 25 = .ok (.ireturn, 1) := by decide +kernel
theorem d_R_remove_26 : decode prog_6_method_23_code 26 = .ok (.aload_n 0, 1) := by decide +kernel
theorem d_R_remove_27 : decode prog_6_method_23_code 27 = .ok (.getfield 19, 3) := by decide +kernel
theorem d_R_remove_30 : decode prog_6_method_23_code 30 = .ok (.bipush 10, 2) := by decide +kernel
theorem d_R_remove_32 : decode prog_6_method_23_code 32 = .ok (.iload_n 1, 1) := by decide +kernel
theorem d_R_remove_33 : decode prog_6_method_23_code 33 = .ok (.imul, 1) := by decide +kernel
theorem d_R_remove_34 : decode prog_6_method_23_code 34 = .ok (.iload_n 3, 1) := by decide +kernel
theorem d_R_remove_35 : decode prog_6_method_23_code 35 = .ok (.iadd, 1) := by decide +kernel
theorem d_R_remove_36 : decode prog_6_method_23_code 36 = .ok (.iaload, 1) := by decide +kernel
theorem d_R_remove_37 : decode prog_6_method_23_code 37 = .ok (.bipush 16, 2) := by decide +kernel
theorem d_R_remove_39 : decode prog_6_method_23_code 39 = .ok (.irem, 1) := by decide +kernel
theorem d_R_remove_40 : decode prog_6_method_23_code 40 = .ok (.istore 4, 2) := by decide +kernel
theorem d_R_remove_42 : decode prog_6_method_23_code 42 = .ok (.aload_n 0, 1) := by decide +kernel
theorem d_R_remove_43 : decode prog_6_method_23_code 43 = .ok (.getfield 13, 3) := by decide +kernel
theorem d_R_remove_46 : decode prog_6_method_23_code 46 = .ok (.iload 4, 2) := by decide +kernel
theorem d_R_remove_48 : decode prog_6_method_23_code 48 = .ok (.iaload, 1) := by decide +kernel
theorem d_R_remove_49 : decode prog_6_method_23_code 49 = .ok (.iconst 1, 1) := by decide +kernel
theorem d_R_remove_50 : decode prog_6_method_23_code 50 = .ok (.if_icmp .ne 16, 3) := by decide +kernel
theorem d_R_remove_53 : decode prog_6_method_23_code 53 = .ok (.aload_n 0, 1) := by decide +kernel
theorem d_R_remove_54 : decode prog_6_method_23_code 54 = .ok (.getfield 16, 3) := by decide +kernel
theorem d_R_remove_57 : decode prog_6_method_23_code 57 = .ok (.iload 4, 2) := by decide +kernel
theorem d_R_remove_59 : decode prog_6_method_23_code 59 = .ok (.iaload, 1) := by decide +kernel
theorem d_R_remove_60 : decode prog_6_method_23_code 60 = .ok (.ifCond .le 6, 3) := by decide +kernel
theorem d_R_remove_63 : decode prog_6_method_23_code 63 = .ok (.bipush (-6), 2) := by decide +kernel
theorem d_R_remove_65 : decode prog_6_method_23_code 65 = .ok (.ireturn, 1) := by decide +kernel
theorem d_R_remove_66 : decode prog_6_method_23_code 66 = .ok (.aload_n 0, 1) := by decide +kernel
theorem d_R_remove_67 : decode prog_6_method_23_code 67 = .ok (.iload_n 1, 1) := by decide +kernel
theorem d_R_remove_68 : decode prog_6_method_23_code 68 = .ok (.iconst (-1), 1) := by decide +kernel
theorem d_R_remove_69 : decode prog_6_method_23_code 69 = .ok (.iload 4, 2) := by decide +kernel
theorem d_R_remove_71 : decode prog_6_method_23_code 71 = .ok (.invokevirtual 103, 3) := by decide +kernel
theorem d_R_remove_74 : decode prog_6_method_23_code 74 = .ok (.istore 5, 2) := by decide +kernel
theorem d_R_remove_76 : decode prog_6_method_23_code 76 = .ok (.aload_n 0, 1) := by decide +kernel
theorem d_R_remove_77 : decode prog_6_method_23_code 77 = .ok (.iconst 0, 1) := by decide +kernel
theorem d_R_remove_78 : decode prog_6_method_23_code 78 = .ok (.iload 5, 2) := by decide +kernel
theorem d_R_remove_80 : decode prog_6_method_23_code 80 = .ok (.invokevirtual 107, 3) := by decide +kernel
theorem d_R_remove_83 : decode prog_6_method_23_code 83 = .ok (.ifCond .eq 6, 3) := by decide +kernel
theorem d_R_remove_86 : decode prog_6_method_23_code 86 = .ok (.bipush (-4), 2) := by decide +kernel
theorem d_R_remove_88 : decode prog_6_method_23_code 88 = .ok (.ireturn, 1) := by decide +kernel
theorem d_R_remove_89 : decode prog_6_method_23_code 89 = .ok (.aload_n 0, 1) := by decide +kernel
theorem d_R_remove_90 : decode prog_6_method_23_code 90 = .ok (.iload_n 1, 1) := by decide +kernel
theorem d_R_remove_91 : decode prog_6_method_23_code 91 = .ok (.iload_n 3, 1) := by decide +kernel
theorem d_R_remove_92 : decode prog_6_method_23_code 92 = .ok (.invokevirtual 121, 3) := by decide +kernel
theorem d_R_remove_95 : decode prog_6_method_23_code 95 = .ok (.aload_n 0, 1) := by decide +kernel
theorem d_R_remove_96 : decode prog_6_method_23_code 96 = .ok (.getfield 13, 3) := by decide +kernel
theorem d_R_remove_99 : decode prog_6_method_23_code 99 = .ok (.iload 4, 2) := by decide +kernel
theorem d_R_remove_101 : decode prog_6_method_23_code 101 = .ok (.iconst 0, 1) := by decide +kernel
theorem d_R_remove_102 : decode prog_6_method_23_code 102 = .ok (.iastore, 1) := by decide +kernel
theorem d_R_remove_103 : decode prog_6_method_23_code 103 = .ok (.aload_n 0, 1) := by decide +kernel
theorem d_R_remove_104 : decode prog_6_method_23_code 104 = .ok (.getfield 16, 3) := by decide +kernel
theorem d_R_remove_107 : decode prog_6_method_23_code 107 = .ok (.iload 4, 2) := by decide +kernel
theorem d_R_remove_109 : decode prog_6_method_23_code 109 = .ok (.iconst 0, 1) := by decide +kernel
theorem d_R_remove_110 : decode prog_6_method_23_code 110 = .ok (.iastore, 1) := by decide +kernel
theorem d_R_remove_111 : decode prog_6_method_23_code 111 = .ok (.aload_n 0, 1) := by decide +kernel
theorem d_R_remove_112 : decode prog_6_method_23_code 112 = .ok (.getfield 22, 3) := by decide +kernel
theorem d_R_remove_115 : decode prog_6_method_23_code 115 = .ok (.iload 4, 2) := by decide +kernel
theorem d_R_remove_117 : decode prog_6_method_23_code 117 = .ok (.iconst 0, 1) := by decide +kernel
theorem d_R_remove_118 : decode prog_6_method_23_code 118 = .ok (.bastore, 1) := by decide +kernel
theorem d_R_remove_119 : decode prog_6_method_23_code 119 = .ok (.iload 4, 2) := by decide +kernel
theorem d_R_remove_121 : decode prog_6_method_23_code 121 = .ok (.ireturn, 1) := by decide +kernel
theorem d_R_isBelow_0 : decode prog_6_method_24_code 0 = .ok (.iconst 0, 1) := by decide +kernel
theorem d_R_isBelow_1 : decode prog_6_method_24_code 1 = .ok (.istore_n 3, 1) := by decide +kernel
theorem d_R_isBelow_2 : decode prog_6_method_24_code 2 = .ok (.iload_n 3, 1) := by decide +kernel
theorem d_R_isBelow_3 : decode prog_6_method_24_code 3 = .ok (.bipush 8, 2) := by decide +kernel
theorem d_R_isBelow_5 : decode prog_6_method_24_code 5 = .ok (.if_icmp .ge 25, 3) := by decide +kernel
theorem d_R_isBelow_8 : decode prog_6_method_24_code 8 = .ok (.aload_n 0, 1) := by decide +kernel
theorem d_R_isBelow_9 : decode prog_6_method_24_code 9 = .ok (.getfield 41, 3) := by decide +kernel
theorem d_R_isBelow_12 : decode prog_6_method_24_code 12 = .ok (.iload_n 3, 1) := by decide +kernel
theorem d_R_isBelow_13 : decode prog_6_method_24_code 13 = .ok (.iload_n 3, 1) := by decide +kernel
theorem d_R_isBelow_14 : decode prog_6_method_24_code 14 = .ok (.iload_n 2, 1) := by decide +kernel
theorem d_R_isBelow_15 : decode prog_6_method_24_code 15 = .ok (.if_icmp .ne 7, 3) := by decide +kernel
theorem d_R_isBelow_18 : decode prog_6_method_24_code 18 = .ok (.iconst 1, 1) := by decide +kernel
theorem d_R_isBelow_19 : decode prog_6_method_24_code 19 = .ok (.goto 4, 3) := by decide +kernel
theorem d_R_isBelow_22 : decode prog_6_method_24_code 22 = .ok (.iconst 0, 1) := by decide +kernel
theorem d_R_isBelow_23 : decode prog_6_method_24_code 23 = .ok (.bastore, 1) := by decide +kernel
theorem d_R_isBelow_24 : decode prog_6_method_24_code 24 = .ok (.iinc 3 1, 3) := by decide +kernel
theorem d_R_isBelow_27 : decode prog_6_method_24_code 27 = .ok (.goto (-25), 3) := by decide +kernel
theorem d_R_isBelow_30 : decode prog_6_method_24_code 30 = .ok (.iconst 0, 1) := by decide +kernel
theorem d_R_isBelow_31 : decode prog_6_method_24_code 31 = .ok (.istore_n 3, 1) := by decide +kernel
theorem d_R_isBelow_32 : decode prog_6_method_24_code 32 = .ok (.iload_n 3, 1) := by decide +kernel
theorem d_R_isBelow_33 : decode prog_6_method_24_code 33 = .ok (.bipush 8, 2) := by decide +kernel
theorem d_R_isBelow_35 : decode prog_6_method_24_code 35 = .ok (.if_icmp .ge 89, 3) := by decide +kernel
theorem d_R_isBelow_38 : decode prog_6_method_24_code 38 = .ok (.iconst 0, 1) := by decide +kernel
theorem d_R_isBelow_39 : decode prog_6_method_24_code 39 = .ok (.istore 4, 2) := by decide +kernel
theorem d_R_isBelow_41 : decode prog_6_method_24_code 41 = .ok (.iload 4, 2) := by decide +kernel
theorem d_R_isBelow_43 : decode prog_6_method_24_code 43 = .ok (.bipush 8, 2) := by decide +kernel
theorem d_R_isBelow_45 : decode prog_6_method_24_code 45 = .ok (.if_icmp .ge 73, 3) := by decide +kernel
theorem d_R_isBelow_48 : decode prog_6_method_24_code 48 = .ok (.iconst 0, 1) := by decide +kernel
theorem d_R_isBelow_49 : decode prog_6_method_24_code 49 = .ok (.istore 5, 2) := by decide +kernel
theorem d_R_isBelow_51 : decode prog_6_method_24_code 51 = .ok (.iload 5, 2) := by decide +kernel
theorem d_R_isBelow_53 : decode prog_6_method_24_code 53 = .ok (.aload_n 0, 1) := by decide +kernel
theorem d_R_isBelow_54 : decode prog_6_method_24_code 54 = .ok (.getfield 16, 3) := by decide +kernel
theorem d_R_isBelow_57 : decode prog_6_method_24_code 57 = .ok (.iload 4, 2) := by decide +kernel
theorem d_R_isBelow_59 : decode prog_6_method_24_code 59 = .ok (.iaload, 1) := by decide +kernel
theorem d_R_isBelow_60 : decode prog_6_method_24_code 60 = .ok (.if_icmp .ge 52, 3) := by decide +kernel
theorem d_R_isBelow_63 : decode prog_6_method_24_code 63 = .ok (.aload_n 0, 1) := by decide +kernel
theorem d_R_isBelow_64 : decode prog_6_method_24_code 64 = .ok (.getfield 41, 3) := by decide +kernel
theorem d_R_isBelow_67 : decode prog_6_method_24_code 67 = .ok (.iload 4, 2) := by decide +kernel
theorem d_R_isBelow_69 : decode prog_6_method_24_code 69 = .ok (.baload, 1) := by decide +kernel
theorem d_R_isBelow_70 : decode prog_6_method_24_code 70 = .ok (.ifCond .eq 42, 3) := by decide +kernel
theorem d_R_isBelow_73 : decode prog_6_method_24_code 73 = .ok (.aload_n 0, 1) := by decide +kernel
theorem d_R_isBelow_74 : decode prog_6_method_24_code 74 = .ok (.getfield 13, 3) := by decide +kernel
theorem d_R_isBelow_77 : decode prog_6_method_24_code 77 = .ok (.iload 4, 2) := by decide +kernel
theorem d_R_isBelow_79 : decode prog_6_method_24_code 79 = .ok (.iaload, 1) := by decide +kernel
theorem d_R_isBelow_80 : decode prog_6_method_24_code 80 = .ok (.iconst 1, 1) := by decide +kernel
theorem d_R_isBelow_81 : decode prog_6_method_24_code 81 = .ok (.if_icmp .ne 31, 3) := by decide +kernel
theorem d_R_isBelow_84 : decode prog_6_method_24_code 84 = .ok (.aload_n 0, 1) := by decide +kernel
theorem d_R_isBelow_85 : decode prog_6_method_24_code 85 = .ok (.getfield 41, 3) := by decide +kernel
theorem d_R_isBelow_88 : decode prog_6_method_24_code 88 = .ok (.aload_n 0, 1) := by decide +kernel
theorem d_R_isBelow_89 : decode prog_6_method_24_code 89 = .ok (.getfield 19, 3) := by decide +kernel
theorem d_R_isBelow_92 : decode prog_6_method_24_code 92 = .ok (.bipush 10, 2) := by decide +kernel
theorem d_R_isBelow_94 : decode prog_6_method_24_code 94 = .ok (.iload 4, 2) := by decide +kernel
theorem d_R_isBelow_96 : decode prog_6_method_24_code 96 = .ok (.imul, 1) := by decide +kernel
theorem d_R_isBelow_97 : decode prog_6_method_24_code 97 = .ok (.iload 5, 2) := by decide +kernel
theorem d_R_isBelow_99 : decode prog_6_method_24_code 99 = .ok (.iadd, 1) := by decide +kernel
theorem d_R_isBelow_100 : decode prog_6_method_24_code 100 = .ok (.iaload, 1) := by decide +kernel
theorem d_R_isBelow_101 : decode prog_6_method_24_code 101 = .ok (.bipush 16, 2) := by decide +kernel
theorem d_R_isBelow_103 : decode prog_6_method_24_code 103 = .ok (.irem, 1) := by decide +kernel
theorem d_R_isBelow_104 : decode prog_6_method_24_code 104 = .ok (.iconst 1, 1) := by decide +kernel
theorem d_R_isBelow_105 : decode prog_6_method_24_code 105 = .ok (.bastore, 1) := by decide +kernel
theorem d_R_isBelow_106 : decode prog_6_method_24_code 106 = .ok (.iinc 5 1, 3) := by decide +kernel
theorem d_R_isBelow_109 : decode prog_6_method_24_code 109 = .ok (.goto (-58), 3) := by decide +kernel
theorem d_R_isBelow_112 : decode prog_6_method_24_code 112 = .ok (.iinc 4 1, 3) := by decide +kernel
theorem d_R_isBelow_115 : decode prog_6_method_24_code 115 = .ok (.goto (-74), 3) := by decide +kernel
theorem d_R_isBelow_118 : decode prog_6_method_24_code 118 = .ok (.iinc 3 1, 3) := by decide +kernel
theorem d_R_isBelow_121 : decode prog_6_method_24_code 121 = .ok (.goto (-89), 3) := by decide +kernel
theorem d_R_isBelow_124 : decode prog_6_method_24_code 124 = .ok (.aload_n 0, 1) := by decide +kernel
theorem d_R_isBelow_125 : decode prog_6_method_24_code 125 = .ok (.getfield 41, 3) := by decide +kernel
theorem d_R_isBelow_128 : decode prog_6_method_24_code 128 = .ok (.iload_n 1, 1) := by decide +kernel
theorem d_R_isBelow_129 : decode prog_6_method_24_code 129 = .ok (.baload, 1) := by decide +kernel
theorem d_R_isBelow_130 : decode prog_6_method_24_code 130 = .ok (.ireturn, 1) := by decide +kernel
theorem d_R_move_0 : decode prog_6_method_25_code 0 = .ok (.aload_n 0, 1) := by decide +kernel
theorem d_R_move_1 : decode prog_6_method_25_code 1 = .ok (.iload_n 1, 1) := by decide +kernel
theorem d_R_move_2 : decode prog_6_method_25_code 2 = .ok (.iconst 1, 1) := by decide +kernel
theorem d_R_move_3 : decode prog_6_method_25_code 3 = .ok (.invokevirtual 96, 3) := by decide +kernel
theorem d_R_move_6 : decode prog_6_method_25_code 6 = .ok (.ifCond .eq 12, 3) := by decide +kernel
theorem d_R_move_9 : decode prog_6_method_25_code 9 = .ok (.aload_n 0, 1) := by decide +kernel
theorem d_R_move_10 : decode prog_6_method_25_code 10 = .ok (.iload_n 1, 1) := by decide +kernel
theorem d_R_move_11 : decode prog_6_method_25_code 11 = .ok (.iload_n 2, 1) := by decide +kernel
theorem d_R_move_12 : decode prog_6_method_25_code 12 = .ok (.invokevirtual 100, 3) := by decide +kernel
theorem d_R_move_15 : decode prog_6_method_25_code 15 = .ok (.goto 4, 3) := by decide +kernel
theorem d_R_move_18 : decode prog_6_method_25_code 18 = .ok (.iconst (-1), 1) := by decide +kernel
theorem d_R_move_19 : decode prog_6_method_25_code 19 = .ok (.istore 5, 2) := by decide +kernel
theorem d_R_move_21 : decode prog_6_method_25_code 21 = .ok (.iload 5, 2) := by decide +kernel
theorem d_R_move_23 : decode prog_6_method_25_code 23 = .ok (.ifCond .lt 24, 3) := by decide +kernel
theorem d_R_move_26 : decode prog_6_method_25_code 26 = .ok (.aload_n 0, 1) := by decide +kernel
theorem d_R_move_27 : decode prog_6_method_25_code 27 = .ok (.iload_n 3, 1) := by decide +kernel
theorem d_R_move_28 : decode prog_6_method_25_code 28 = .ok (.iconst 1, 1) := by decide +kernel
theorem d_R_move_29 : decode prog_6_method_25_code 29 = .ok (.invokevirtual 96, 3) := by decide +kernel
theorem d_R_move_32 : decode prog_6_method_25_code 32 = .ok (.ifCond .eq 15, 3) := by decide +kernel
theorem d_R_move_35 : decode prog_6_method_25_code 35 = .ok (.iload 4, 2) := by decide +kernel
theorem d_R_move_37 : decode prog_6_method_25_code 37 = .ok (.ifCond .lt 10, 3) := by decide +kernel
theorem d_R_move_40 : decode prog_6_method_25_code 40 = .ok (.iload 4, 2) := by decide +kernel
theorem d_R_move_42 : decode prog_6_method_25_code 42 = .ok (.bipush 99, 2) := by decide +kernel
theorem d_R_move_44 : decode prog_6_method_25_code 44 = .ok (.if_icmp .le 5, 3) := by decide +kernel
theorem d_R_move_47 : decode prog_6_method_25_code 47 = .ok (.iconst (-1), 1) := by decide +kernel
theorem d_R_move_48 : decode prog_6_method_25_code 48 = .ok (.ireturn, 1) := by decide +kernel
theorem d_R_move_49 : decode prog_6_method_25_code 49 = .ok (.aload_n 0, 1) := by decide +kernel
theorem d_R_move_50 : decode prog_6_method_25_code 50 = .ok (.iload_n 3, 1) := by decide +kernel
theorem d_R_move_51 : decode prog_6_method_25_code 51 = .ok (.iload 4, 2) := by decide +kernel
theorem d_R_move_53 : decode prog_6_method_25_code 53 = .ok (.invokevirtual 100, 3) := by decide +kernel
theorem d_R_move_56 : decode prog_6_method_25_code 56 = .ok (.ifCond .lt 6, 3) := by decide +kernel
theorem d_R_move_59 : decode prog_6_method_25_code 59 = .ok (.bipush (-2), 2) := by decide +kernel
theorem d_R_move_61 : decode prog_6_method_25_code 61 = .ok (.ireturn, 1) := by decide +kernel
theorem d_R_move_62 : decode prog_6_method_25_code 62 = .ok (.aload_n 0, 1) := by decide +kernel
theorem d_R_move_63 : decode prog_6_method_25_code 63 = .ok (.getfield 19, 3) := by decide +kernel
theorem d_R_move_66 : decode prog_6_method_25_code 66 = .ok (.bipush 10, 2) := by decide +kernel
theorem d_R_move_68 : decode prog_6_method_25_code 68 = .ok (.iload_n 1, 1) := by decide +kernel
theorem d_R_move_69 : decode prog_6_method_25_code 69 = .ok (.imul, 1) := by decide +kernel
theorem d_R_move_70 : decode prog_6_method_25_code 70 = .ok (.iload 5, 2) := by decide +kernel
theorem d_R_move_72 : decode prog_6_method_25_code 72 = .ok (.iadd, 1) := by decide +kernel
theorem d_R_move_73 : decode prog_6_method_25_code 73 = .ok (.iaload, 1) := by decide +kernel
theorem d_R_move_74 : decode prog_6_method_25_code 74 = .ok (.bipush 16, 2) := by decide +kernel
theorem d_R_move_76 : decode prog_6_method_25_code 76 = .ok (.irem, 1) := by decide +kernel
theorem d_R_move_77 : decode prog_6_method_25_code 77 = .ok (.istore 6, 2) := by decide +kernel
theorem d_R_move_79 : decode prog_6_method_25_code 79 = .ok (.aload_n 0, 1) := by decide +kernel
theorem d_R_move_80 : decode prog_6_method_25_code 80 = .ok (.iload_n 3, 1) := by decide +kernel
theorem d_R_move_81 : decode prog_6_method_25_code 81 = .ok (.iload 6, 2) := by decide +kernel
theorem d_R_move_83 : decode prog_6_method_25_code 83 = .ok (.invokevirtual 124, 3) := by decide +kernel
theorem d_R_move_86 : decode prog_6_method_25_code 86 = .ok (.ifCond .eq 6, 3) := by decide +kernel
theorem d_R_move_89 : decode prog_6_method_25_code 89 = .ok (.bipush (-7), 2) := by decide +kernel
theorem d_R_move_91 : decode prog_6_method_25_code 91 = .ok (.ireturn, 1) := by decide +kernel
theorem d_R_move_92 : decode prog_6_method_25_code 92 = .ok (.aload_n 0, 1) := by decide +kernel
theorem d_R_move_93 : decode prog_6_method_25_code 93 = .ok (.iload_n 1, 1) := by decide +kernel
theorem d_R_move_94 : decode prog_6_method_25_code 94 = .ok (.iload_n 3, 1) := by decide +kernel
theorem d_R_move_95 : decode prog_6_method_25_code 95 = .ok (.iconst (-1), 1) := by decide +kernel
theorem d_R_move_96 : decode prog_6_method_25_code 96 = .ok (.invokevirtual 103, 3) := by decide +kernel
theorem d_R_move_99 : decode prog_6_method_25_code 99 = .ok (.istore 7, 2) := by decide +kernel
theorem d_R_move_101 : decode prog_6_method_25_code 101 = .ok (.aload_n 0, 1) := by decide +kernel
theorem d_R_move_102 : decode prog_6_method_25_code 102 = .ok (.iconst 0, 1) := by decide +kernel
theorem d_R_move_103 : decode prog_6_method_25_code 103 = .ok (.iload 7, 2) := by decide +kernel
theorem d_R_move_105 : decode prog_6_method_25_code 105 = .ok (.invokevirtual 107, 3) := by decide +kernel
theorem d_R_move_108 : decode prog_6_method_25_code 108 = .ok (.ifCond .eq 6, 3) := by decide +kernel
theorem d_R_move_111 : decode prog_6_method_25_code 111 = .ok (.bipush (-4), 2) := by decide +kernel
theorem d_R_move_113 : decode prog_6_method_25_code 113 = .ok (.ireturn, 1) := by decide +kernel
theorem d_R_move_114 : decode prog_6_method_25_code 114 = .ok (.aload_n 0, 1) := by decide +kernel
theorem d_R_move_115 : decode prog_6_method_25_code 115 = .ok (.iload_n 1, 1) := by decide +kernel
theorem d_R_move_116 : decode prog_6_method_25_code 116 = .ok (.iload 5, 2) := by decide +kernel
theorem d_R_move_118 : decode prog_6_method_25_code 118 = .ok (.invokevirtual 121, 3) := by decide +kernel
theorem d_R_move_121 : decode prog_6_method_25_code 121 = .ok (.aload_n 0, 1) := by decide +kernel
theorem d_R_move_122 : decode prog_6_method_25_code 122 = .ok (.iload_n 3, 1) := by decide +kernel
theorem d_R_move_123 : decode prog_6_method_25_code 123 = .ok (.bipush 16, 2) := by decide +kernel
theorem d_R_move_125 : decode prog_6_method_25_code 125 = .ok (.iload 4, 2) := by decide +kernel
theorem d_R_move_127 : decode prog_6_method_25_code 127 = .ok (.imul, 1) := by decide +kernel
theorem d_R_move_128 : decode prog_6_method_25_code 128 = .ok (.iload 6, 2) := by decide +kernel
theorem d_R_move_130 : decode prog_6_method_25_code 130 = .ok (.iadd, 1) := by decide +kernel
theorem d_R_move_131 : decode prog_6_method_25_code 131 = .ok (.invokevirtual 110, 3) := by decide +kernel
theorem d_R_move_134 : decode prog_6_method_25_code 134 = .ok (.iload 6, 2) := by decide +kernel
theorem d_R_move_136 : decode prog_6_method_25_code 136 = .ok (.ireturn, 1) := by decide +kernel
theorem d_R_writeEntry_0 : decode prog_6_method_26_code 0 = .ok (.aload_n 0, 1) := by decide +kernel
theorem d_R_writeEntry_1 : decode prog_6_method_26_code 1 = .ok (.iconst 2, 1) := by decide +kernel
theorem d_R_writeEntry_2 : decode prog_6_method_26_code 2 = .ok (.iload_n 1, 1) := by decide +kernel
theorem d_R_writeEntry_3 : decode prog_6_method_26_code 3 = .ok (.invokevirtual 114, 3) := by decide +kernel
theorem d_R_writeEntry_6 : decode prog_6_method_26_code 6 = .ok (.aload_n 0, 1) := by decide +kernel
theorem d_R_writeEntry_7 : decode prog_6_method_26_code 7 = .ok (.getfield 38, 3) := by decide +kernel
theorem d_R_writeEntry_10 : decode prog_6_method_26_code 10 = .ok (.iconst 4, 1) := by decide +kernel
theorem d_R_writeEntry_11 : decode prog_6_method_26_code 11 = .ok (.aload_n 0, 1) := by decide +kernel
theorem d_R_writeEntry_12 : decode prog_6_method_26_code 12 = .ok (.getfield 13, 3) := by decide +kernel
theorem d_R_writeEntry_15 : decode prog_6_method_26_code 15 = .ok (.iload_n 1, 1) := by decide +kernel
theorem d_R_writeEntry_16 : decode prog_6_method_26_code 16 = .ok (.iaload, 1) := by decide +kernel
theorem d_R_writeEntry_17 : decode prog_6_method_26_code 17 = .ok (.iastore, 1) := by decide +kernel
theorem d_R_writeEntry_18 : decode prog_6_method_26_code 18 = .ok (.aload_n 0, 1) := by decide +kernel
theorem d_R_writeEntry_19 : decode prog_6_method_26_code 19 = .ok (.getfield 38, 3) := by decide +kernel
theorem d_R_writeEntry_22 : decode prog_6_method_26_code 22 = .ok (.iconst 5, 1) := by decide +kernel
theorem d_R_writeEntry_23 : decode prog_6_method_26_code 23 = .ok (.aload_n 0, 1) := by decide +kernel
theorem d_R_writeEntry_24 : decode prog_6_method_26_code 24 = .ok (.getfield 16, 3) := by decide +kernel
theorem d_R_writeEntry_27 : decode prog_6_method_26_code 27 = .ok (.iload_n 1, 1) := by decide +kernel
theorem d_R_writeEntry_28 : decode prog_6_method_26_code 28 = .ok (.iaload, 1) := by decide +kernel
theorem d_R_writeEntry_29 : decode prog_6_method_26_code 29 = .ok (.iastore, 1) := by decide +kernel
theorem d_R_writeEntry_30 : decode prog_6_method_26_code 30 = .ok (.iconst 0, 1) := by decide +kernel
theorem d_R_writeEntry_31 : decode prog_6_method_26_code 31 = .ok (.istore_n 2, 1) := by decide +kernel
theorem d_R_writeEntry_32 : decode prog_6_method_26_code 32 = .ok (.iload_n 2, 1) := by decide +kernel
theorem d_R_writeEntry_33 : decode prog_6_method_26_code 33 = .ok (.aload_n 0, 1) := by decide +kernel
theorem d_R_writeEntry_34 : decode prog_6_method_26_code 34 = .ok (.getfield 16, 3) := by decide +kernel
theorem d_R_writeEntry_37 : decode prog_6_method_26_code 37 = .ok (.iload_n 1, 1) := by decide +kernel
theorem d_R_writeEntry_38 : decode prog_6_method_26_code 38 = .ok (.iaload, 1) := by decide +kernel
theorem d_R_writeEntry_39 : decode prog_6_method_26_code 39 = .ok (.if_icmp .ge 29, 3) := by decide +kernel
theorem d_R_writeEntry_42 : decode prog_6_method_26_code 42 = .ok (.aload_n 0, 1) := by decide +kernel
theorem d_R_writeEntry_43 : decode prog_6_method_26_code 43 = .ok (.getfield 38, 3) := by decide +kernel
theorem d_R_writeEntry_46 : decode prog_6_method_26_code 46 = .ok (.bipush 6, 2) := by decide +kernel
theorem d_R_writeEntry_48 : decode prog_6_method_26_code 48 = .ok (.iload_n 2, 1) := by decide +kernel
theorem d_R_writeEntry_49 : decode prog_6_method_26_code 49 = .ok (.iadd, 1) := by decide +kernel
theorem d_R_writeEntry_50 : decode prog_6_method_26_code 50 = .ok (.aload_n 0, 1) := by decide +kernel
theorem d_R_writeEntry_51 : decode prog_6_method_26_code 51 = .ok (.getfield 19, 3) := by decide +kernel
theorem d_R_writeEntry_54 : decode prog_6_method_26_code 54 = .ok (.bipush 10, 2) := by decide +kernel
theorem d_R_writeEntry_56 : decode prog_6_method_26_code 56 = .ok (.iload_n 1, 1) := by decide +kernel
theorem d_R_writeEntry_57 : decode prog_6_method_26_code 57 = .ok (.imul, 1) := by decide +kernel
theorem d_R_writeEntry_58 : decode prog_6_method_26_code 58 = .ok (.iload_n 2, 1) := by decide +kernel
theorem d_R_writeEntry_59 : decode prog_6_method_26_code 59 = .ok (.iadd, 1) := by decide +kernel
theorem d_R_writeEntry_60 : decode prog_6_method_26_code 60 = .ok (.iaload, 1) := by decide +kernel
theorem d_R_writeEntry_61 : decode prog_6_method_26_code 61 = .ok (.iastore, 1) := by decide +kernel
theorem d_R_writeEntry_62 : decode prog_6_method_26_code 62 = .ok (.iinc 2 1, 3) := by decide +kernel
theorem d_R_writeEntry_65 : decode prog_6_method_26_code 65 = .ok (.goto (-33), 3) := by decide +kernel
theorem d_R_writeEntry_68 : decode prog_6_method_26_code 68 = .ok (.aload_n 0, 1) := by decide +kernel
theorem d_R_writeEntry_69 : decode prog_6_method_26_code 69 = .ok (.getfield 26, 3) := by decide +kernel
theorem d_R_writeEntry_72 : decode prog_6_method_26_code 72 = .ok (.iload_n 1, 1) := by decide +kernel
theorem d_R_writeEntry_73 : decode prog_6_method_26_code 73 = .ok (.aload_n 0, 1) := by decide +kernel
theorem d_R_writeEntry_74 : decode prog_6_method_26_code 74 = .ok (.getfield 66, 3) := by decide +kernel
theorem d_R_writeEntry_77 : decode prog_6_method_26_code 77 = .ok (.iastore, 1) := by decide +kernel
theorem d_R_writeEntry_78 : decode prog_6_method_26_code 78 = .ok (.aload_n 0, 1) := by decide +kernel
theorem d_R_writeEntry_79 : decode prog_6_method_26_code 79 = .ok (.invokevirtual 117, 3) := by decide +kernel
theorem d_R_writeEntry_82 : decode prog_6_method_26_code 82 = .ok (.ireturn, 1) := by decide +kernel
theorem d_R_close_0 : decode prog_6_method_27_code 0 = .ok (.aload_n 0, 1) := by decide +kernel
theorem d_R_close_1 : decode prog_6_method_27_code 1 = .ok (.iconst (-1), 1) := by decide +kernel
theorem d_R_close_2 : decode prog_6_method_27_code 2 = .ok (.iconst (-1), 1) := by decide +kernel
theorem d_R_close_3 : decode prog_6_method_27_code 3 = .ok (.iconst (-1), 1) := by decide +kernel
theorem d_R_close_4 : decode prog_6_method_27_code 4 = .ok (.invokevirtual 103, 3) := by decide +kernel
theorem d_R_close_7 : decode prog_6_method_27_code 7 = .ok (.istore_n 1, 1) := by decide +kernel
theorem d_R_close_8 : decode prog_6_method_27_code 8 = .ok (.iload_n 1, 1) := by decide +kernel
theorem d_R_close_9 : decode prog_6_method_27_code 9 = .ok (.ifCond .ne 5, 3) := by decide +kernel
theorem d_R_close_12 : decode prog_6_method_27_code 12 = .ok (.iconst 0, 1) := by decide +kernel
theorem d_R_close_13 : decode prog_6_method_27_code 13 = .ok (.ireturn, 1) := by decide +kernel
theorem d_R_close_14 : decode prog_6_method_27_code 14 = .ok (.aload_n 0, 1) := by decide +kernel
theorem d_R_close_15 : decode prog_6_method_27_code 15 = .ok (.getfield 44, 3) := by decide +kernel
theorem d_R_close_18 : decode prog_6_method_27_code 18 = .ok (.aload_n 0, 1) := by decide +kernel
theorem d_R_close_19 : decode prog_6_method_27_code 19 = .ok (.getfield 66, 3) := by decide +kernel
theorem d_R_close_22 : decode prog_6_method_27_code 22 = .ok (.isub, 1) := by decide +kernel
theorem d_R_close_23 : decode prog_6_method_27_code 23 = .ok (.iload_n 1, 1) := by decide +kernel
theorem d_R_close_24 : decode prog_6_method_27_code 24 = .ok (.iconst 1, 1) := by decide +kernel
theorem d_R_close_25 : decode prog_6_method_27_code 25 = .ok (.iadd, 1) := by decide +kernel
theorem d_R_close_26 : decode prog_6_method_27_code 26 = .ok (.if_icmp .ge 6, 3) := by decide +kernel
theorem d_R_close_29 : decode prog_6_method_27_code 29 = .ok (.bipush (-4), 2) := by decide +kernel
theorem d_R_close_31 : decode prog_6_method_27_code 31 = .ok (.ireturn, 1) := by decide +kernel
theorem d_R_close_32 : decode prog_6_method_27_code 32 = .ok (.aload_n 0, 1) := by decide +kernel
theorem d_R_close_33 : decode prog_6_method_27_code 33 = .ok (.invokevirtual 92, 3) := by decide +kernel
theorem d_R_close_36 : decode prog_6_method_27_code 36 = .ok (.istore_n 2, 1) := by decide +kernel
theorem d_R_close_37 : decode prog_6_method_27_code 37 = .ok (.iload_n 2, 1) := by decide +kernel
theorem d_R_close_38 : decode prog_6_method_27_code 38 = .ok (.ifCond .ge 7, 3) := by decide +kernel
theorem d_R_close_41 : decode prog_6_method_27_code 41 = .ok (.iconst 1, 1) := by decide +kernel
theorem d_R_close_42 : decode prog_6_method_27_code 42 = .ok (.goto 16, 3) := by decide +kernel
theorem d_R_close_45 : decode prog_6_method_27_code 45 = .ok (.aload_n 0, 1) := by decide +kernel
theorem d_R_close_46 : decode prog_6_method_27_code 46 = .ok (.getfield 7, 3) := by decide +kernel
theorem d_R_close_49 : decode prog_6_method_27_code 49 = .ok (.bipush 16, 2) := by decide +kernel
theorem d_R_close_51 : decode prog_6_method_27_code 51 = .ok (.iload_n 2, 1) := by decide +kernel
theorem d_R_close_52 : decode prog_6_method_27_code 52 = .ok (.imul, 1) := by decide +kernel
theorem d_R_close_53 : decode prog_6_method_27_code 53 = .ok (.iconst 3, 1) := by decide +kernel
theorem d_R_close_54 : decode prog_6_method_27_code 54 = .ok (.iadd, 1) := by decide +kernel
theorem d_R_close_55 : decode prog_6_method_27_code 55 = .ok (.iaload, 1) := by decide +kernel
theorem d_R_close_56 : decode prog_6_method_27_code 56 = .ok (.iconst 1, 1) := by decide +kernel
theorem d_R_close_57 : decode prog_6_method_27_code 57 = .ok (.iadd, 1) := by decide +kernel
theorem d_R_close_58 : decode prog_6_method_27_code 58 = .ok (.istore_n 3, 1) := by decide +kernel
theorem d_R_close_59 : decode prog_6_method_27_code 59 = .ok (.iconst 0, 1) := by decide +kernel
theorem d_R_close_60 : decode prog_6_method_27_code 60 = .ok (.istore 4, 2) := by decide +kernel
theorem d_R_close_62 : decode prog_6_method_27_code 62 = .ok (.iload 4, 2) := by decide +kernel
theorem d_R_close_64 : decode prog_6_method_27_code 64 = .ok (.bipush 8, 2) := by decide +kernel
theorem d_R_close_66 : decode prog_6_method_27_code 66 = .ok (.if_icmp .ge 31, 3) := by decide +kernel
theorem d_R_close_69 : decode prog_6_method_27_code 69 = .ok (.aload_n 0, 1) := by decide +kernel
theorem d_R_close_70 : decode prog_6_method_27_code 70 = .ok (.getfield 22, 3) := by decide +kernel
theorem d_R_close_73 : decode prog_6_method_27_code 73 = .ok (.iload 4, 2) := by decide +kernel
theorem d_R_close_75 : decode prog_6_method_27_code 75 = .ok (.baload, 1) := by decide +kernel
theorem d_R_close_76 : decode prog_6_method_27_code 76 = .ok (.ifCond .eq 15, 3) := by decide +kernel
theorem d_R_close_79 : decode prog_6_method_27_code 79 = .ok (.aload_n 0, 1) := by decide +kernel
theorem d_R_close_80 : decode prog_6_method_27_code 80 = .ok (.iload 4, 2) := by decide +kernel
theorem d_R_close_82 : decode prog_6_method_27_code 82 = .ok (.invokevirtual 127, 3) := by decide +kernel
theorem d_R_close_85 : decode prog_6_method_27_code 85 = .ok (.ifCond .ne 6, 3) := by decide +kernel
theorem d_R_close_88 : decode prog_6_method_27_code 88 = .ok (.bipush (-5), 2) := by decide +kernel
theorem d_R_close_90 : decode prog_6_method_27_code 90 = .ok (.ireturn, 1) := by decide +kernel
theorem d_R_close_91 : decode prog_6_method_27_code 91 = .ok (.iinc 4 1, 3) := by decide +kernel
theorem d_R_close_94 : decode prog_6_method_27_code 94 = .ok (.goto (-32), 3) := by decide +kernel
theorem d_R_close_97 : decode prog_6_method_27_code 97 = .ok (.aload_n 0, 1) := by decide +kernel
theorem d_R_close_98 : decode prog_6_method_27_code 98 = .ok (.iconst 3, 1) := by decide +kernel
theorem d_R_close_99 : decode prog_6_method_27_code 99 = .ok (.iload_n 3, 1) := by decide +kernel
theorem d_R_close_100 : decode prog_6_method_27_code 100 = .ok (.invokevirtual 114, 3) := by decide +kernel
theorem d_R_close_103 : decode prog_6_method_27_code 103 = .ok (.iconst 0, 1) := by decide +kernel
theorem d_R_close_104 : decode prog_6_method_27_code 104 = .ok (.istore 4, 2) := by decide +kernel
theorem d_R_close_106 : decode prog_6_method_27_code 106 = .ok (.iload 4, 2) := by decide +kernel
theorem d_R_close_108 : decode prog_6_method_27_code 108 = .ok (.bipush 8, 2) := by decide +kernel
theorem d_R_close_110 : decode prog_6_method_27_code 110 = .ok (.if_icmp .ge 41, 3) := by decide +kernel
theorem d_R_close_113 : decode prog_6_method_27_code 113 = .ok (.aload_n 0, 1) := by decide +kernel
theorem d_R_close_114 : decode prog_6_method_27_code 114 = .ok (.getfield 38, 3) := by decide +kernel
theorem d_R_close_117 : decode prog_6_method_27_code 117 = .ok (.iconst 4, 1) := by decide +kernel
theorem d_R_close_118 : decode prog_6_method_27_code 118 = .ok (.iload 4, 2) := by decide +kernel
theorem d_R_close_120 : decode prog_6_method_27_code 120 = .ok (.iadd, 1) := by decide +kernel
theorem d_R_close_121 : decode prog_6_method_27_code 121 = .ok (.aload_n 0, 1) := by decide +kernel
theorem d_R_close_122 : decode prog_6_method_27_code 122 = .ok (.getfield 13, 3) := by decide +kernel
theorem d_R_close_125 : decode prog_6_method_27_code 125 = .ok (.iload 4, 2) := by decide +kernel
theorem d_R_close_127 : decode prog_6_method_27_code 127 = .ok (.iaload, 1) := by decide +kernel
theorem d_R_close_128 : decode prog_6_method_27_code 128 = .ok (.ifCond .ne 7, 3) := by decide +kernel
theorem d_R_close_131 : decode prog_6_method_27_code 131 = .ok (.iconst 0, 1) := by decide +kernel
theorem d_R_close_132 : decode prog_6_method_27_code 132 = .ok (.goto 12, 3) := by decide +kernel
theorem d_R_close_135 : decode prog_6_method_27_code 135 = .ok (.aload_n 0, 1) := by decide +kernel
theorem d_R_close_136 : decode prog_6_method_27_code 136 = .ok (.getfield 26, 3) := by decide +kernel
theorem d_R_close_139 : decode prog_6_method_27_code 139 = .ok (.iload 4, 2) := by decide +kernel
theorem d_R_close_141 : decode prog_6_method_27_code 141 = .ok (.iaload, 1) := by decide +kernel
theorem d_R_close_142 : decode prog_6_method_27_code 142 = .ok (.iconst 1, 1) := by decide +kernel
theorem d_R_close_143 : decode prog_6_method_27_code 143 = .ok (.iadd, 1) := by decide +kernel
theorem d_R_close_144 : decode prog_6_method_27_code 144 = .ok (.iastore, 1) := by decide +kernel
theorem d_R_close_145 : decode prog_6_method_27_code 145 = .ok (.iinc 4 1, 3) := by decide +kernel
theorem d_R_close_148 : decode prog_6_method_27_code 148 = .ok (.goto (-42), 3) := by decide +kernel
theorem d_R_close_151 : decode prog_6_method_27_code 151 = .ok (.aload_n 0, 1) := by decide +kernel
theorem d_R_close_152 : decode prog_6_method_27_code 152 = .ok (.invokevirtual 117, 3) := by decide +kernel
theorem d_R_close_155 : decode prog_6_method_27_code 155 = .ok (.ifCond .ne 6, 3) := by decide +kernel
theorem d_R_close_158 : decode prog_6_method_27_code 158 = .ok (.bipush (-5), 2) := by decide +kernel
theorem d_R_close_160 : decode prog_6_method_27_code 160 = .ok (.ireturn, 1) := by decide +kernel
theorem d_R_close_161 : decode prog_6_method_27_code 161 = .ok (.iconst 0, 1) := by decide +kernel
theorem d_R_close_162 : decode prog_6_method_27_code 162 = .ok (.istore 4, 2) := by decide +kernel
theorem d_R_close_164 : decode prog_6_method_27_code 164 = .ok (.iload 4, 2) := by decide +kernel
theorem d_R_close_166 : decode prog_6_method_27_code 166 = .ok (.bipush 8, 2) := by decide +kernel
theorem d_R_close_168 : decode prog_6_method_27_code 168 = .ok (.if_icmp .ge 17, 3) := by decide +kernel
theorem d_R_close_171 : decode prog_6_method_27_code 171 = .ok (.aload_n 0, 1) := by decide +kernel
theorem d_R_close_172 : decode prog_6_method_27_code 172 = .ok (.getfield 22, 3) := by decide +kernel
theorem d_R_close_175 : decode prog_6_method_27_code 175 = .ok (.iload 4, 2) := by decide +kernel
theorem d_R_close_177 : decode prog_6_method_27_code 177 = .ok (.iconst 0, 1) := by decide +kernel
theorem d_R_close_178 : decode prog_6_method_27_code 178 = .ok (.bastore, 1) := by decide +kernel
theorem d_R_close_179 : decode prog_6_method_27_code 179 = .ok (.iinc 4 1, 3) := by decide +kernel
theorem d_R_close_182 : decode prog_6_method_27_code 182 = .ok (.goto (-18), 3) := by decide +kernel
theorem d_R_close_185 : decode prog_6_method_27_code 185 = .ok (.iload_n 1, 1) := by decide +kernel
theorem d_R_close_186 : decode prog_6_method_27_code 186 = .ok (.iconst 1, 1) := by decide +kernel
theorem d_R_close_187 : decode prog_6_method_27_code 187 = .ok (.iadd, 1) := by decide +kernel
theorem d_R_close_188 : decode prog_6_method_27_code 188 = .ok (.ireturn, 1) := by decide +kernel
theorem d_R_arm_0 : decode prog_6_method_28_code 0 = .ok (.iload_n 1, 1) := by decide +kernel
theorem d_R_arm_1 : decode prog_6_method_28_code 1 = .ok (.ifCond .lt 10, 3) := by decide +kernel
theorem d_R_arm_4 : decode prog_6_method_28_code 4 = .ok (.iload_n 1, 1) := by decide +kernel
theorem d_R_arm_5 : decode prog_6_method_28_code 5 = .ok (.sipush 1000, 3) := by decide +kernel
theorem d_R_arm_8 : decode prog_6_method_28_code 8 = .ok (.if_icmp .le 5, 3) := by decide +kernel
theorem d_R_arm_11 : decode prog_6_method_28_code 11 = .ok (.iconst 0, 1) := by decide +kernel
theorem d_R_arm_12 : decode prog_6_method_28_code 12 = .ok (.ireturn, 1) := by decide +kernel
theorem d_R_arm_13 : decode prog_6_method_28_code 13 = .ok (.aload_n 0, 1) := by decide +kernel
theorem d_R_arm_14 : decode prog_6_method_28_code 14 = .ok (.iconst 1, 1) := by decide +kernel
theorem d_R_arm_15 : decode prog_6_method_28_code 15 = .ok (.putfield 72, 3) := by decide +kernel
theorem d_R_arm_18 : decode prog_6_method_28_code 18 = .ok (.aload_n 0, 1) := by decide +kernel
theorem d_R_arm_19 : decode prog_6_method_28_code 19 = .ok (.iload_n 1, 1) := by decide +kernel
theorem d_R_arm_20 : decode prog_6_method_28_code 20 = .ok (.putfield 76, 3) := by decide +kernel
theorem d_R_arm_23 : decode prog_6_method_28_code 23 = .ok (.iconst 1, 1) := by decide +kernel
theorem d_R_arm_24 : decode prog_6_method_28_code 24 = .ok (.ireturn, 1) := by decide +kernel
theorem d_R_crash_0 : decode prog_6_method_29_code 0 = .ok (.aload_n 0, 1) := by decide +kernel
theorem d_R_crash_1 : decode prog_6_method_29_code 1 = .ok (.invokevirtual 79, 3) := by decide +kernel
theorem d_R_crash_4 : decode prog_6_method_29_code 4 = .ok (.aload_n 0, 1) := by decide +kernel
theorem d_R_crash_5 : decode prog_6_method_29_code 5 = .ok (.iconst 0, 1) := by decide +kernel
theorem d_R_crash_6 : decode prog_6_method_29_code 6 = .ok (.putfield 72, 3) := by decide +kernel
theorem d_R_crash_9 : decode prog_6_method_29_code 9 = .ok (.aload_n 0, 1) := by decide +kernel
theorem d_R_crash_10 : decode prog_6_method_29_code 10 = .ok (.invokevirtual 92, 3) := by decide +kernel
theorem d_R_crash_13 : decode prog_6_method_29_code 13 = .ok (.istore_n 1, 1) := by decide +kernel
theorem d_R_crash_14 : decode prog_6_method_29_code 14 = .ok (.iload_n 1, 1) := by decide +kernel
theorem d_R_crash_15 : decode prog_6_method_29_code 15 = .ok (.ifCond .ge 7, 3) := by decide +kernel
theorem d_R_crash_18 : decode prog_6_method_29_code 18 = .ok (.iconst 0, 1) := by decide +kernel
theorem d_R_crash_19 : decode prog_6_method_29_code 19 = .ok (.goto 14, 3) := by decide +kernel
theorem d_R_crash_22 : decode prog_6_method_29_code 22 = .ok (.aload_n 0, 1) := by decide +kernel
theorem d_R_crash_23 : decode prog_6_method_29_code 23 = .ok (.getfield 7, 3) := by decide +kernel
theorem d_R_crash_26 : decode prog_6_method_29_code 26 = .ok (.bipush 16, 2) := by decide +kernel
theorem d_R_crash_28 : decode prog_6_method_29_code 28 = .ok (.iload_n 1, 1) := by decide +kernel
theorem d_R_crash_29 : decode prog_6_method_29_code 29 = .ok (.imul, 1) := by decide +kernel
theorem d_R_crash_30 : decode prog_6_method_29_code 30 = .ok (.iconst 3, 1) := by decide +kernel
theorem d_R_crash_31 : decode prog_6_method_29_code 31 = .ok (.iadd, 1) := by decide +kernel
theorem d_R_crash_32 : decode prog_6_method_29_code 32 = .ok (.iaload, 1) := by decide +kernel
theorem d_R_crash_33 : decode prog_6_method_29_code 33 = .ok (.ireturn, 1) := by decide +kernel
theorem d_R_spoil_0 : decode prog_6_method_30_code 0 = .ok (.iload_n 1, 1) := by decide +kernel
theorem d_R_spoil_1 : decode prog_6_method_30_code 1 = .ok (.ifCond .lt 11, 3) := by decide +kernel
theorem d_R_spoil_4 : decode prog_6_method_30_code 4 = .ok (.iload_n 1, 1) := by decide +kernel
theorem d_R_spoil_5 : decode prog_6_method_30_code 5 = .ok (.aload_n 0, 1) := by decide +kernel
theorem d_R_spoil_6 : decode prog_6_method_30_code 6 = .ok (.getfield 66, 3) := by decide +kernel
theorem d_R_spoil_9 : decode prog_6_method_30_code 9 = .ok (.if_icmp .lt 5, 3) := by decide +kernel
theorem d_R_spoil_12 : decode prog_6_method_30_code 12 = .ok (.iconst 0, 1) := by decide +kernel
theorem d_R_spoil_13 : decode prog_6_method_30_code 13 = .ok (.ireturn, 1) := by decide +kernel
theorem d_R_spoil_14 : decode prog_6_method_30_code 14 = .ok (.aload_n 0, 1) := by decide +kernel
theorem d_R_spoil_15 : decode prog_6_method_30_code 15 = .ok (.getfield 7, 3) := by decide +kernel
theorem d_R_spoil_18 : decode prog_6_method_30_code 18 = .ok (.bipush 16, 2) := by decide +kernel
theorem d_R_spoil_20 : decode prog_6_method_30_code 20 = .ok (.iload_n 1, 1) := by decide +kernel
theorem d_R_spoil_21 : decode prog_6_method_30_code 21 = .ok (.imul, 1) := by decide +kernel
theorem d_R_spoil_22 : decode prog_6_method_30_code 22 = .ok (.iconst 1, 1) := by decide +kernel
theorem d_R_spoil_23 : decode prog_6_method_30_code 23 = .ok (.iadd, 1) := by decide +kernel
theorem d_R_spoil_24 : decode prog_6_method_30_code 24 = .ok (.aload_n 0, 1) := by decide +kernel
theorem d_R_spoil_25 : decode prog_6_method_30_code 25 = .ok (.getfield 7, 3) := by decide +kernel
theorem d_R_spoil_28 : decode prog_6_method_30_code 28 = .ok (.bipush 16, 2) := by decide +kernel
theorem d_R_spoil_30 : decode prog_6_method_30_code 30 = .ok (.iload_n 1, 1) := by decide +kernel
theorem d_R_spoil_31 : decode prog_6_method_30_code 31 = .ok (.imul, 1) := by decide +kernel
theorem d_R_spoil_32 : decode prog_6_method_30_code 32 = .ok (.iconst 1, 1) := by decide +kernel
theorem d_R_spoil_33 : decode prog_6_method_30_code 33 = .ok (.iadd, 1) := by decide +kernel
theorem d_R_spoil_34 : decode prog_6_method_30_code 34 = .ok (.iaload, 1) := by decide +kernel
theorem d_R_spoil_35 : decode prog_6_method_30_code 35 = .ok (.iconst 1, 1) := by decide +kernel
theorem d_R_spoil_36 : decode prog_6_method_30_code 36 = .ok (.ixor, 1) := by decide +kernel
theorem d_R_spoil_37 : decode prog_6_method_30_code 37 = .ok (.iastore, 1) := by decide +kernel
theorem d_R_spoil_38 : decode prog_6_method_30_code 38 = .ok (.iconst 1, 1) := by decide +kernel
theorem d_R_spoil_39 : decode prog_6_method_30_code 39 = .ok (.ireturn, 1) := by decide +kernel
theorem d_R_left_0 : decode prog_6_method_31_code 0 = .ok (.aload_n 0, 1) := by decide +kernel
theorem d_R_left_1 : decode prog_6_method_31_code 1 = .ok (.getfield 44, 3) := by decide +kernel
theorem d_R_left_4 : decode prog_6_method_31_code 4 = .ok (.aload_n 0, 1) := by decide +kernel
theorem d_R_left_5 : decode prog_6_method_31_code 5 = .ok (.getfield 66, 3) := by decide +kernel
theorem d_R_left_8 : decode prog_6_method_31_code 8 = .ok (.isub, 1) := by decide +kernel
theorem d_R_left_9 : decode prog_6_method_31_code 9 = .ok (.ireturn, 1) := by decide +kernel
theorem d_R_changed_0 : decode prog_6_method_32_code 0 = .ok (.aload_n 0, 1) := by decide +kernel
theorem d_R_changed_1 : decode prog_6_method_32_code 1 = .ok (.iconst (-1), 1) := by decide +kernel
theorem d_R_changed_2 : decode prog_6_method_32_code 2 = .ok (.iconst (-1), 1) := by decide +kernel
theorem d_R_changed_3 : decode prog_6_method_32_code 3 = .ok (.iconst (-1), 1) := by decide +kernel
theorem d_R_changed_4 : decode prog_6_method_32_code 4 = .ok (.invokevirtual 103, 3) := by decide +kernel
theorem d_R_changed_7 : decode prog_6_method_32_code 7 = .ok (.ireturn, 1) := by decide +kernel
theorem d_R_tables_0 : decode prog_6_method_33_code 0 = .ok (.iconst 0, 1) := by decide +kernel
theorem d_R_tables_1 : decode prog_6_method_33_code 1 = .ok (.istore_n 1, 1) := by decide +kernel
theorem d_R_tables_2 : decode prog_6_method_33_code 2 = .ok (.iconst 0, 1) := by decide +kernel
theorem d_R_tables_3 : decode prog_6_method_33_code 3 = .ok (.istore_n 2, 1) := by decide +kernel
theorem d_R_tables_4 : decode prog_6_method_33_code 4 = .ok (.iload_n 2, 1) := by decide +kernel
theorem d_R_tables_5 : decode prog_6_method_33_code 5 = .ok (.aload_n 0, 1) := by decide +kernel
theorem d_R_tables_6 : decode prog_6_method_33_code 6 = .ok (.getfield 66, 3) := by decide +kernel
theorem d_R_tables_9 : decode prog_6_method_33_code 9 = .ok (.if_icmp .ge 25, 3) := by decide +kernel
theorem d_R_tables_12 : decode prog_6_method_33_code 12 = .ok (.aload_n 0, 1) := by decide +kernel
theorem d_R_tables_13 : decode prog_6_method_33_code 13 = .ok (.iload_n 2, 1) := by decide +kernel
theorem d_R_tables_14 : decode prog_6_method_33_code 14 = .ok (.invokevirtual 69, 3) := by decide +kernel
theorem d_R_tables_17 : decode prog_6_method_33_code 17 = .ok (.ifCond .eq 9, 3) := by decide +kernel
theorem d_R_tables_20 : decode prog_6_method_33_code 20 = .ok (.iload_n 1, 1) := by decide +kernel
theorem d_R_tables_21 : decode prog_6_method_33_code 21 = .ok (.iconst 1, 1) := by decide +kernel
theorem d_R_tables_22 : decode prog_6_method_33_code 22 = .ok (.iadd, 1) := by decide +kernel
theorem d_R_tables_23 : decode prog_6_method_33_code 23 = .ok (.goto 4, 3) := by decide +kernel
theorem d_R_tables_26 : decode prog_6_method_33_code 26 = .ok (.iload_n 1, 1) := by decide +kernel
theorem d_R_tables_27 : decode prog_6_method_33_code 27 = .ok (.istore_n 1, 1) := by decide +kernel
theorem d_R_tables_28 : decode prog_6_method_33_code 28 = .ok (.iinc 2 1, 3) := by decide +kernel
theorem d_R_tables_31 : decode prog_6_method_33_code 31 = .ok (.goto (-27), 3) := by decide +kernel
theorem d_R_tables_34 : decode prog_6_method_33_code 34 = .ok (.iload_n 1, 1) := by decide +kernel
theorem d_R_tables_35 : decode prog_6_method_33_code 35 = .ok (.ireturn, 1) := by decide +kernel
theorem d_R_sees_0 : decode prog_6_method_34_code 0 = .ok (.iload_n 2, 1) := by decide +kernel
theorem d_R_sees_1 : decode prog_6_method_34_code 1 = .ok (.ifCond .lt 17, 3) := by decide +kernel
theorem d_R_sees_4 : decode prog_6_method_34_code 4 = .ok (.iload_n 2, 1) := by decide +kernel
theorem d_R_sees_5 : decode prog_6_method_34_code 5 = .ok (.bipush 7, 2) := by decide +kernel
theorem d_R_sees_7 : decode prog_6_method_34_code 7 = .ok (.if_icmp .gt 11, 3) := by decide +kernel
theorem d_R_sees_10 : decode prog_6_method_34_code 10 = .ok (.aload_n 0, 1) := by decide +kernel
theorem d_R_sees_11 : decode prog_6_method_34_code 11 = .ok (.iload_n 1, 1) := by decide +kernel
theorem d_R_sees_12 : decode prog_6_method_34_code 12 = .ok (.invokevirtual 130, 3) := by decide +kernel
theorem d_R_sees_15 : decode prog_6_method_34_code 15 = .ok (.ifCond .ne 5, 3) := by decide +kernel
theorem d_R_sees_18 : decode prog_6_method_34_code 18 = .ok (.iconst 0, 1) := by decide +kernel
theorem d_R_sees_19 : decode prog_6_method_34_code 19 = .ok (.ireturn, 1) := by decide +kernel
theorem d_R_sees_20 : decode prog_6_method_34_code 20 = .ok (.iload_n 3, 1) := by decide +kernel
theorem d_R_sees_21 : decode prog_6_method_34_code 21 = .ok (.ifCond .ne 20, 3) := by decide +kernel
theorem d_R_sees_24 : decode prog_6_method_34_code 24 = .ok (.aload_n 0, 1) := by decide +kernel
theorem d_R_sees_25 : decode prog_6_method_34_code 25 = .ok (.getfield 29, 3) := by decide +kernel
theorem d_R_sees_28 : decode prog_6_method_34_code 28 = .ok (.iload_n 2, 1) := by decide +kernel
theorem d_R_sees_29 : decode prog_6_method_34_code 29 = .ok (.iaload, 1) := by decide +kernel
theorem d_R_sees_30 : decode prog_6_method_34_code 30 = .ok (.ifCond .eq 7, 3) := by decide +kernel
theorem d_R_sees_33 : decode prog_6_method_34_code 33 = .ok (.iconst 1, 1) := by decide +kernel
theorem d_R_sees_34 : decode prog_6_method_34_code 34 = .ok (.goto 22, 3) := by decide +kernel
theorem d_R_sees_37 : decode prog_6_method_34_code 37 = .ok (.iconst 0, 1) := by decide +kernel
theorem d_R_sees_38 : decode prog_6_method_34_code 38 = .ok (.goto 18, 3) := by decide +kernel
theorem d_R_sees_41 : decode prog_6_method_34_code 41 = .ok (.aload_n 0, 1) := by decide +kernel
theorem d_R_sees_42 : decode prog_6_method_34_code 42 = .ok (.getfield 29, 3) := by decide +kernel
theorem d_R_sees_45 : decode prog_6_method_34_code 45 = .ok (.iload_n 2, 1) := by decide +kernel
theorem d_R_sees_46 : decode prog_6_method_34_code 46 = .ok (.iaload, 1) := by decide +kernel
theorem d_R_sees_47 : decode prog_6_method_34_code 47 = .ok (.iload_n 3, 1) := by decide +kernel
theorem d_R_sees_48 : decode prog_6_method_34_code 48 = .ok (.if_icmp .ne 7, 3) := by decide +kernel
theorem d_R_sees_51 : decode prog_6_method_34_code 51 = .ok (.iconst 1, 1) := by decide +kernel
theorem d_R_sees_52 : decode prog_6_method_34_code 52 = .ok (.goto 4, 3) := by decide +kernel
theorem d_R_sees_55 : decode prog_6_method_34_code 55 = .ok (.iconst 0, 1) := by decide +kernel
theorem d_R_sees_56 : decode prog_6_method_34_code 56 = .ok (.ireturn, 1) := by decide +kernel
theorem d_R_kind_0 : decode prog_6_method_35_code 0 = .ok (.aload_n 0, 1) := by decide +kernel
theorem d_R_kind_1 : decode prog_6_method_35_code 1 = .ok (.iload_n 1, 1) := by decide +kernel
theorem d_R_kind_2 : decode prog_6_method_35_code 2 = .ok (.iload_n 2, 1) := by decide +kernel
theorem d_R_kind_3 : decode prog_6_method_35_code 3 = .ok (.iconst 0, 1) := by decide +kernel
theorem d_R_kind_4 : decode prog_6_method_35_code 4 = .ok (.invokevirtual 133, 3) := by decide +kernel
theorem d_R_kind_7 : decode prog_6_method_35_code 7 = .ok (.ifCond .eq 12, 3) := by decide +kernel
theorem d_R_kind_10 : decode prog_6_method_35_code 10 = .ok (.aload_n 0, 1) := by decide +kernel
theorem d_R_kind_11 : decode prog_6_method_35_code 11 = .ok (.getfield 29, 3) := by decide +kernel
theorem d_R_kind_14 : decode prog_6_method_35_code 14 = .ok (.iload_n 2, 1) := by decide +kernel
theorem d_R_kind_15 : decode prog_6_method_35_code 15 = .ok (.iaload, 1) := by decide +kernel
theorem d_R_kind_16 : decode prog_6_method_35_code 16 = .ok (.goto 4, 3) := by decide +kernel
theorem d_R_kind_19 : decode prog_6_method_35_code 19 = .ok (.iconst (-1), 1) := by decide +kernel
theorem d_R_kind_20 : decode prog_6_method_35_code 20 = .ok (.ireturn, 1) := by decide +kernel
theorem d_R_items_0 : decode prog_6_method_36_code 0 = .ok (.aload_n 0, 1) := by decide +kernel
theorem d_R_items_1 : decode prog_6_method_36_code 1 = .ok (.iload_n 1, 1) := by decide +kernel
theorem d_R_items_2 : decode prog_6_method_36_code 2 = .ok (.iload_n 2, 1) := by decide +kernel
theorem d_R_items_3 : decode prog_6_method_36_code 3 = .ok (.iconst 0, 1) := by decide +kernel
theorem d_R_items_4 : decode prog_6_method_36_code 4 = .ok (.invokevirtual 133, 3) := by decide +kernel
theorem d_R_items_7 : decode prog_6_method_36_code 7 = .ok (.ifCond .eq 12, 3) := by decide +kernel
theorem d_R_items_10 : decode prog_6_method_36_code 10 = .ok (.aload_n 0, 1) := by decide +kernel
theorem d_R_items_11 : decode prog_6_method_36_code 11 = .ok (.getfield 32, 3) := by decide +kernel
theorem d_R_items_14 : decode prog_6_method_36_code 14 = .ok (.iload_n 2, 1) := by decide +kernel
theorem d_R_items_15 : decode prog_6_method_36_code 15 = .ok (.iaload, 1) := by decide +kernel
theorem d_R_items_16 : decode prog_6_method_36_code 16 = .ok (.goto 4, 3) := by decide +kernel
theorem d_R_items_19 : decode prog_6_method_36_code 19 = .ok (.iconst (-1), 1) := by decide +kernel
theorem d_R_items_20 : decode prog_6_method_36_code 20 = .ok (.ireturn, 1) := by decide +kernel
theorem d_R_find_0 : decode prog_6_method_37_code 0 = .ok (.aload_n 0, 1) := by decide +kernel
theorem d_R_find_1 : decode prog_6_method_37_code 1 = .ok (.iload_n 1, 1) := by decide +kernel
theorem d_R_find_2 : decode prog_6_method_37_code 2 = .ok (.iload_n 2, 1) := by decide +kernel
theorem d_R_find_3 : decode prog_6_method_37_code 3 = .ok (.iconst 1, 1) := by decide +kernel
theorem d_R_find_4 : decode prog_6_method_37_code 4 = .ok (.invokevirtual 133, 3) := by decide +kernel
theorem d_R_find_7 : decode prog_6_method_37_code 7 = .ok (.ifCond .ne 5, 3) := by decide +kernel
theorem d_R_find_10 : decode prog_6_method_37_code 10 = .ok (.iconst (-1), 1) := by decide +kernel
theorem d_R_find_11 : decode prog_6_method_37_code 11 = .ok (.ireturn, 1) := by decide +kernel
theorem d_R_find_12 : decode prog_6_method_37_code 12 = .ok (.iconst 0, 1) := by decide +kernel
theorem d_R_find_13 : decode prog_6_method_37_code 13 = .ok (.istore 4, 2) := by decide +kernel
theorem d_R_find_15 : decode prog_6_method_37_code 15 = .ok (.iload 4, 2) := by decide +kernel
theorem d_R_find_17 : decode prog_6_method_37_code 17 = .ok (.aload_n 0, 1) := by decide +kernel
theorem d_R_find_18 : decode prog_6_method_37_code 18 = .ok (.getfield 32, 3) := by decide +kernel
theorem d_R_find_21 : decode prog_6_method_37_code 21 = .ok (.iload_n 2, 1) := by decide +kernel
theorem d_R_find_22 : decode prog_6_method_37_code 22 = .ok (.iaload, 1) := by decide +kernel
theorem d_R_find_23 : decode prog_6_method_37_code 23 = .ok (.if_icmp .ge 44, 3) := by decide +kernel
theorem d_R_find_26 : decode prog_6_method_37_code 26 = .ok (.aload_n 0, 1) := by decide +kernel
theorem d_R_find_27 : decode prog_6_method_37_code 27 = .ok (.getfield 35, 3) := by decide +kernel
theorem d_R_find_30 : decode prog_6_method_37_code 30 = .ok (.bipush 10, 2) := by decide +kernel
theorem d_R_find_32 : decode prog_6_method_37_code 32 = .ok (.iload_n 2, 1) := by decide +kernel
theorem d_R_find_33 : decode prog_6_method_37_code 33 = .ok (.imul, 1) := by decide +kernel
theorem d_R_find_34 : decode prog_6_method_37_code 34 = .ok (.iload 4, 2) := by decide +kernel
theorem d_R_find_36 : decode prog_6_method_37_code 36 = .ok (.iadd, 1) := by decide +kernel
theorem d_R_find_37 : decode prog_6_method_37_code 37 = .ok (.iaload, 1) := by decide +kernel
theorem d_R_find_38 : decode prog_6_method_37_code 38 = .ok (.bipush 16, 2) := by decide +kernel
theorem d_R_find_40 : decode prog_6_method_37_code 40 = .ok (.idiv, 1) := by decide +kernel
theorem d_R_find_41 : decode prog_6_method_37_code 41 = .ok (.iload_n 3, 1) := by decide +kernel
theorem d_R_find_42 : decode prog_6_method_37_code 42 = .ok (.if_icmp .ne 19, 3) := by decide +kernel
theorem d_R_find_45 : decode prog_6_method_37_code 45 = .ok (.aload_n 0, 1) := by decide +kernel
theorem d_R_find_46 : decode prog_6_method_37_code 46 = .ok (.getfield 35, 3) := by decide +kernel
theorem d_R_find_49 : decode prog_6_method_37_code 49 = .ok (.bipush 10, 2) := by decide +kernel
theorem d_R_find_51 : decode prog_6_method_37_code 51 = .ok (.iload_n 2, 1) := by decide +kernel
theorem d_R_find_52 : decode prog_6_method_37_code 52 = .ok (.imul, 1) := by decide +kernel
theorem d_R_find_53 : decode prog_6_method_37_code 53 = .ok (.iload 4, 2) := by decide +kernel
theorem d_R_find_55 : decode prog_6_method_37_code 55 = .ok (.iadd, 1) := by decide +kernel
theorem d_R_find_56 : decode prog_6_method_37_code 56 = .ok (.iaload, 1) := by decide +kernel
theorem d_R_find_57 : decode prog_6_method_37_code 57 = .ok (.bipush 16, 2) := by decide +kernel
theorem d_R_find_59 : decode prog_6_method_37_code 59 = .ok (.irem, 1) := by decide +kernel
theorem d_R_find_60 : decode prog_6_method_37_code 60 = .ok (.ireturn, 1) := by decide +kernel
theorem d_R_find_61 : decode prog_6_method_37_code 61 = .ok (.iinc 4 1, 3) := by decide +kernel
theorem d_R_find_64 : decode prog_6_method_37_code 64 = .ok (.goto (-49), 3) := by decide +kernel
theorem d_R_find_67 : decode prog_6_method_37_code 67 = .ok (.iconst (-1), 1) := by decide +kernel
theorem d_R_find_68 : decode prog_6_method_37_code 68 = .ok (.ireturn, 1) := by decide +kernel
theorem d_R_item_0 : decode prog_6_method_38_code 0 = .ok (.aload_n 0, 1) := by decide +kernel
theorem d_R_item_1 : decode prog_6_method_38_code 1 = .ok (.iload_n 1, 1) := by decide +kernel
theorem d_R_item_2 : decode prog_6_method_38_code 2 = .ok (.iload_n 2, 1) := by decide +kernel
theorem d_R_item_3 : decode prog_6_method_38_code 3 = .ok (.iconst 1, 1) := by decide +kernel
theorem d_R_item_4 : decode prog_6_method_38_code 4 = .ok (.invokevirtual 133, 3) := by decide +kernel
theorem d_R_item_7 : decode prog_6_method_38_code 7 = .ok (.ifCond .eq 31, 3) := by decide +kernel
theorem d_R_item_10 : decode prog_6_method_38_code 10 = .ok (.iload_n 3, 1) := by decide +kernel
theorem d_R_item_11 : decode prog_6_method_38_code 11 = .ok (.ifCond .lt 27, 3) := by decide +kernel
theorem d_R_item_14 : decode prog_6_method_38_code 14 = .ok (.iload_n 3, 1) := by decide +kernel
theorem d_R_item_15 : decode prog_6_method_38_code 15 = .ok (.aload_n 0, 1) := by decide +kernel
theorem d_R_item_16 : decode prog_6_method_38_code 16 = .ok (.getfield 32, 3) := by decide +kernel
theorem d_R_item_19 : decode prog_6_method_38_code 19 = .ok (.iload_n 2, 1) := by decide +kernel
theorem d_R_item_20 : decode prog_6_method_38_code 20 = .ok (.iaload, 1) := by decide +kernel
theorem d_R_item_21 : decode prog_6_method_38_code 21 = .ok (.if_icmp .ge 17, 3) := by decide +kernel
theorem d_R_item_24 : decode prog_6_method_38_code 24 = .ok (.aload_n 0, 1) := by decide +kernel
theorem d_R_item_25 : decode prog_6_method_38_code 25 = .ok (.getfield 35, 3) := by decide +kernel
theorem d_R_item_28 : decode prog_6_method_38_code 28 = .ok (.bipush 10, 2) := by decide +kernel
theorem d_R_item_30 : decode prog_6_method_38_code 30 = .ok (.iload_n 2, 1) := by decide +kernel
theorem d_R_item_31 : decode prog_6_method_38_code 31 = .ok (.imul, 1) := by decide +kernel
theorem d_R_item_32 : decode prog_6_method_38_code 32 = .ok (.iload_n 3, 1) := by decide +kernel
theorem d_R_item_33 : decode prog_6_method_38_code 33 = .ok (.iadd, 1) := by decide +kernel
theorem d_R_item_34 : decode prog_6_method_38_code 34 = .ok (.iaload, 1) := by decide +kernel
theorem d_R_item_35 : decode prog_6_method_38_code 35 = .ok (.goto 4, 3) := by decide +kernel
theorem d_R_item_38 : decode prog_6_method_38_code 38 = .ok (.iconst (-1), 1) := by decide +kernel
theorem d_R_item_39 : decode prog_6_method_38_code 39 = .ok (.ireturn, 1) := by decide +kernel
theorem d_R_block_0 : decode prog_6_method_39_code 0 = .ok (.aload_n 0, 1) := by decide +kernel
theorem d_R_block_1 : decode prog_6_method_39_code 1 = .ok (.iload_n 1, 1) := by decide +kernel
theorem d_R_block_2 : decode prog_6_method_39_code 2 = .ok (.iload_n 2, 1) := by decide +kernel
theorem d_R_block_3 : decode prog_6_method_39_code 3 = .ok (.iconst 2, 1) := by decide +kernel
theorem d_R_block_4 : decode prog_6_method_39_code 4 = .ok (.invokevirtual 133, 3) := by decide +kernel
theorem d_R_block_7 : decode prog_6_method_39_code 7 = .ok (.ifCond .eq 17, 3) := by decide +kernel
theorem d_R_block_10 : decode prog_6_method_39_code 10 = .ok (.iload_n 3, 1) := by decide +kernel
theorem d_R_block_11 : decode prog_6_method_39_code 11 = .ok (.ifCond .lt 13, 3) := by decide +kernel
theorem d_R_block_14 : decode prog_6_method_39_code 14 = .ok (.iload_n 3, 1) := by decide +kernel
theorem d_R_block_15 : decode prog_6_method_39_code 15 = .ok (.aload_n 0, 1) := by decide +kernel
theorem d_R_block_16 : decode prog_6_method_39_code 16 = .ok (.getfield 32, 3) := by decide +kernel
theorem d_R_block_19 : decode prog_6_method_39_code 19 = .ok (.iload_n 2, 1) := by decide +kernel
theorem d_R_block_20 : decode prog_6_method_39_code 20 = .ok (.iaload, 1) := by decide +kernel
theorem d_R_block_21 : decode prog_6_method_39_code 21 = .ok (.if_icmp .lt 5, 3) := by decide +kernel
theorem d_R_block_24 : decode prog_6_method_39_code 24 = .ok (.iconst (-1), 1) := by decide +kernel
theorem d_R_block_25 : decode prog_6_method_39_code 25 = .ok (.ireturn, 1) := by decide +kernel
theorem d_R_block_26 : decode prog_6_method_39_code 26 = .ok (.aload_n 0, 1) := by decide +kernel
theorem d_R_block_27 : decode prog_6_method_39_code 27 = .ok (.getfield 35, 3) := by decide +kernel
theorem d_R_block_30 : decode prog_6_method_39_code 30 = .ok (.bipush 10, 2) := by decide +kernel
theorem d_R_block_32 : decode prog_6_method_39_code 32 = .ok (.iload_n 2, 1) := by decide +kernel
theorem d_R_block_33 : decode prog_6_method_39_code 33 = .ok (.imul, 1) := by decide +kernel
theorem d_R_block_34 : decode prog_6_method_39_code 34 = .ok (.iload_n 3, 1) := by decide +kernel
theorem d_R_block_35 : decode prog_6_method_39_code 35 = .ok (.iadd, 1) := by decide +kernel
theorem d_R_block_36 : decode prog_6_method_39_code 36 = .ok (.iaload, 1) := by decide +kernel
theorem d_R_block_37 : decode prog_6_method_39_code 37 = .ok (.istore 4, 2) := by decide +kernel
theorem d_R_block_39 : decode prog_6_method_39_code 39 = .ok (.aload_n 0, 1) := by decide +kernel
theorem d_R_block_40 : decode prog_6_method_39_code 40 = .ok (.iload 4, 2) := by decide +kernel
theorem d_R_block_42 : decode prog_6_method_39_code 42 = .ok (.invokevirtual 62, 3) := by decide +kernel
theorem d_R_block_45 : decode prog_6_method_39_code 45 = .ok (.ifCond .eq 18, 3) := by decide +kernel
theorem d_R_block_48 : decode prog_6_method_39_code 48 = .ok (.aload_n 0, 1) := by decide +kernel
theorem d_R_block_49 : decode prog_6_method_39_code 49 = .ok (.getfield 7, 3) := by decide +kernel
theorem d_R_block_52 : decode prog_6_method_39_code 52 = .ok (.bipush 16, 2) := by decide +kernel
theorem d_R_block_54 : decode prog_6_method_39_code 54 = .ok (.iload 4, 2) := by decide +kernel
theorem d_R_block_56 : decode prog_6_method_39_code 56 = .ok (.imul, 1) := by decide +kernel
theorem d_R_block_57 : decode prog_6_method_39_code 57 = .ok (.iconst 4, 1) := by decide +kernel
theorem d_R_block_58 : decode prog_6_method_39_code 58 = .ok (.iadd, 1) := by decide +kernel
theorem d_R_block_59 : decode prog_6_method_39_code 59 = .ok (.iaload, 1) := by decide +kernel
theorem d_R_block_60 : decode prog_6_method_39_code 60 = .ok (.goto 5, 3) := by decide +kernel
theorem d_R_block_63 : decode prog_6_method_39_code 63 = .ok (.bipush (-8), 2) := by decide +kernel
theorem d_R_block_65 : decode prog_6_method_39_code 65 = .ok (.ireturn, 1) := by decide +kernel
theorem d_R_word_0 : decode prog_6_method_40_code 0 = .ok (.iload_n 1, 1) := by decide +kernel
theorem d_R_word_1 : decode prog_6_method_40_code 1 = .ok (.ifCond .lt 21, 3) := by decide +kernel
theorem d_R_word_4 : decode prog_6_method_40_code 4 = .ok (.iload_n 1, 1) := by decide +kernel
theorem d_R_word_5 : decode prog_6_method_40_code 5 = .ok (.aload_n 0, 1) := by decide +kernel
theorem d_R_word_6 : decode prog_6_method_40_code 6 = .ok (.getfield 44, 3) := by decide +kernel
theorem d_R_word_9 : decode prog_6_method_40_code 9 = .ok (.if_icmp .ge 13, 3) := by decide +kernel
theorem d_R_word_12 : decode prog_6_method_40_code 12 = .ok (.iload_n 2, 1) := by decide +kernel
theorem d_R_word_13 : decode prog_6_method_40_code 13 = .ok (.ifCond .lt 9, 3) := by decide +kernel
theorem d_R_word_16 : decode prog_6_method_40_code 16 = .ok (.iload_n 2, 1) := by decide +kernel
theorem d_R_word_17 : decode prog_6_method_40_code 17 = .ok (.bipush 15, 2) := by decide +kernel
theorem d_R_word_19 : decode prog_6_method_40_code 19 = .ok (.if_icmp .le 7, 3) := by decide +kernel
theorem d_R_word_22 : decode prog_6_method_40_code 22 = .ok (.iconst (-1), 1) := by decide +kernel
theorem d_R_word_23 : decode prog_6_method_40_code 23 = .ok (.goto 14, 3) := by decide +kernel
theorem d_R_word_26 : decode prog_6_method_40_code 26 = .ok (.aload_n 0, 1) := by decide +kernel
theorem d_R_word_27 : decode prog_6_method_40_code 27 = .ok (.getfield 7, 3) := by decide +kernel
theorem d_R_word_30 : decode prog_6_method_40_code 30 = .ok (.bipush 16, 2) := by decide +kernel
theorem d_R_word_32 : decode prog_6_method_40_code 32 = .ok (.iload_n 1, 1) := by decide +kernel
theorem d_R_word_33 : decode prog_6_method_40_code 33 = .ok (.imul, 1) := by decide +kernel
theorem d_R_word_34 : decode prog_6_method_40_code 34 = .ok (.iload_n 2, 1) := by decide +kernel
theorem d_R_word_35 : decode prog_6_method_40_code 35 = .ok (.iadd, 1) := by decide +kernel
theorem d_R_word_36 : decode prog_6_method_40_code 36 = .ok (.iaload, 1) := by decide +kernel
theorem d_R_word_37 : decode prog_6_method_40_code 37 = .ok (.ireturn, 1) := by decide +kernel
theorem d_L_cell_0 : decode method_2_code 0 = .ok (.iload_n 1, 1) := by decide +kernel
theorem d_L_cell_1 : decode method_2_code 1 = .ok (.aload_n 0, 1) := by decide +kernel
theorem d_L_cell_2 : decode method_2_code 2 = .ok (.arraylength, 1) := by decide +kernel
theorem d_L_cell_3 : decode method_2_code 3 = .ok (.if_icmp .ge 9, 3) := by decide +kernel
theorem d_L_cell_6 : decode method_2_code 6 = .ok (.aload_n 0, 1) := by decide +kernel
theorem d_L_cell_7 : decode method_2_code 7 = .ok (.iload_n 1, 1) := by decide +kernel
theorem d_L_cell_8 : decode method_2_code 8 = .ok (.iaload, 1) := by decide +kernel
theorem d_L_cell_9 : decode method_2_code 9 = .ok (.goto 4, 3) := by decide +kernel
theorem d_L_cell_12 : decode method_2_code 12 = .ok (.iconst 0, 1) := by decide +kernel
theorem d_L_cell_13 : decode method_2_code 13 = .ok (.ireturn, 1) := by decide +kernel
