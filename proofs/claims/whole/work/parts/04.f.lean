theorem jd_M_constant_0 : decode prog_10_method_29_code 0 = .ok (.iload_n 1, 1) := by decide +kernel
theorem jd_M_constant_1 : decode prog_10_method_29_code 1 = .ok (.bipush 20, 2) := by decide +kernel
theorem jd_M_constant_3 : decode prog_10_method_29_code 3 = .ok (.if_icmp .ge 8, 3) := by decide +kernel
theorem jd_M_constant_6 : decode prog_10_method_29_code 6 = .ok (.ldc 126, 2) := by decide +kernel
theorem jd_M_constant_8 : decode prog_10_method_29_code 8 = .ok (.goto 27, 3) := by decide +kernel
theorem jd_M_constant_11 : decode prog_10_method_29_code 11 = .ok (.iload_n 1, 1) := by decide +kernel
theorem jd_M_constant_12 : decode prog_10_method_29_code 12 = .ok (.bipush 40, 2) := by decide +kernel
theorem jd_M_constant_14 : decode prog_10_method_29_code 14 = .ok (.if_icmp .ge 8, 3) := by decide +kernel
theorem jd_M_constant_17 : decode prog_10_method_29_code 17 = .ok (.ldc 127, 2) := by decide +kernel
theorem jd_M_constant_19 : decode prog_10_method_29_code 19 = .ok (.goto 16, 3) := by decide +kernel
theorem jd_M_constant_22 : decode prog_10_method_29_code 22 = .ok (.iload_n 1, 1) := by decide +kernel
theorem jd_M_constant_23 : decode prog_10_method_29_code 23 = .ok (.bipush 60, 2) := by decide +kernel
theorem jd_M_constant_25 : decode prog_10_method_29_code 25 = .ok (.if_icmp .ge 8, 3) := by decide +kernel
theorem jd_M_constant_28 : decode prog_10_method_29_code 28 = .ok (.ldc 128, 2) := by decide +kernel
theorem jd_M_constant_30 : decode prog_10_method_29_code 30 = .ok (.goto 5, 3) := by decide +kernel
theorem jd_M_constant_33 : decode prog_10_method_29_code 33 = .ok (.ldc 129, 2) := by decide +kernel
theorem jd_M_constant_35 : decode prog_10_method_29_code 35 = .ok (.ireturn, 1) := by decide +kernel
theorem jd_M_hash_0 : decode prog_10_method_33_code 0 = .ok (.aload_n 0, 1) := by decide +kernel
theorem jd_M_hash_1 : decode prog_10_method_33_code 1 = .ok (.iload_n 1, 1) := by decide +kernel
theorem jd_M_hash_2 : decode prog_10_method_33_code 2 = .ok (.invokevirtual 78, 3) := by decide +kernel
theorem jd_M_hash_5 : decode prog_10_method_33_code 5 = .ok (.ifCond .ne 12, 3) := by decide +kernel
theorem jd_M_hash_8 : decode prog_10_method_33_code 8 = .ok (.aload_n 0, 1) := by decide +kernel
theorem jd_M_hash_9 : decode prog_10_method_33_code 9 = .ok (.iload_n 2, 1) := by decide +kernel
theorem jd_M_hash_10 : decode prog_10_method_33_code 10 = .ok (.iconst 5, 1) := by decide +kernel
theorem jd_M_hash_11 : decode prog_10_method_33_code 11 = .ok (.invokevirtual 54, 3) := by decide +kernel
theorem jd_M_hash_14 : decode prog_10_method_33_code 14 = .ok (.ifCond .eq 7, 3) := by decide +kernel
theorem jd_M_hash_17 : decode prog_10_method_33_code 17 = .ok (.ldc2_w 151, 3) := by decide +kernel
theorem jd_M_hash_20 : decode prog_10_method_33_code 20 = .ok (.lreturn, 1) := by decide +kernel
theorem jd_M_hash_21 : decode prog_10_method_33_code 21 = .ok (.aload_n 0, 1) := by decide +kernel
theorem jd_M_hash_22 : decode prog_10_method_33_code 22 = .ok (.iload_n 1, 1) := by decide +kernel
theorem jd_M_hash_23 : decode prog_10_method_33_code 23 = .ok (.invokevirtual 153, 3) := by decide +kernel
theorem jd_M_hash_26 : decode prog_10_method_33_code 26 = .ok (.aload_n 0, 1) := by decide +kernel
theorem jd_M_hash_27 : decode prog_10_method_33_code 27 = .ok (.getfield 48, 3) := by decide +kernel
theorem jd_M_hash_30 : decode prog_10_method_33_code 30 = .ok (.iload_n 2, 1) := by decide +kernel
theorem jd_M_hash_31 : decode prog_10_method_33_code 31 = .ok (.iaload, 1) := by decide +kernel
theorem jd_M_hash_32 : decode prog_10_method_33_code 32 = .ok (.i2l, 1) := by decide +kernel
theorem jd_M_hash_33 : decode prog_10_method_33_code 33 = .ok (.lreturn, 1) := by decide +kernel
theorem jd_M_size_0 : decode prog_10_method_34_code 0 = .ok (.aload_n 0, 1) := by decide +kernel
theorem jd_M_size_1 : decode prog_10_method_34_code 1 = .ok (.iload_n 1, 1) := by decide +kernel
theorem jd_M_size_2 : decode prog_10_method_34_code 2 = .ok (.invokevirtual 78, 3) := by decide +kernel
theorem jd_M_size_5 : decode prog_10_method_34_code 5 = .ok (.ifCond .eq 5, 3) := by decide +kernel
theorem jd_M_size_8 : decode prog_10_method_34_code 8 = .ok (.iconst (-1), 1) := by decide +kernel
theorem jd_M_size_9 : decode prog_10_method_34_code 9 = .ok (.ireturn, 1) := by decide +kernel
theorem jd_M_size_10 : decode prog_10_method_34_code 10 = .ok (.aload_n 0, 1) := by decide +kernel
theorem jd_M_size_11 : decode prog_10_method_34_code 11 = .ok (.iload_n 1, 1) := by decide +kernel
theorem jd_M_size_12 : decode prog_10_method_34_code 12 = .ok (.invokevirtual 140, 3) := by decide +kernel
theorem jd_M_size_15 : decode prog_10_method_34_code 15 = .ok (.aload_n 0, 1) := by decide +kernel
theorem jd_M_size_16 : decode prog_10_method_34_code 16 = .ok (.getfield 92, 3) := by decide +kernel
theorem jd_M_size_19 : decode prog_10_method_34_code 19 = .ok (.ireturn, 1) := by decide +kernel
theorem jd_M_byteAt_0 : decode prog_10_method_35_code 0 = .ok (.aload_n 0, 1) := by decide +kernel
theorem jd_M_byteAt_1 : decode prog_10_method_35_code 1 = .ok (.iload_n 1, 1) := by decide +kernel
theorem jd_M_byteAt_2 : decode prog_10_method_35_code 2 = .ok (.invokevirtual 78, 3) := by decide +kernel
theorem jd_M_byteAt_5 : decode prog_10_method_35_code 5 = .ok (.ifCond .eq 5, 3) := by decide +kernel
theorem jd_M_byteAt_8 : decode prog_10_method_35_code 8 = .ok (.iconst (-1), 1) := by decide +kernel
theorem jd_M_byteAt_9 : decode prog_10_method_35_code 9 = .ok (.ireturn, 1) := by decide +kernel
theorem jd_M_byteAt_10 : decode prog_10_method_35_code 10 = .ok (.aload_n 0, 1) := by decide +kernel
theorem jd_M_byteAt_11 : decode prog_10_method_35_code 11 = .ok (.iload_n 1, 1) := by decide +kernel
theorem jd_M_byteAt_12 : decode prog_10_method_35_code 12 = .ok (.invokevirtual 140, 3) := by decide +kernel
theorem jd_M_byteAt_15 : decode prog_10_method_35_code 15 = .ok (.aload_n 0, 1) := by decide +kernel
theorem jd_M_byteAt_16 : decode prog_10_method_35_code 16 = .ok (.iload_n 2, 1) := by decide +kernel
theorem jd_M_byteAt_17 : decode prog_10_method_35_code 17 = .ok (.aload_n 0, 1) := by decide +kernel
theorem jd_M_byteAt_18 : decode prog_10_method_35_code 18 = .ok (.getfield 92, 3) := by decide +kernel
theorem jd_M_byteAt_21 : decode prog_10_method_35_code 21 = .ok (.invokevirtual 54, 3) := by decide +kernel
theorem jd_M_byteAt_24 : decode prog_10_method_35_code 24 = .ok (.ifCond .eq 7, 3) := by decide +kernel
theorem jd_M_byteAt_27 : decode prog_10_method_35_code 27 = .ok (.iconst (-1), 1) := by decide +kernel
theorem jd_M_byteAt_28 : decode prog_10_method_35_code 28 = .ok (.goto 9, 3) := by decide +kernel
theorem jd_M_byteAt_31 : decode prog_10_method_35_code 31 = .ok (.aload_n 0, 1) := by decide +kernel
theorem jd_M_byteAt_32 : decode prog_10_method_35_code 32 = .ok (.getfield 42, 3) := by decide +kernel
theorem jd_M_byteAt_35 : decode prog_10_method_35_code 35 = .ok (.iload_n 2, 1) := by decide +kernel
theorem jd_M_byteAt_36 : decode prog_10_method_35_code 36 = .ok (.iaload, 1) := by decide +kernel
theorem jd_M_byteAt_37 : decode prog_10_method_35_code 37 = .ok (.ireturn, 1) := by decide +kernel
theorem jd_M_part_0 : decode prog_10_method_36_code 0 = .ok (.aload_n 0, 1) := by decide +kernel
theorem jd_M_part_1 : decode prog_10_method_36_code 1 = .ok (.iload_n 1, 1) := by decide +kernel
theorem jd_M_part_2 : decode prog_10_method_36_code 2 = .ok (.invokevirtual 78, 3) := by decide +kernel
theorem jd_M_part_5 : decode prog_10_method_36_code 5 = .ok (.ifCond .ne 13, 3) := by decide +kernel
theorem jd_M_part_8 : decode prog_10_method_36_code 8 = .ok (.aload_n 0, 1) := by decide +kernel
theorem jd_M_part_9 : decode prog_10_method_36_code 9 = .ok (.iload_n 2, 1) := by decide +kernel
theorem jd_M_part_10 : decode prog_10_method_36_code 10 = .ok (.bipush 6, 2) := by decide +kernel
theorem jd_M_part_12 : decode prog_10_method_36_code 12 = .ok (.invokevirtual 54, 3) := by decide +kernel
theorem jd_M_part_15 : decode prog_10_method_36_code 15 = .ok (.ifCond .eq 5, 3) := by decide +kernel
theorem jd_M_part_18 : decode prog_10_method_36_code 18 = .ok (.iconst (-1), 1) := by decide +kernel
theorem jd_M_part_19 : decode prog_10_method_36_code 19 = .ok (.ireturn, 1) := by decide +kernel
theorem jd_M_part_20 : decode prog_10_method_36_code 20 = .ok (.aload_n 0, 1) := by decide +kernel
theorem jd_M_part_21 : decode prog_10_method_36_code 21 = .ok (.iload_n 1, 1) := by decide +kernel
theorem jd_M_part_22 : decode prog_10_method_36_code 22 = .ok (.invokevirtual 140, 3) := by decide +kernel
theorem jd_M_part_25 : decode prog_10_method_36_code 25 = .ok (.aload_n 0, 1) := by decide +kernel
theorem jd_M_part_26 : decode prog_10_method_36_code 26 = .ok (.getfield 45, 3) := by decide +kernel
theorem jd_M_part_29 : decode prog_10_method_36_code 29 = .ok (.iload_n 2, 1) := by decide +kernel
theorem jd_M_part_30 : decode prog_10_method_36_code 30 = .ok (.iaload, 1) := by decide +kernel
theorem jd_M_part_31 : decode prog_10_method_36_code 31 = .ok (.ireturn, 1) := by decide +kernel
theorem jd_M_count_0 : decode prog_10_method_37_code 0 = .ok (.aload_n 0, 1) := by decide +kernel
theorem jd_M_count_1 : decode prog_10_method_37_code 1 = .ok (.iload_n 1, 1) := by decide +kernel
theorem jd_M_count_2 : decode prog_10_method_37_code 2 = .ok (.invokevirtual 78, 3) := by decide +kernel
theorem jd_M_count_5 : decode prog_10_method_37_code 5 = .ok (.ifCond .ne 13, 3) := by decide +kernel
theorem jd_M_count_8 : decode prog_10_method_37_code 8 = .ok (.aload_n 0, 1) := by decide +kernel
theorem jd_M_count_9 : decode prog_10_method_37_code 9 = .ok (.iload_n 2, 1) := by decide +kernel
theorem jd_M_count_10 : decode prog_10_method_37_code 10 = .ok (.bipush 8, 2) := by decide +kernel
theorem jd_M_count_12 : decode prog_10_method_37_code 12 = .ok (.invokevirtual 54, 3) := by decide +kernel
theorem jd_M_count_15 : decode prog_10_method_37_code 15 = .ok (.ifCond .eq 5, 3) := by decide +kernel
theorem jd_M_count_18 : decode prog_10_method_37_code 18 = .ok (.iconst (-1), 1) := by decide +kernel
theorem jd_M_count_19 : decode prog_10_method_37_code 19 = .ok (.ireturn, 1) := by decide +kernel
theorem jd_M_count_20 : decode prog_10_method_37_code 20 = .ok (.iload_n 2, 1) := by decide +kernel
theorem jd_M_count_21 : decode prog_10_method_37_code 21 = .ok (.tableswitch 92 0 6 #[43, 50, 57, 64, 71, 78, 85], 43) := by decide +kernel
theorem jd_M_count_64 : decode prog_10_method_37_code 64 = .ok (.aload_n 0, 1) := by decide +kernel
theorem jd_M_count_65 : decode prog_10_method_37_code 65 = .ok (.getfield 23, 3) := by decide +kernel
theorem jd_M_count_68 : decode prog_10_method_37_code 68 = .ok (.iload_n 1, 1) := by decide +kernel
theorem jd_M_count_69 : decode prog_10_method_37_code 69 = .ok (.iaload, 1) := by decide +kernel
theorem jd_M_count_70 : decode prog_10_method_37_code 70 = .ok (.ireturn, 1) := by decide +kernel
theorem jd_M_count_71 : decode prog_10_method_37_code 71 = .ok (.aload_n 0, 1) := by decide +kernel
theorem jd_M_count_72 : decode prog_10_method_37_code 72 = .ok (.getfield 26, 3) := by decide +kernel
theorem jd_M_count_75 : decode prog_10_method_37_code 75 = .ok (.iload_n 1, 1) := by decide +kernel
theorem jd_M_count_76 : decode prog_10_method_37_code 76 = .ok (.iaload, 1) := by decide +kernel
theorem jd_M_count_77 : decode prog_10_method_37_code 77 = .ok (.ireturn, 1) := by decide +kernel
theorem jd_M_count_78 : decode prog_10_method_37_code 78 = .ok (.aload_n 0, 1) := by decide +kernel
theorem jd_M_count_79 : decode prog_10_method_37_code 79 = .ok (.iload_n 1, 1) := by decide +kernel
theorem jd_M_count_80 : decode prog_10_method_37_code 80 = .ok (.iconst 0, 1) := by decide +kernel
theorem jd_M_count_81 : decode prog_10_method_37_code 81 = .ok (.invokevirtual 117, 3) := by decide +kernel
theorem jd_M_count_84 : decode prog_10_method_37_code 84 = .ok (.ireturn, 1) := by decide +kernel
theorem jd_M_count_85 : decode prog_10_method_37_code 85 = .ok (.aload_n 0, 1) := by decide +kernel
theorem jd_M_count_86 : decode prog_10_method_37_code 86 = .ok (.iload_n 1, 1) := by decide +kernel
theorem jd_M_count_87 : decode prog_10_method_37_code 87 = .ok (.iconst 1, 1) := by decide +kernel
theorem jd_M_count_88 : decode prog_10_method_37_code 88 = .ok (.invokevirtual 117, 3) := by decide +kernel
theorem jd_M_count_91 : decode prog_10_method_37_code 91 = .ok (.ireturn, 1) := by decide +kernel
theorem jd_M_count_92 : decode prog_10_method_37_code 92 = .ok (.aload_n 0, 1) := by decide +kernel
theorem jd_M_count_93 : decode prog_10_method_37_code 93 = .ok (.iload_n 1, 1) := by decide +kernel
theorem jd_M_count_94 : decode prog_10_method_37_code 94 = .ok (.iconst 2, 1) := by decide +kernel
theorem jd_M_count_95 : decode prog_10_method_37_code 95 = .ok (.invokevirtual 117, 3) := by decide +kernel
theorem jd_M_count_98 : decode prog_10_method_37_code 98 = .ok (.ireturn, 1) := by decide +kernel
theorem jd_M_count_99 : decode prog_10_method_37_code 99 = .ok (.aload_n 0, 1) := by decide +kernel
theorem jd_M_count_100 : decode prog_10_method_37_code 100 = .ok (.iload_n 1, 1) := by decide +kernel
theorem jd_M_count_101 : decode prog_10_method_37_code 101 = .ok (.iconst 3, 1) := by decide +kernel
theorem jd_M_count_102 : decode prog_10_method_37_code 102 = .ok (.invokevirtual 117, 3) := by decide +kernel
theorem jd_M_count_105 : decode prog_10_method_37_code 105 = .ok (.ireturn, 1) := by decide +kernel
theorem jd_M_count_106 : decode prog_10_method_37_code 106 = .ok (.aload_n 0, 1) := by decide +kernel
theorem jd_M_count_107 : decode prog_10_method_37_code 107 = .ok (.getfield 20, 3) := by decide +kernel
theorem jd_M_count_110 : decode prog_10_method_37_code 110 = .ok (.iload_n 1, 1) := by decide +kernel
theorem jd_M_count_111 : decode prog_10_method_37_code 111 = .ok (.iaload, 1) := by decide +kernel
theorem jd_M_count_112 : decode prog_10_method_37_code 112 = .ok (.ireturn, 1) := by decide +kernel
theorem jd_M_count_113 : decode prog_10_method_37_code 113 = .ok (.aload_n 0, 1) := by decide +kernel
theorem jd_M_count_114 : decode prog_10_method_37_code 114 = .ok (.getfield 29, 3) := by decide +kernel
theorem jd_M_count_117 : decode prog_10_method_37_code 117 = .ok (.iload_n 1, 1) := by decide +kernel
theorem jd_M_count_118 : decode prog_10_method_37_code 118 = .ok (.baload, 1) := by decide +kernel
theorem jd_M_count_119 : decode prog_10_method_37_code 119 = .ok (.ifCond .eq 7, 3) := by decide +kernel
theorem jd_M_count_122 : decode prog_10_method_37_code 122 = .ok (.iconst 1, 1) := by decide +kernel
theorem jd_M_count_123 : decode prog_10_method_37_code 123 = .ok (.goto 4, 3) := by decide +kernel
theorem jd_M_count_126 : decode prog_10_method_37_code 126 = .ok (.iconst 0, 1) := by decide +kernel
theorem jd_M_count_127 : decode prog_10_method_37_code 127 = .ok (.ireturn, 1) := by decide +kernel
theorem jd_law_0 : decode code 0 = .ok (.new 7, 3) := by decide +kernel
theorem jd_law_3 : decode code 3 = .ok (.dup, 1) := by decide +kernel
theorem jd_law_4 : decode code 4 = .ok (.invokespecial 9, 3) := by decide +kernel
theorem jd_law_7 : decode code 7 = .ok (.astore_n 1, 1) := by decide +kernel
theorem jd_law_8 : decode code 8 = .ok (.new 10, 3) := by decide +kernel
theorem jd_law_11 : decode code 11 = .ok (.dup, 1) := by decide +kernel
theorem jd_law_12 : decode code 12 = .ok (.invokespecial 12, 3) := by decide +kernel
theorem jd_law_15 : decode code 15 = .ok (.astore_n 2, 1) := by decide +kernel
theorem jd_law_16 : decode code 16 = .ok (.iconst 0, 1) := by decide +kernel
theorem jd_law_17 : decode code 17 = .ok (.istore_n 3, 1) := by decide +kernel
theorem jd_law_18 : decode code 18 = .ok (.iload_n 3, 1) := by decide +kernel
theorem jd_law_19 : decode code 19 = .ok (.aload_n 0, 1) := by decide +kernel
theorem jd_law_20 : decode code 20 = .ok (.arraylength, 1) := by decide +kernel
theorem jd_law_21 : decode code 21 = .ok (.iconst 5, 1) := by decide +kernel
theorem jd_law_22 : decode code 22 = .ok (.isub, 1) := by decide +kernel
theorem jd_law_23 : decode code 23 = .ok (.if_icmp .gt 570, 3) := by decide +kernel
theorem jd_law_26 : decode code 26 = .ok (.aload_n 0, 1) := by decide +kernel
theorem jd_law_27 : decode code 27 = .ok (.iload_n 3, 1) := by decide +kernel
theorem jd_law_28 : decode code 28 = .ok (.iaload, 1) := by decide +kernel
theorem jd_law_29 : decode code 29 = .ok (.bipush 15, 2) := by decide +kernel
theorem jd_law_31 : decode code 31 = .ok (.iand, 1) := by decide +kernel
theorem jd_law_32 : decode code 32 = .ok (.tableswitch 555 0 12 #[68, 131, 154, 187, 210, 253, 286, 375, 399, 433, 456, 489, 522], 68) := by decide +kernel
theorem jd_law_100 : decode code 100 = .ok (.aload_n 1, 1) := by decide +kernel
theorem jd_law_101 : decode code 101 = .ok (.aload_n 0, 1) := by decide +kernel
theorem jd_law_102 : decode code 102 = .ok (.iload_n 3, 1) := by decide +kernel
theorem jd_law_103 : decode code 103 = .ok (.iconst 1, 1) := by decide +kernel
theorem jd_law_104 : decode code 104 = .ok (.iadd, 1) := by decide +kernel
theorem jd_law_105 : decode code 105 = .ok (.iaload, 1) := by decide +kernel
theorem jd_law_106 : decode code 106 = .ok (.aload_n 0, 1) := by decide +kernel
theorem jd_law_107 : decode code 107 = .ok (.iload_n 3, 1) := by decide +kernel
theorem jd_law_108 : decode code 108 = .ok (.iconst 2, 1) := by decide +kernel
theorem jd_law_109 : decode code 109 = .ok (.iadd, 1) := by decide +kernel
theorem jd_law_110 : decode code 110 = .ok (.iaload, 1) := by decide +kernel
theorem jd_law_111 : decode code 111 = .ok (.i2l, 1) := by decide +kernel
theorem jd_law_112 : decode code 112 = .ok (.bipush 32, 2) := by decide +kernel
theorem jd_law_114 : decode code 114 = .ok (.lshl, 1) := by decide +kernel
theorem jd_law_115 : decode code 115 = .ok (.aload_n 0, 1) := by decide +kernel
theorem jd_law_116 : decode code 116 = .ok (.iload_n 3, 1) := by decide +kernel
theorem jd_law_117 : decode code 117 = .ok (.iconst 3, 1) := by decide +kernel
theorem jd_law_118 : decode code 118 = .ok (.iadd, 1) := by decide +kernel
theorem jd_law_119 : decode code 119 = .ok (.iaload, 1) := by decide +kernel
theorem jd_law_120 : decode code 120 = .ok (.i2l, 1) := by decide +kernel
theorem jd_law_121 : decode code 121 = .ok (.ldc2_w 13, 3) := by decide +kernel
theorem jd_law_124 : decode code 124 = .ok (.land, 1) := by decide +kernel
theorem jd_law_125 : decode code 125 = .ok (.lor, 1) := by decide +kernel
theorem jd_law_126 : decode code 126 = .ok (.invokevirtual 15, 3) := by decide +kernel
theorem jd_law_129 : decode code 129 = .ok (.aload_n 2, 1) := by decide +kernel
theorem jd_law_130 : decode code 130 = .ok (.aload_n 0, 1) := by decide +kernel
theorem jd_law_131 : decode code 131 = .ok (.iload_n 3, 1) := by decide +kernel
theorem jd_law_132 : decode code 132 = .ok (.iconst 1, 1) := by decide +kernel
theorem jd_law_133 : decode code 133 = .ok (.iadd, 1) := by decide +kernel
theorem jd_law_134 : decode code 134 = .ok (.iaload, 1) := by decide +kernel
theorem jd_law_135 : decode code 135 = .ok (.aload_n 0, 1) := by decide +kernel
theorem jd_law_136 : decode code 136 = .ok (.iload_n 3, 1) := by decide +kernel
theorem jd_law_137 : decode code 137 = .ok (.iconst 2, 1) := by decide +kernel
theorem jd_law_138 : decode code 138 = .ok (.iadd, 1) := by decide +kernel
theorem jd_law_139 : decode code 139 = .ok (.iaload, 1) := by decide +kernel
theorem jd_law_140 : decode code 140 = .ok (.i2l, 1) := by decide +kernel
theorem jd_law_141 : decode code 141 = .ok (.bipush 32, 2) := by decide +kernel
theorem jd_law_143 : decode code 143 = .ok (.lshl, 1) := by decide +kernel
theorem jd_law_144 : decode code 144 = .ok (.aload_n 0, 1) := by decide +kernel
theorem jd_law_145 : decode code 145 = .ok (.iload_n 3, 1) := by decide +kernel
theorem jd_law_146 : decode code 146 = .ok (.iconst 3, 1) := by decide +kernel
theorem jd_law_147 : decode code 147 = .ok (.iadd, 1) := by decide +kernel
theorem jd_law_148 : decode code 148 = .ok (.iaload, 1) := by decide +kernel
theorem jd_law_149 : decode code 149 = .ok (.i2l, 1) := by decide +kernel
theorem jd_law_150 : decode code 150 = .ok (.ldc2_w 13, 3) := by decide +kernel
theorem jd_law_153 : decode code 153 = .ok (.land, 1) := by decide +kernel
theorem jd_law_154 : decode code 154 = .ok (.lor, 1) := by decide +kernel
theorem jd_law_155 : decode code 155 = .ok (.invokevirtual 19, 3) := by decide +kernel
theorem jd_law_158 : decode code 158 = .ok (.if_icmp .eq 429, 3) := by decide +kernel
theorem jd_law_161 : decode code 161 = .ok (.iconst 0, 1) := by decide +kernel
theorem jd_law_162 : decode code 162 = .ok (.ireturn, 1) := by decide +kernel
theorem jd_law_163 : decode code 163 = .ok (.aload_n 1, 1) := by decide +kernel
theorem jd_law_164 : decode code 164 = .ok (.aload_n 0, 1) := by decide +kernel
theorem jd_law_165 : decode code 165 = .ok (.iload_n 3, 1) := by decide +kernel
theorem jd_law_166 : decode code 166 = .ok (.iconst 1, 1) := by decide +kernel
theorem jd_law_167 : decode code 167 = .ok (.iadd, 1) := by decide +kernel
theorem jd_law_168 : decode code 168 = .ok (.iaload, 1) := by decide +kernel
theorem jd_law_169 : decode code 169 = .ok (.invokevirtual 20, 3) := by decide +kernel
theorem jd_law_172 : decode code 172 = .ok (.aload_n 2, 1) := by decide +kernel
theorem jd_law_173 : decode code 173 = .ok (.aload_n 0, 1) := by decide +kernel
theorem jd_law_174 : decode code 174 = .ok (.iload_n 3, 1) := by decide +kernel
theorem jd_law_175 : decode code 175 = .ok (.iconst 1, 1) := by decide +kernel
theorem jd_law_176 : decode code 176 = .ok (.iadd, 1) := by decide +kernel
theorem jd_law_177 : decode code 177 = .ok (.iaload, 1) := by decide +kernel
theorem jd_law_178 : decode code 178 = .ok (.invokevirtual 24, 3) := by decide +kernel
theorem jd_law_181 : decode code 181 = .ok (.if_icmp .eq 406, 3) := by decide +kernel
theorem jd_law_184 : decode code 184 = .ok (.iconst 0, 1) := by decide +kernel
theorem jd_law_185 : decode code 185 = .ok (.ireturn, 1) := by decide +kernel
theorem jd_law_186 : decode code 186 = .ok (.aload_n 1, 1) := by decide +kernel
theorem jd_law_187 : decode code 187 = .ok (.aload_n 0, 1) := by decide +kernel
theorem jd_law_188 : decode code 188 = .ok (.iload_n 3, 1) := by decide +kernel
theorem jd_law_189 : decode code 189 = .ok (.iconst 1, 1) := by decide +kernel
theorem jd_law_190 : decode code 190 = .ok (.iadd, 1) := by decide +kernel
theorem jd_law_191 : decode code 191 = .ok (.iaload, 1) := by decide +kernel
theorem jd_law_192 : decode code 192 = .ok (.aload_n 0, 1) := by decide +kernel
theorem jd_law_193 : decode code 193 = .ok (.iload_n 3, 1) := by decide +kernel
theorem jd_law_194 : decode code 194 = .ok (.iconst 2, 1) := by decide +kernel
theorem jd_law_195 : decode code 195 = .ok (.iadd, 1) := by decide +kernel
theorem jd_law_196 : decode code 196 = .ok (.iaload, 1) := by decide +kernel
theorem jd_law_197 : decode code 197 = .ok (.invokevirtual 25, 3) := by decide +kernel
theorem jd_law_200 : decode code 200 = .ok (.aload_n 2, 1) := by decide +kernel
theorem jd_law_201 : decode code 201 = .ok (.aload_n 0, 1) := by decide +kernel
theorem jd_law_202 : decode code 202 = .ok (.iload_n 3, 1) := by decide +kernel
theorem jd_law_203 : decode code 203 = .ok (.iconst 1, 1) := by decide +kernel
theorem jd_law_204 : decode code 204 = .ok (.iadd, 1) := by decide +kernel
theorem jd_law_205 : decode code 205 = .ok (.iaload, 1) := by decide +kernel
theorem jd_law_206 : decode code 206 = .ok (.aload_n 0, 1) := by decide +kernel
theorem jd_law_207 : decode code 207 = .ok (.iload_n 3, 1) := by decide +kernel
theorem jd_law_208 : decode code 208 = .ok (.iconst 2, 1) := by decide +kernel
theorem jd_law_209 : decode code 209 = .ok (.iadd, 1) := by decide +kernel
theorem jd_law_210 : decode code 210 = .ok (.iaload, 1) := by decide +kernel
theorem jd_law_211 : decode code 211 = .ok (.invokevirtual 29, 3) := by decide +kernel
theorem jd_law_214 : decode code 214 = .ok (.if_icmp .eq 373, 3) := by decide +kernel
theorem jd_law_217 : decode code 217 = .ok (.iconst 0, 1) := by decide +kernel
theorem jd_law_218 : decode code 218 = .ok (.ireturn, 1) := by decide +kernel
theorem jd_law_219 : decode code 219 = .ok (.aload_n 1, 1) := by decide +kernel
theorem jd_law_220 : decode code 220 = .ok (.aload_n 0, 1) := by decide +kernel
theorem jd_law_221 : decode code 221 = .ok (.iload_n 3, 1) := by decide +kernel
theorem jd_law_222 : decode code 222 = .ok (.iconst 1, 1) := by decide +kernel
theorem jd_law_223 : decode code 223 = .ok (.iadd, 1) := by decide +kernel
theorem jd_law_224 : decode code 224 = .ok (.iaload, 1) := by decide +kernel
theorem jd_law_225 : decode code 225 = .ok (.invokevirtual 30, 3) := by decide +kernel
theorem jd_law_228 : decode code 228 = .ok (.aload_n 2, 1) := by decide +kernel
theorem jd_law_229 : decode code 229 = .ok (.aload_n 0, 1) := by decide +kernel
theorem jd_law_230 : decode code 230 = .ok (.iload_n 3, 1) := by decide +kernel
theorem jd_law_231 : decode code 231 = .ok (.iconst 1, 1) := by decide +kernel
theorem jd_law_232 : decode code 232 = .ok (.iadd, 1) := by decide +kernel
theorem jd_law_233 : decode code 233 = .ok (.iaload, 1) := by decide +kernel
theorem jd_law_234 : decode code 234 = .ok (.invokevirtual 33, 3) := by decide +kernel
theorem jd_law_237 : decode code 237 = .ok (.if_icmp .eq 350, 3) := by decide +kernel
theorem jd_law_240 : decode code 240 = .ok (.iconst 0, 1) := by decide +kernel
theorem jd_law_241 : decode code 241 = .ok (.ireturn, 1) := by decide +kernel
theorem jd_law_242 : decode code 242 = .ok (.aload_n 1, 1) := by decide +kernel
theorem jd_law_243 : decode code 243 = .ok (.aload_n 0, 1) := by decide +kernel
theorem jd_law_244 : decode code 244 = .ok (.iload_n 3, 1) := by decide +kernel
theorem jd_law_245 : decode code 245 = .ok (.iconst 1, 1) := by decide +kernel
theorem jd_law_246 : decode code 246 = .ok (.iadd, 1) := by decide +kernel
theorem jd_law_247 : decode code 247 = .ok (.iaload, 1) := by decide +kernel
theorem jd_law_248 : decode code 248 = .ok (.aload_n 0, 1) := by decide +kernel
theorem jd_law_249 : decode code 249 = .ok (.iload_n 3, 1) := by decide +kernel
theorem jd_law_250 : decode code 250 = .ok (.iconst 2, 1) := by decide +kernel
theorem jd_law_251 : decode code 251 = .ok (.iadd, 1) := by decide +kernel
theorem jd_law_252 : decode code 252 = .ok (.iaload, 1) := by decide +kernel
theorem jd_law_253 : decode code 253 = .ok (.aload_n 0, 1) := by decide +kernel
theorem jd_law_254 : decode code 254 = .ok (.iload_n 3, 1) := by decide +kernel
theorem jd_law_255 : decode code 255 = .ok (.iconst 3, 1) := by decide +kernel
theorem jd_law_256 : decode code 256 = .ok (.iadd, 1) := by decide +kernel
theorem jd_law_257 : decode code 257 = .ok (.iaload, 1) := by decide +kernel
theorem jd_law_258 : decode code 258 = .ok (.invokevirtual 34, 3) := by decide +kernel
theorem jd_law_261 : decode code 261 = .ok (.aload_n 2, 1) := by decide +kernel
theorem jd_law_262 : decode code 262 = .ok (.aload_n 0, 1) := by decide +kernel
theorem jd_law_263 : decode code 263 = .ok (.iload_n 3, 1) := by decide +kernel
theorem jd_law_264 : decode code 264 = .ok (.iconst 1, 1) := by decide +kernel
theorem jd_law_265 : decode code 265 = .ok (.iadd, 1) := by decide +kernel
theorem jd_law_266 : decode code 266 = .ok (.iaload, 1) := by decide +kernel
theorem jd_law_267 : decode code 267 = .ok (.aload_n 0, 1) := by decide +kernel
theorem jd_law_268 : decode code 268 = .ok (.iload_n 3, 1) := by decide +kernel
theorem jd_law_269 : decode code 269 = .ok (.iconst 2, 1) := by decide +kernel
theorem jd_law_270 : decode code 270 = .ok (.iadd, 1) := by decide +kernel
theorem jd_law_271 : decode code 271 = .ok (.iaload, 1) := by decide +kernel
theorem jd_law_272 : decode code 272 = .ok (.aload_n 0, 1) := by decide +kernel
theorem jd_law_273 : decode code 273 = .ok (.iload_n 3, 1) := by decide +kernel
theorem jd_law_274 : decode code 274 = .ok (.iconst 3, 1) := by decide +kernel
theorem jd_law_275 : decode code 275 = .ok (.iadd, 1) := by decide +kernel
theorem jd_law_276 : decode code 276 = .ok (.iaload, 1) := by decide +kernel
theorem jd_law_277 : decode code 277 = .ok (.invokevirtual 38, 3) := by decide +kernel
theorem jd_law_280 : decode code 280 = .ok (.if_icmp .eq 307, 3) := by decide +kernel
theorem jd_law_283 : decode code 283 = .ok (.iconst 0, 1) := by decide +kernel
theorem jd_law_284 : decode code 284 = .ok (.ireturn, 1) := by decide +kernel
theorem jd_law_285 : decode code 285 = .ok (.aload_n 1, 1) := by decide +kernel
theorem jd_law_286 : decode code 286 = .ok (.aload_n 0, 1) := by decide +kernel
theorem jd_law_287 : decode code 287 = .ok (.iload_n 3, 1) := by decide +kernel
theorem jd_law_288 : decode code 288 = .ok (.iconst 1, 1) := by decide +kernel
theorem jd_law_289 : decode code 289 = .ok (.iadd, 1) := by decide +kernel
theorem jd_law_290 : decode code 290 = .ok (.iaload, 1) := by decide +kernel
theorem jd_law_291 : decode code 291 = .ok (.aload_n 0, 1) := by decide +kernel
theorem jd_law_292 : decode code 292 = .ok (.iload_n 3, 1) := by decide +kernel
theorem jd_law_293 : decode code 293 = .ok (.iconst 2, 1) := by decide +kernel
theorem jd_law_294 : decode code 294 = .ok (.iadd, 1) := by decide +kernel
theorem jd_law_295 : decode code 295 = .ok (.iaload, 1) := by decide +kernel
theorem jd_law_296 : decode code 296 = .ok (.invokevirtual 39, 3) := by decide +kernel
theorem jd_law_299 : decode code 299 = .ok (.aload_n 2, 1) := by decide +kernel
theorem jd_law_300 : decode code 300 = .ok (.aload_n 0, 1) := by decide +kernel
theorem jd_law_301 : decode code 301 = .ok (.iload_n 3, 1) := by decide +kernel
theorem jd_law_302 : decode code 302 = .ok (.iconst 1, 1) := by decide +kernel
theorem jd_law_303 : decode code 303 = .ok (.iadd, 1) := by decide +kernel
theorem jd_law_304 : decode code 304 = .ok (.iaload, 1) := by decide +kernel
theorem jd_law_305 : decode code 305 = .ok (.aload_n 0, 1) := by decide +kernel
theorem jd_law_306 : decode code 306 = .ok (.iload_n 3, 1) := by decide +kernel
theorem jd_law_307 : decode code 307 = .ok (.iconst 2, 1) := by decide +kernel
theorem jd_law_308 : decode code 308 = .ok (.iadd, 1) := by decide +kernel
theorem jd_law_309 : decode code 309 = .ok (.iaload, 1) := by decide +kernel
theorem jd_law_310 : decode code 310 = .ok (.invokevirtual 42, 3) := by decide +kernel
theorem jd_law_313 : decode code 313 = .ok (.if_icmp .eq 274, 3) := by decide +kernel
theorem jd_law_316 : decode code 316 = .ok (.iconst 0, 1) := by decide +kernel
theorem jd_law_317 : decode code 317 = .ok (.ireturn, 1) := by decide +kernel
theorem jd_law_318 : decode code 318 = .ok (.aload_n 1, 1) := by decide +kernel
theorem jd_law_319 : decode code 319 = .ok (.aload_n 0, 1) := by decide +kernel
theorem jd_law_320 : decode code 320 = .ok (.iload_n 3, 1) := by decide +kernel
theorem jd_law_321 : decode code 321 = .ok (.iconst 1, 1) := by decide +kernel
theorem jd_law_322 : decode code 322 = .ok (.iadd, 1) := by decide +kernel
theorem jd_law_323 : decode code 323 = .ok (.iaload, 1) := by decide +kernel
theorem jd_law_324 : decode code 324 = .ok (.aload_n 0, 1) := by decide +kernel
theorem jd_law_325 : decode code 325 = .ok (.iload_n 3, 1) := by decide +kernel
theorem jd_law_326 : decode code 326 = .ok (.iconst 2, 1) := by decide +kernel
theorem jd_law_327 : decode code 327 = .ok (.iadd, 1) := by decide +kernel
theorem jd_law_328 : decode code 328 = .ok (.iaload, 1) := by decide +kernel
theorem jd_law_329 : decode code 329 = .ok (.ifCond .eq 7, 3) := by decide +kernel
theorem jd_law_332 : decode code 332 = .ok (.iconst 1, 1) := by decide +kernel
theorem jd_law_333 : decode code 333 = .ok (.goto 4, 3) := by decide +kernel
theorem jd_law_336 : decode code 336 = .ok (.iconst 0, 1) := by decide +kernel
theorem jd_law_337 : decode code 337 = .ok (.aload_n 0, 1) := by decide +kernel
theorem jd_law_338 : decode code 338 = .ok (.iload_n 3, 1) := by decide +kernel
theorem jd_law_339 : decode code 339 = .ok (.iconst 3, 1) := by decide +kernel
theorem jd_law_340 : decode code 340 = .ok (.iadd, 1) := by decide +kernel
theorem jd_law_341 : decode code 341 = .ok (.iaload, 1) := by decide +kernel
theorem jd_law_342 : decode code 342 = .ok (.i2l, 1) := by decide +kernel
theorem jd_law_343 : decode code 343 = .ok (.bipush 32, 2) := by decide +kernel
theorem jd_law_345 : decode code 345 = .ok (.lshl, 1) := by decide +kernel
theorem jd_law_346 : decode code 346 = .ok (.aload_n 0, 1) := by decide +kernel
theorem jd_law_347 : decode code 347 = .ok (.iload_n 3, 1) := by decide +kernel
theorem jd_law_348 : decode code 348 = .ok (.iconst 4, 1) := by decide +kernel
theorem jd_law_349 : decode code 349 = .ok (.iadd, 1) := by decide +kernel
theorem jd_law_350 : decode code 350 = .ok (.iaload, 1) := by decide +kernel
theorem jd_law_351 : decode code 351 = .ok (.i2l, 1) := by decide +kernel
theorem jd_law_352 : decode code 352 = .ok (.ldc2_w 13, 3) := by decide +kernel
theorem jd_law_355 : decode code 355 = .ok (.land, 1) := by decide +kernel
theorem jd_law_356 : decode code 356 = .ok (.lor, 1) := by decide +kernel
theorem jd_law_357 : decode code 357 = .ok (.invokevirtual 43, 3) := by decide +kernel
theorem jd_law_360 : decode code 360 = .ok (.aload_n 2, 1) := by decide +kernel
theorem jd_law_361 : decode code 361 = .ok (.aload_n 0, 1) := by decide +kernel
theorem jd_law_362 : decode code 362 = .ok (.iload_n 3, 1) := by decide +kernel
theorem jd_law_363 : decode code 363 = .ok (.iconst 1, 1) := by decide +kernel
theorem jd_law_364 : decode code 364 = .ok (.iadd, 1) := by decide +kernel
theorem jd_law_365 : decode code 365 = .ok (.iaload, 1) := by decide +kernel
theorem jd_law_366 : decode code 366 = .ok (.aload_n 0, 1) := by decide +kernel
theorem jd_law_367 : decode code 367 = .ok (.iload_n 3, 1) := by decide +kernel
theorem jd_law_368 : decode code 368 = .ok (.iconst 2, 1) := by decide +kernel
theorem jd_law_369 : decode code 369 = .ok (.iadd, 1) := by decide +kernel
theorem jd_law_370 : decode code 370 = .ok (.iaload, 1) := by decide +kernel
theorem jd_law_371 : decode code 371 = .ok (.ifCond .eq 7, 3) := by decide +kernel
theorem jd_law_374 : decode code 374 = .ok (.iconst 1, 1) := by decide +kernel
theorem jd_law_375 : decode code 375 = .ok (.goto 4, 3) := by decide +kernel
theorem jd_law_378 : decode code 378 = .ok (.iconst 0, 1) := by decide +kernel
theorem jd_law_379 : decode code 379 = .ok (.aload_n 0, 1) := by decide +kernel
theorem jd_law_380 : decode code 380 = .ok (.iload_n 3, 1) := by decide +kernel
theorem jd_law_381 : decode code 381 = .ok (.iconst 3, 1) := by decide +kernel
theorem jd_law_382 : decode code 382 = .ok (.iadd, 1) := by decide +kernel
theorem jd_law_383 : decode code 383 = .ok (.iaload, 1) := by decide +kernel
theorem jd_law_384 : decode code 384 = .ok (.i2l, 1) := by decide +kernel
theorem jd_law_385 : decode code 385 = .ok (.bipush 32, 2) := by decide +kernel
theorem jd_law_387 : decode code 387 = .ok (.lshl, 1) := by decide +kernel
theorem jd_law_388 : decode code 388 = .ok (.aload_n 0, 1) := by decide +kernel
theorem jd_law_389 : decode code 389 = .ok (.iload_n 3, 1) := by decide +kernel
theorem jd_law_390 : decode code 390 = .ok (.iconst 4, 1) := by decide +kernel
theorem jd_law_391 : decode code 391 = .ok (.iadd, 1) := by decide +kernel
theorem jd_law_392 : decode code 392 = .ok (.iaload, 1) := by decide +kernel
theorem jd_law_393 : decode code 393 = .ok (.i2l, 1) := by decide +kernel
theorem jd_law_394 : decode code 394 = .ok (.ldc2_w 13, 3) := by decide +kernel
theorem jd_law_397 : decode code 397 = .ok (.land, 1) := by decide +kernel
theorem jd_law_398 : decode code 398 = .ok (.lor, 1) := by decide +kernel
theorem jd_law_399 : decode code 399 = .ok (.invokevirtual 47, 3) := by decide +kernel
theorem jd_law_402 : decode code 402 = .ok (.if_icmp .eq 185, 3) := by decide +kernel
theorem jd_law_405 : decode code 405 = .ok (.iconst 0, 1) := by decide +kernel
theorem jd_law_406 : decode code 406 = .ok (.ireturn, 1) := by decide +kernel
theorem jd_law_407 : decode code 407 = .ok (.aload_n 1, 1) := by decide +kernel
theorem jd_law_408 : decode code 408 = .ok (.aload_n 0, 1) := by decide +kernel
theorem jd_law_409 : decode code 409 = .ok (.iload_n 3, 1) := by decide +kernel
theorem jd_law_410 : decode code 410 = .ok (.iconst 1, 1) := by decide +kernel
theorem jd_law_411 : decode code 411 = .ok (.iadd, 1) := by decide +kernel
theorem jd_law_412 : decode code 412 = .ok (.iaload, 1) := by decide +kernel
theorem jd_law_413 : decode code 413 = .ok (.invokevirtual 48, 3) := by decide +kernel
theorem jd_law_416 : decode code 416 = .ok (.aload_n 2, 1) := by decide +kernel
theorem jd_law_417 : decode code 417 = .ok (.aload_n 0, 1) := by decide +kernel
theorem jd_law_418 : decode code 418 = .ok (.iload_n 3, 1) := by decide +kernel
theorem jd_law_419 : decode code 419 = .ok (.iconst 1, 1) := by decide +kernel
theorem jd_law_420 : decode code 420 = .ok (.iadd, 1) := by decide +kernel
theorem jd_law_421 : decode code 421 = .ok (.iaload, 1) := by decide +kernel
theorem jd_law_422 : decode code 422 = .ok (.invokevirtual 52, 3) := by decide +kernel
theorem jd_law_425 : decode code 425 = .ok (.lcmp, 1) := by decide +kernel
theorem jd_law_426 : decode code 426 = .ok (.ifCond .eq 161, 3) := by decide +kernel
theorem jd_law_429 : decode code 429 = .ok (.iconst 0, 1) := by decide +kernel
theorem jd_law_430 : decode code 430 = .ok (.ireturn, 1) := by decide +kernel
theorem jd_law_431 : decode code 431 = .ok (.aload_n 1, 1) := by decide +kernel
theorem jd_law_432 : decode code 432 = .ok (.aload_n 0, 1) := by decide +kernel
theorem jd_law_433 : decode code 433 = .ok (.iload_n 3, 1) := by decide +kernel
theorem jd_law_434 : decode code 434 = .ok (.iconst 1, 1) := by decide +kernel
theorem jd_law_435 : decode code 435 = .ok (.iadd, 1) := by decide +kernel
theorem jd_law_436 : decode code 436 = .ok (.iaload, 1) := by decide +kernel
theorem jd_law_437 : decode code 437 = .ok (.aload_n 0, 1) := by decide +kernel
theorem jd_law_438 : decode code 438 = .ok (.iload_n 3, 1) := by decide +kernel
theorem jd_law_439 : decode code 439 = .ok (.iconst 2, 1) := by decide +kernel
theorem jd_law_440 : decode code 440 = .ok (.iadd, 1) := by decide +kernel
theorem jd_law_441 : decode code 441 = .ok (.iaload, 1) := by decide +kernel
theorem jd_law_442 : decode code 442 = .ok (.invokevirtual 53, 3) := by decide +kernel
theorem jd_law_445 : decode code 445 = .ok (.aload_n 2, 1) := by decide +kernel
theorem jd_law_446 : decode code 446 = .ok (.aload_n 0, 1) := by decide +kernel
theorem jd_law_447 : decode code 447 = .ok (.iload_n 3, 1) := by decide +kernel
theorem jd_law_448 : decode code 448 = .ok (.iconst 1, 1) := by decide +kernel
theorem jd_law_449 : decode code 449 = .ok (.iadd, 1) := by decide +kernel
theorem jd_law_450 : decode code 450 = .ok (.iaload, 1) := by decide +kernel
theorem jd_law_451 : decode code 451 = .ok (.aload_n 0, 1) := by decide +kernel
theorem jd_law_452 : decode code 452 = .ok (.iload_n 3, 1) := by decide +kernel
theorem jd_law_453 : decode code 453 = .ok (.iconst 2, 1) := by decide +kernel
theorem jd_law_454 : decode code 454 = .ok (.iadd, 1) := by decide +kernel
theorem jd_law_455 : decode code 455 = .ok (.iaload, 1) := by decide +kernel
theorem jd_law_456 : decode code 456 = .ok (.invokevirtual 57, 3) := by decide +kernel
theorem jd_law_459 : decode code 459 = .ok (.lcmp, 1) := by decide +kernel
theorem jd_law_460 : decode code 460 = .ok (.ifCond .eq 127, 3) := by decide +kernel
theorem jd_law_463 : decode code 463 = .ok (.iconst 0, 1) := by decide +kernel
theorem jd_law_464 : decode code 464 = .ok (.ireturn, 1) := by decide +kernel
theorem jd_law_465 : decode code 465 = .ok (.aload_n 1, 1) := by decide +kernel
theorem jd_law_466 : decode code 466 = .ok (.aload_n 0, 1) := by decide +kernel
theorem jd_law_467 : decode code 467 = .ok (.iload_n 3, 1) := by decide +kernel
theorem jd_law_468 : decode code 468 = .ok (.iconst 1, 1) := by decide +kernel
theorem jd_law_469 : decode code 469 = .ok (.iadd, 1) := by decide +kernel
theorem jd_law_470 : decode code 470 = .ok (.iaload, 1) := by decide +kernel
theorem jd_law_471 : decode code 471 = .ok (.invokevirtual 58, 3) := by decide +kernel
theorem jd_law_474 : decode code 474 = .ok (.aload_n 2, 1) := by decide +kernel
theorem jd_law_475 : decode code 475 = .ok (.aload_n 0, 1) := by decide +kernel
theorem jd_law_476 : decode code 476 = .ok (.iload_n 3, 1) := by decide +kernel
theorem jd_law_477 : decode code 477 = .ok (.iconst 1, 1) := by decide +kernel
theorem jd_law_478 : decode code 478 = .ok (.iadd, 1) := by decide +kernel
theorem jd_law_479 : decode code 479 = .ok (.iaload, 1) := by decide +kernel
theorem jd_law_480 : decode code 480 = .ok (.invokevirtual 61, 3) := by decide +kernel
theorem jd_law_483 : decode code 483 = .ok (.if_icmp .eq 104, 3) := by decide +kernel
theorem jd_law_486 : decode code 486 = .ok (.iconst 0, 1) := by decide +kernel
theorem jd_law_487 : decode code 487 = .ok (.ireturn, 1) := by decide +kernel
theorem jd_law_488 : decode code 488 = .ok (.aload_n 1, 1) := by decide +kernel
theorem jd_law_489 : decode code 489 = .ok (.aload_n 0, 1) := by decide +kernel
theorem jd_law_490 : decode code 490 = .ok (.iload_n 3, 1) := by decide +kernel
theorem jd_law_491 : decode code 491 = .ok (.iconst 1, 1) := by decide +kernel
theorem jd_law_492 : decode code 492 = .ok (.iadd, 1) := by decide +kernel
theorem jd_law_493 : decode code 493 = .ok (.iaload, 1) := by decide +kernel
theorem jd_law_494 : decode code 494 = .ok (.aload_n 0, 1) := by decide +kernel
theorem jd_law_495 : decode code 495 = .ok (.iload_n 3, 1) := by decide +kernel
theorem jd_law_496 : decode code 496 = .ok (.iconst 2, 1) := by decide +kernel
theorem jd_law_497 : decode code 497 = .ok (.iadd, 1) := by decide +kernel
theorem jd_law_498 : decode code 498 = .ok (.iaload, 1) := by decide +kernel
theorem jd_law_499 : decode code 499 = .ok (.invokevirtual 62, 3) := by decide +kernel
theorem jd_law_502 : decode code 502 = .ok (.aload_n 2, 1) := by decide +kernel
theorem jd_law_503 : decode code 503 = .ok (.aload_n 0, 1) := by decide +kernel
theorem jd_law_504 : decode code 504 = .ok (.iload_n 3, 1) := by decide +kernel
theorem jd_law_505 : decode code 505 = .ok (.iconst 1, 1) := by decide +kernel
theorem jd_law_506 : decode code 506 = .ok (.iadd, 1) := by decide +kernel
theorem jd_law_507 : decode code 507 = .ok (.iaload, 1) := by decide +kernel
theorem jd_law_508 : decode code 508 = .ok (.aload_n 0, 1) := by decide +kernel
theorem jd_law_509 : decode code 509 = .ok (.iload_n 3, 1) := by decide +kernel
theorem jd_law_510 : decode code 510 = .ok (.iconst 2, 1) := by decide +kernel
theorem jd_law_511 : decode code 511 = .ok (.iadd, 1) := by decide +kernel
theorem jd_law_512 : decode code 512 = .ok (.iaload, 1) := by decide +kernel
theorem jd_law_513 : decode code 513 = .ok (.invokevirtual 65, 3) := by decide +kernel
theorem jd_law_516 : decode code 516 = .ok (.if_icmp .eq 71, 3) := by decide +kernel
theorem jd_law_519 : decode code 519 = .ok (.iconst 0, 1) := by decide +kernel
theorem jd_law_520 : decode code 520 = .ok (.ireturn, 1) := by decide +kernel
theorem jd_law_521 : decode code 521 = .ok (.aload_n 1, 1) := by decide +kernel
theorem jd_law_522 : decode code 522 = .ok (.aload_n 0, 1) := by decide +kernel
theorem jd_law_523 : decode code 523 = .ok (.iload_n 3, 1) := by decide +kernel
theorem jd_law_524 : decode code 524 = .ok (.iconst 1, 1) := by decide +kernel
theorem jd_law_525 : decode code 525 = .ok (.iadd, 1) := by decide +kernel
theorem jd_law_526 : decode code 526 = .ok (.iaload, 1) := by decide +kernel
theorem jd_law_527 : decode code 527 = .ok (.aload_n 0, 1) := by decide +kernel
theorem jd_law_528 : decode code 528 = .ok (.iload_n 3, 1) := by decide +kernel
theorem jd_law_529 : decode code 529 = .ok (.iconst 2, 1) := by decide +kernel
theorem jd_law_530 : decode code 530 = .ok (.iadd, 1) := by decide +kernel
theorem jd_law_531 : decode code 531 = .ok (.iaload, 1) := by decide +kernel
theorem jd_law_532 : decode code 532 = .ok (.invokevirtual 66, 3) := by decide +kernel
theorem jd_law_535 : decode code 535 = .ok (.aload_n 2, 1) := by decide +kernel
theorem jd_law_536 : decode code 536 = .ok (.aload_n 0, 1) := by decide +kernel
theorem jd_law_537 : decode code 537 = .ok (.iload_n 3, 1) := by decide +kernel
theorem jd_law_538 : decode code 538 = .ok (.iconst 1, 1) := by decide +kernel
theorem jd_law_539 : decode code 539 = .ok (.iadd, 1) := by decide +kernel
theorem jd_law_540 : decode code 540 = .ok (.iaload, 1) := by decide +kernel
theorem jd_law_541 : decode code 541 = .ok (.aload_n 0, 1) := by decide +kernel
theorem jd_law_542 : decode code 542 = .ok (.iload_n 3, 1) := by decide +kernel
theorem jd_law_543 : decode code 543 = .ok (.iconst 2, 1) := by decide +kernel
theorem jd_law_544 : decode code 544 = .ok (.iadd, 1) := by decide +kernel
theorem jd_law_545 : decode code 545 = .ok (.iaload, 1) := by decide +kernel
theorem jd_law_546 : decode code 546 = .ok (.invokevirtual 69, 3) := by decide +kernel
theorem jd_law_549 : decode code 549 = .ok (.if_icmp .eq 38, 3) := by decide +kernel
theorem jd_law_552 : decode code 552 = .ok (.iconst 0, 1) := by decide +kernel
theorem jd_law_553 : decode code 553 = .ok (.ireturn, 1) := by decide +kernel
theorem jd_law_554 : decode code 554 = .ok (.aload_n 1, 1) := by decide +kernel
theorem jd_law_555 : decode code 555 = .ok (.aload_n 0, 1) := by decide +kernel
theorem jd_law_556 : decode code 556 = .ok (.iload_n 3, 1) := by decide +kernel
theorem jd_law_557 : decode code 557 = .ok (.iconst 1, 1) := by decide +kernel
theorem jd_law_558 : decode code 558 = .ok (.iadd, 1) := by decide +kernel
theorem jd_law_559 : decode code 559 = .ok (.iaload, 1) := by decide +kernel
theorem jd_law_560 : decode code 560 = .ok (.aload_n 0, 1) := by decide +kernel
theorem jd_law_561 : decode code 561 = .ok (.iload_n 3, 1) := by decide +kernel
theorem jd_law_562 : decode code 562 = .ok (.iconst 2, 1) := by decide +kernel
theorem jd_law_563 : decode code 563 = .ok (.iadd, 1) := by decide +kernel
theorem jd_law_564 : decode code 564 = .ok (.iaload, 1) := by decide +kernel
theorem jd_law_565 : decode code 565 = .ok (.invokevirtual 70, 3) := by decide +kernel
theorem jd_law_568 : decode code 568 = .ok (.aload_n 2, 1) := by decide +kernel
theorem jd_law_569 : decode code 569 = .ok (.aload_n 0, 1) := by decide +kernel
theorem jd_law_570 : decode code 570 = .ok (.iload_n 3, 1) := by decide +kernel
theorem jd_law_571 : decode code 571 = .ok (.iconst 1, 1) := by decide +kernel
theorem jd_law_572 : decode code 572 = .ok (.iadd, 1) := by decide +kernel
theorem jd_law_573 : decode code 573 = .ok (.iaload, 1) := by decide +kernel
theorem jd_law_574 : decode code 574 = .ok (.aload_n 0, 1) := by decide +kernel
theorem jd_law_575 : decode code 575 = .ok (.iload_n 3, 1) := by decide +kernel
theorem jd_law_576 : decode code 576 = .ok (.iconst 2, 1) := by decide +kernel
theorem jd_law_577 : decode code 577 = .ok (.iadd, 1) := by decide +kernel
theorem jd_law_578 : decode code 578 = .ok (.iaload, 1) := by decide +kernel
theorem jd_law_579 : decode code 579 = .ok (.invokevirtual 73, 3) := by decide +kernel
theorem jd_law_582 : decode code 582 = .ok (.if_icmp .eq 5, 3) := by decide +kernel
theorem jd_law_585 : decode code 585 = .ok (.iconst 0, 1) := by decide +kernel
theorem jd_law_586 : decode code 586 = .ok (.ireturn, 1) := by decide +kernel
theorem jd_law_587 : decode code 587 = .ok (.iinc 3 5, 3) := by decide +kernel
theorem jd_law_590 : decode code 590 = .ok (.goto (-572), 3) := by decide +kernel
theorem jd_law_593 : decode code 593 = .ok (.iconst 1, 1) := by decide +kernel
theorem jd_law_594 : decode code 594 = .ok (.ireturn, 1) := by decide +kernel
theorem jd_JP_checkIndex_0 : decode prog_16_method_11_code 0 = .ok (.iload_n 0, 1) := by decide +kernel
theorem jd_JP_checkIndex_1 : decode prog_16_method_11_code 1 = .ok (.ifCond .lt 8, 3) := by decide +kernel
theorem jd_JP_checkIndex_4 : decode prog_16_method_11_code 4 = .ok (.iload_n 0, 1) := by decide +kernel
theorem jd_JP_checkIndex_5 : decode prog_16_method_11_code 5 = .ok (.iload_n 1, 1) := by decide +kernel
theorem jd_JP_checkIndex_6 : decode prog_16_method_11_code 6 = .ok (.if_icmp .lt 10, 3) := by decide +kernel
theorem jd_JP_checkIndex_9 : decode prog_16_method_11_code 9 = .ok (.aload_n 2, 1) := by decide +kernel
theorem jd_JP_checkIndex_10 : decode prog_16_method_11_code 10 = .ok (.iload_n 0, 1) := by decide +kernel
theorem jd_JP_checkIndex_11 : decode prog_16_method_11_code 11 = .ok (.iload_n 1, 1) := by decide +kernel
theorem jd_JP_checkIndex_12 : decode prog_16_method_11_code 12 = .ok (.invokestatic 95, 3) := by decide +kernel
theorem jd_JP_checkIndex_15 : decode prog_16_method_11_code 15 = .ok (.athrow, 1) := by decide +kernel
theorem jd_JP_checkIndex_16 : decode prog_16_method_11_code 16 = .ok (.iload_n 0, 1) := by decide +kernel
theorem jd_JP_checkIndex_17 : decode prog_16_method_11_code 17 = .ok (.ireturn, 1) := by decide +kernel
