theorem jd_G_fillWords_0 : decode prog_3_method_4_code 0 = .ok (.iconst 0, 1) := by decide +kernel
theorem jd_G_fillWords_1 : decode prog_3_method_4_code 1 = .ok (.istore 4, 2) := by decide +kernel
theorem jd_G_fillWords_3 : decode prog_3_method_4_code 3 = .ok (.iload 4, 2) := by decide +kernel
theorem jd_G_fillWords_5 : decode prog_3_method_4_code 5 = .ok (.bipush 16, 2) := by decide +kernel
theorem jd_G_fillWords_7 : decode prog_3_method_4_code 7 = .ok (.if_icmp .ge 58, 3) := by decide +kernel
theorem jd_G_fillWords_10 : decode prog_3_method_4_code 10 = .ok (.iconst 0, 1) := by decide +kernel
theorem jd_G_fillWords_11 : decode prog_3_method_4_code 11 = .ok (.istore 5, 2) := by decide +kernel
theorem jd_G_fillWords_13 : decode prog_3_method_4_code 13 = .ok (.iconst 0, 1) := by decide +kernel
theorem jd_G_fillWords_14 : decode prog_3_method_4_code 14 = .ok (.istore 6, 2) := by decide +kernel
theorem jd_G_fillWords_16 : decode prog_3_method_4_code 16 = .ok (.iload 6, 2) := by decide +kernel
theorem jd_G_fillWords_18 : decode prog_3_method_4_code 18 = .ok (.iconst 4, 1) := by decide +kernel
theorem jd_G_fillWords_19 : decode prog_3_method_4_code 19 = .ok (.if_icmp .ge 31, 3) := by decide +kernel
theorem jd_G_fillWords_22 : decode prog_3_method_4_code 22 = .ok (.iload 5, 2) := by decide +kernel
theorem jd_G_fillWords_24 : decode prog_3_method_4_code 24 = .ok (.bipush 8, 2) := by decide +kernel
theorem jd_G_fillWords_26 : decode prog_3_method_4_code 26 = .ok (.ishl, 1) := by decide +kernel
theorem jd_G_fillWords_27 : decode prog_3_method_4_code 27 = .ok (.aload_n 1, 1) := by decide +kernel
theorem jd_G_fillWords_28 : decode prog_3_method_4_code 28 = .ok (.iload_n 2, 1) := by decide +kernel
theorem jd_G_fillWords_29 : decode prog_3_method_4_code 29 = .ok (.iconst 4, 1) := by decide +kernel
theorem jd_G_fillWords_30 : decode prog_3_method_4_code 30 = .ok (.iload 4, 2) := by decide +kernel
theorem jd_G_fillWords_32 : decode prog_3_method_4_code 32 = .ok (.imul, 1) := by decide +kernel
theorem jd_G_fillWords_33 : decode prog_3_method_4_code 33 = .ok (.iadd, 1) := by decide +kernel
theorem jd_G_fillWords_34 : decode prog_3_method_4_code 34 = .ok (.iload 6, 2) := by decide +kernel
theorem jd_G_fillWords_36 : decode prog_3_method_4_code 36 = .ok (.iadd, 1) := by decide +kernel
theorem jd_G_fillWords_37 : decode prog_3_method_4_code 37 = .ok (.iload_n 3, 1) := by decide +kernel
theorem jd_G_fillWords_38 : decode prog_3_method_4_code 38 = .ok (.invokestatic 46, 3) := by decide +kernel
theorem jd_G_fillWords_41 : decode prog_3_method_4_code 41 = .ok (.ior, 1) := by decide +kernel
theorem jd_G_fillWords_42 : decode prog_3_method_4_code 42 = .ok (.istore 5, 2) := by decide +kernel
theorem jd_G_fillWords_44 : decode prog_3_method_4_code 44 = .ok (.iinc 6 1, 3) := by decide +kernel
theorem jd_G_fillWords_47 : decode prog_3_method_4_code 47 = .ok (.goto (-31), 3) := by decide +kernel
theorem jd_G_fillWords_50 : decode prog_3_method_4_code 50 = .ok (.aload_n 0, 1) := by decide +kernel
theorem jd_G_fillWords_51 : decode prog_3_method_4_code 51 = .ok (.getfield 15, 3) := by decide +kernel
theorem jd_G_fillWords_54 : decode prog_3_method_4_code 54 = .ok (.iload 4, 2) := by decide +kernel
theorem jd_G_fillWords_56 : decode prog_3_method_4_code 56 = .ok (.iload 5, 2) := by decide +kernel
theorem jd_G_fillWords_58 : decode prog_3_method_4_code 58 = .ok (.iastore, 1) := by decide +kernel
theorem jd_G_fillWords_59 : decode prog_3_method_4_code 59 = .ok (.iinc 4 1, 3) := by decide +kernel
theorem jd_G_fillWords_62 : decode prog_3_method_4_code 62 = .ok (.goto (-59), 3) := by decide +kernel
theorem jd_G_fillWords_65 : decode prog_3_method_4_code 65 = .ok (.bipush 16, 2) := by decide +kernel
theorem jd_G_fillWords_67 : decode prog_3_method_4_code 67 = .ok (.istore 4, 2) := by decide +kernel
theorem jd_G_fillWords_69 : decode prog_3_method_4_code 69 = .ok (.iload 4, 2) := by decide +kernel
theorem jd_G_fillWords_71 : decode prog_3_method_4_code 71 = .ok (.bipush 80, 2) := by decide +kernel
theorem jd_G_fillWords_73 : decode prog_3_method_4_code 73 = .ok (.if_icmp .ge 62, 3) := by decide +kernel
theorem jd_G_fillWords_76 : decode prog_3_method_4_code 76 = .ok (.aload_n 0, 1) := by decide +kernel
theorem jd_G_fillWords_77 : decode prog_3_method_4_code 77 = .ok (.getfield 15, 3) := by decide +kernel
theorem jd_G_fillWords_80 : decode prog_3_method_4_code 80 = .ok (.iload 4, 2) := by decide +kernel
theorem jd_G_fillWords_82 : decode prog_3_method_4_code 82 = .ok (.aload_n 0, 1) := by decide +kernel
theorem jd_G_fillWords_83 : decode prog_3_method_4_code 83 = .ok (.getfield 15, 3) := by decide +kernel
theorem jd_G_fillWords_86 : decode prog_3_method_4_code 86 = .ok (.iload 4, 2) := by decide +kernel
theorem jd_G_fillWords_88 : decode prog_3_method_4_code 88 = .ok (.iconst 3, 1) := by decide +kernel
theorem jd_G_fillWords_89 : decode prog_3_method_4_code 89 = .ok (.isub, 1) := by decide +kernel
theorem jd_G_fillWords_90 : decode prog_3_method_4_code 90 = .ok (.iaload, 1) := by decide +kernel
theorem jd_G_fillWords_91 : decode prog_3_method_4_code 91 = .ok (.aload_n 0, 1) := by decide +kernel
theorem jd_G_fillWords_92 : decode prog_3_method_4_code 92 = .ok (.getfield 15, 3) := by decide +kernel
theorem jd_G_fillWords_95 : decode prog_3_method_4_code 95 = .ok (.iload 4, 2) := by decide +kernel
theorem jd_G_fillWords_97 : decode prog_3_method_4_code 97 = .ok (.bipush 8, 2) := by decide +kernel
theorem jd_G_fillWords_99 : decode prog_3_method_4_code 99 = .ok (.isub, 1) := by decide +kernel
theorem jd_G_fillWords_100 : decode prog_3_method_4_code 100 = .ok (.iaload, 1) := by decide +kernel
theorem jd_G_fillWords_101 : decode prog_3_method_4_code 101 = .ok (.ixor, 1) := by decide +kernel
theorem jd_G_fillWords_102 : decode prog_3_method_4_code 102 = .ok (.aload_n 0, 1) := by decide +kernel
theorem jd_G_fillWords_103 : decode prog_3_method_4_code 103 = .ok (.getfield 15, 3) := by decide +kernel
theorem jd_G_fillWords_106 : decode prog_3_method_4_code 106 = .ok (.iload 4, 2) := by decide +kernel
theorem jd_G_fillWords_108 : decode prog_3_method_4_code 108 = .ok (.bipush 14, 2) := by decide +kernel
theorem jd_G_fillWords_110 : decode prog_3_method_4_code 110 = .ok (.isub, 1) := by decide +kernel
theorem jd_G_fillWords_111 : decode prog_3_method_4_code 111 = .ok (.iaload, 1) := by decide +kernel
theorem jd_G_fillWords_112 : decode prog_3_method_4_code 112 = .ok (.ixor, 1) := by decide +kernel
theorem jd_G_fillWords_113 : decode prog_3_method_4_code 113 = .ok (.aload_n 0, 1) := by decide +kernel
theorem jd_G_fillWords_114 : decode prog_3_method_4_code 114 = .ok (.getfield 15, 3) := by decide +kernel
theorem jd_G_fillWords_117 : decode prog_3_method_4_code 117 = .ok (.iload 4, 2) := by decide +kernel
theorem jd_G_fillWords_119 : decode prog_3_method_4_code 119 = .ok (.bipush 16, 2) := by decide +kernel
theorem jd_G_fillWords_121 : decode prog_3_method_4_code 121 = .ok (.isub, 1) := by decide +kernel
theorem jd_G_fillWords_122 : decode prog_3_method_4_code 122 = .ok (.iaload, 1) := by decide +kernel
theorem jd_G_fillWords_123 : decode prog_3_method_4_code 123 = .ok (.ixor, 1) := by decide +kernel
theorem jd_G_fillWords_124 : decode prog_3_method_4_code 124 = .ok (.iconst 1, 1) := by decide +kernel
theorem jd_G_fillWords_125 : decode prog_3_method_4_code 125 = .ok (.invokestatic 50, 3) := by decide +kernel
theorem jd_G_fillWords_128 : decode prog_3_method_4_code 128 = .ok (.iastore, 1) := by decide +kernel
theorem jd_G_fillWords_129 : decode prog_3_method_4_code 129 = .ok (.iinc 4 1, 3) := by decide +kernel
theorem jd_G_fillWords_132 : decode prog_3_method_4_code 132 = .ok (.goto (-63), 3) := by decide +kernel
theorem jd_G_fillWords_135 : decode prog_3_method_4_code 135 = .ok (.return_, 1) := by decide +kernel
theorem jd_G_paddedAt_0 : decode prog_3_method_5_code 0 = .ok (.iload_n 1, 1) := by decide +kernel
theorem jd_G_paddedAt_1 : decode prog_3_method_5_code 1 = .ok (.aload_n 0, 1) := by decide +kernel
theorem jd_G_paddedAt_2 : decode prog_3_method_5_code 2 = .ok (.getfield 27, 3) := by decide +kernel
theorem jd_G_paddedAt_5 : decode prog_3_method_5_code 5 = .ok (.if_icmp .ge 9, 3) := by decide +kernel
theorem jd_G_paddedAt_8 : decode prog_3_method_5_code 8 = .ok (.aload_n 0, 1) := by decide +kernel
theorem jd_G_paddedAt_9 : decode prog_3_method_5_code 9 = .ok (.iload_n 1, 1) := by decide +kernel
theorem jd_G_paddedAt_10 : decode prog_3_method_5_code 10 = .ok (.invokevirtual 54, 3) := by decide +kernel
theorem jd_G_paddedAt_13 : decode prog_3_method_5_code 13 = .ok (.ireturn, 1) := by decide +kernel
theorem jd_G_paddedAt_14 : decode prog_3_method_5_code 14 = .ok (.iload_n 1, 1) := by decide +kernel
theorem jd_G_paddedAt_15 : decode prog_3_method_5_code 15 = .ok (.aload_n 0, 1) := by decide +kernel
theorem jd_G_paddedAt_16 : decode prog_3_method_5_code 16 = .ok (.getfield 27, 3) := by decide +kernel
theorem jd_G_paddedAt_19 : decode prog_3_method_5_code 19 = .ok (.if_icmp .ne 7, 3) := by decide +kernel
theorem jd_G_paddedAt_22 : decode prog_3_method_5_code 22 = .ok (.sipush 128, 3) := by decide +kernel
theorem jd_G_paddedAt_25 : decode prog_3_method_5_code 25 = .ok (.ireturn, 1) := by decide +kernel
theorem jd_G_paddedAt_26 : decode prog_3_method_5_code 26 = .ok (.iload_n 2, 1) := by decide +kernel
theorem jd_G_paddedAt_27 : decode prog_3_method_5_code 27 = .ok (.iconst 1, 1) := by decide +kernel
theorem jd_G_paddedAt_28 : decode prog_3_method_5_code 28 = .ok (.isub, 1) := by decide +kernel
theorem jd_G_paddedAt_29 : decode prog_3_method_5_code 29 = .ok (.iload_n 1, 1) := by decide +kernel
theorem jd_G_paddedAt_30 : decode prog_3_method_5_code 30 = .ok (.isub, 1) := by decide +kernel
theorem jd_G_paddedAt_31 : decode prog_3_method_5_code 31 = .ok (.istore_n 3, 1) := by decide +kernel
theorem jd_G_paddedAt_32 : decode prog_3_method_5_code 32 = .ok (.iload_n 3, 1) := by decide +kernel
theorem jd_G_paddedAt_33 : decode prog_3_method_5_code 33 = .ok (.iconst 4, 1) := by decide +kernel
theorem jd_G_paddedAt_34 : decode prog_3_method_5_code 34 = .ok (.if_icmp .ge 22, 3) := by decide +kernel
theorem jd_G_paddedAt_37 : decode prog_3_method_5_code 37 = .ok (.bipush 8, 2) := by decide +kernel
theorem jd_G_paddedAt_39 : decode prog_3_method_5_code 39 = .ok (.aload_n 0, 1) := by decide +kernel
theorem jd_G_paddedAt_40 : decode prog_3_method_5_code 40 = .ok (.getfield 27, 3) := by decide +kernel
theorem jd_G_paddedAt_43 : decode prog_3_method_5_code 43 = .ok (.imul, 1) := by decide +kernel
theorem jd_G_paddedAt_44 : decode prog_3_method_5_code 44 = .ok (.bipush 8, 2) := by decide +kernel
theorem jd_G_paddedAt_46 : decode prog_3_method_5_code 46 = .ok (.iload_n 3, 1) := by decide +kernel
theorem jd_G_paddedAt_47 : decode prog_3_method_5_code 47 = .ok (.imul, 1) := by decide +kernel
theorem jd_G_paddedAt_48 : decode prog_3_method_5_code 48 = .ok (.iushr, 1) := by decide +kernel
theorem jd_G_paddedAt_49 : decode prog_3_method_5_code 49 = .ok (.sipush 255, 3) := by decide +kernel
theorem jd_G_paddedAt_52 : decode prog_3_method_5_code 52 = .ok (.iand, 1) := by decide +kernel
theorem jd_G_paddedAt_53 : decode prog_3_method_5_code 53 = .ok (.goto 4, 3) := by decide +kernel
theorem jd_G_paddedAt_56 : decode prog_3_method_5_code 56 = .ok (.iconst 0, 1) := by decide +kernel
theorem jd_G_paddedAt_57 : decode prog_3_method_5_code 57 = .ok (.ireturn, 1) := by decide +kernel
theorem jd_L_at_0 : decode prog_5_method_3_code 0 = .ok (.iload_n 1, 1) := by decide +kernel
theorem jd_L_at_1 : decode prog_5_method_3_code 1 = .ok (.ifCond .lt 24, 3) := by decide +kernel
theorem jd_L_at_4 : decode prog_5_method_3_code 4 = .ok (.iload_n 1, 1) := by decide +kernel
theorem jd_L_at_5 : decode prog_5_method_3_code 5 = .ok (.aload_n 0, 1) := by decide +kernel
theorem jd_L_at_6 : decode prog_5_method_3_code 6 = .ok (.getfield 15, 3) := by decide +kernel
theorem jd_L_at_9 : decode prog_5_method_3_code 9 = .ok (.if_icmp .ge 16, 3) := by decide +kernel
theorem jd_L_at_12 : decode prog_5_method_3_code 12 = .ok (.aload_n 0, 1) := by decide +kernel
theorem jd_L_at_13 : decode prog_5_method_3_code 13 = .ok (.getfield 9, 3) := by decide +kernel
theorem jd_L_at_16 : decode prog_5_method_3_code 16 = .ok (.iload_n 1, 1) := by decide +kernel
theorem jd_L_at_17 : decode prog_5_method_3_code 17 = .ok (.baload, 1) := by decide +kernel
theorem jd_L_at_18 : decode prog_5_method_3_code 18 = .ok (.sipush 255, 3) := by decide +kernel
theorem jd_L_at_21 : decode prog_5_method_3_code 21 = .ok (.iand, 1) := by decide +kernel
theorem jd_L_at_22 : decode prog_5_method_3_code 22 = .ok (.goto 4, 3) := by decide +kernel
theorem jd_L_at_25 : decode prog_5_method_3_code 25 = .ok (.iconst 0, 1) := by decide +kernel
theorem jd_L_at_26 : decode prog_5_method_3_code 26 = .ok (.ireturn, 1) := by decide +kernel
theorem jd_G_turned_0 : decode prog_3_method_8_code 0 = .ok (.iload_n 0, 1) := by decide +kernel
theorem jd_G_turned_1 : decode prog_3_method_8_code 1 = .ok (.iload_n 1, 1) := by decide +kernel
theorem jd_G_turned_2 : decode prog_3_method_8_code 2 = .ok (.ishl, 1) := by decide +kernel
theorem jd_G_turned_3 : decode prog_3_method_8_code 3 = .ok (.iload_n 0, 1) := by decide +kernel
theorem jd_G_turned_4 : decode prog_3_method_8_code 4 = .ok (.bipush 32, 2) := by decide +kernel
theorem jd_G_turned_6 : decode prog_3_method_8_code 6 = .ok (.iload_n 1, 1) := by decide +kernel
theorem jd_G_turned_7 : decode prog_3_method_8_code 7 = .ok (.isub, 1) := by decide +kernel
theorem jd_G_turned_8 : decode prog_3_method_8_code 8 = .ok (.iushr, 1) := by decide +kernel
theorem jd_G_turned_9 : decode prog_3_method_8_code 9 = .ok (.ior, 1) := by decide +kernel
theorem jd_G_turned_10 : decode prog_3_method_8_code 10 = .ok (.ireturn, 1) := by decide +kernel
theorem jd_G_mixWords_0 : decode prog_3_method_6_code 0 = .ok (.aload_n 0, 1) := by decide +kernel
theorem jd_G_mixWords_1 : decode prog_3_method_6_code 1 = .ok (.getfield 9, 3) := by decide +kernel
theorem jd_G_mixWords_4 : decode prog_3_method_6_code 4 = .ok (.iconst 0, 1) := by decide +kernel
theorem jd_G_mixWords_5 : decode prog_3_method_6_code 5 = .ok (.iaload, 1) := by decide +kernel
theorem jd_G_mixWords_6 : decode prog_3_method_6_code 6 = .ok (.istore_n 1, 1) := by decide +kernel
theorem jd_G_mixWords_7 : decode prog_3_method_6_code 7 = .ok (.aload_n 0, 1) := by decide +kernel
theorem jd_G_mixWords_8 : decode prog_3_method_6_code 8 = .ok (.getfield 9, 3) := by decide +kernel
theorem jd_G_mixWords_11 : decode prog_3_method_6_code 11 = .ok (.iconst 1, 1) := by decide +kernel
theorem jd_G_mixWords_12 : decode prog_3_method_6_code 12 = .ok (.iaload, 1) := by decide +kernel
theorem jd_G_mixWords_13 : decode prog_3_method_6_code 13 = .ok (.istore_n 2, 1) := by decide +kernel
theorem jd_G_mixWords_14 : decode prog_3_method_6_code 14 = .ok (.aload_n 0, 1) := by decide +kernel
theorem jd_G_mixWords_15 : decode prog_3_method_6_code 15 = .ok (.getfield 9, 3) := by decide +kernel
theorem jd_G_mixWords_18 : decode prog_3_method_6_code 18 = .ok (.iconst 2, 1) := by decide +kernel
theorem jd_G_mixWords_19 : decode prog_3_method_6_code 19 = .ok (.iaload, 1) := by decide +kernel
theorem jd_G_mixWords_20 : decode prog_3_method_6_code 20 = .ok (.istore_n 3, 1) := by decide +kernel
theorem jd_G_mixWords_21 : decode prog_3_method_6_code 21 = .ok (.aload_n 0, 1) := by decide +kernel
theorem jd_G_mixWords_22 : decode prog_3_method_6_code 22 = .ok (.getfield 9, 3) := by decide +kernel
theorem jd_G_mixWords_25 : decode prog_3_method_6_code 25 = .ok (.iconst 3, 1) := by decide +kernel
theorem jd_G_mixWords_26 : decode prog_3_method_6_code 26 = .ok (.iaload, 1) := by decide +kernel
theorem jd_G_mixWords_27 : decode prog_3_method_6_code 27 = .ok (.istore 4, 2) := by decide +kernel
theorem jd_G_mixWords_29 : decode prog_3_method_6_code 29 = .ok (.aload_n 0, 1) := by decide +kernel
theorem jd_G_mixWords_30 : decode prog_3_method_6_code 30 = .ok (.getfield 9, 3) := by decide +kernel
theorem jd_G_mixWords_33 : decode prog_3_method_6_code 33 = .ok (.iconst 4, 1) := by decide +kernel
theorem jd_G_mixWords_34 : decode prog_3_method_6_code 34 = .ok (.iaload, 1) := by decide +kernel
theorem jd_G_mixWords_35 : decode prog_3_method_6_code 35 = .ok (.istore 5, 2) := by decide +kernel
theorem jd_G_mixWords_37 : decode prog_3_method_6_code 37 = .ok (.iconst 0, 1) := by decide +kernel
theorem jd_G_mixWords_38 : decode prog_3_method_6_code 38 = .ok (.istore 6, 2) := by decide +kernel
theorem jd_G_mixWords_40 : decode prog_3_method_6_code 40 = .ok (.iload 6, 2) := by decide +kernel
theorem jd_G_mixWords_42 : decode prog_3_method_6_code 42 = .ok (.bipush 80, 2) := by decide +kernel
theorem jd_G_mixWords_44 : decode prog_3_method_6_code 44 = .ok (.if_icmp .ge 66, 3) := by decide +kernel
theorem jd_G_mixWords_47 : decode prog_3_method_6_code 47 = .ok (.iload_n 1, 1) := by decide +kernel
theorem jd_G_mixWords_48 : decode prog_3_method_6_code 48 = .ok (.iconst 5, 1) := by decide +kernel
theorem jd_G_mixWords_49 : decode prog_3_method_6_code 49 = .ok (.invokestatic 50, 3) := by decide +kernel
theorem jd_G_mixWords_52 : decode prog_3_method_6_code 52 = .ok (.iload 6, 2) := by decide +kernel
theorem jd_G_mixWords_54 : decode prog_3_method_6_code 54 = .ok (.iload_n 2, 1) := by decide +kernel
theorem jd_G_mixWords_55 : decode prog_3_method_6_code 55 = .ok (.iload_n 3, 1) := by decide +kernel
theorem jd_G_mixWords_56 : decode prog_3_method_6_code 56 = .ok (.iload 4, 2) := by decide +kernel
theorem jd_G_mixWords_58 : decode prog_3_method_6_code 58 = .ok (.invokestatic 57, 3) := by decide +kernel
theorem jd_G_mixWords_61 : decode prog_3_method_6_code 61 = .ok (.iadd, 1) := by decide +kernel
theorem jd_G_mixWords_62 : decode prog_3_method_6_code 62 = .ok (.iload 5, 2) := by decide +kernel
theorem jd_G_mixWords_64 : decode prog_3_method_6_code 64 = .ok (.iadd, 1) := by decide +kernel
theorem jd_G_mixWords_65 : decode prog_3_method_6_code 65 = .ok (.aload_n 0, 1) := by decide +kernel
theorem jd_G_mixWords_66 : decode prog_3_method_6_code 66 = .ok (.getfield 15, 3) := by decide +kernel
theorem jd_G_mixWords_69 : decode prog_3_method_6_code 69 = .ok (.iload 6, 2) := by decide +kernel
theorem jd_G_mixWords_71 : decode prog_3_method_6_code 71 = .ok (.iaload, 1) := by decide +kernel
theorem jd_G_mixWords_72 : decode prog_3_method_6_code 72 = .ok (.iadd, 1) := by decide +kernel
theorem jd_G_mixWords_73 : decode prog_3_method_6_code 73 = .ok (.getstatic 61, 3) := by decide +kernel
theorem jd_G_mixWords_76 : decode prog_3_method_6_code 76 = .ok (.iload 6, 2) := by decide +kernel
theorem jd_G_mixWords_78 : decode prog_3_method_6_code 78 = .ok (.bipush 20, 2) := by decide +kernel
theorem jd_G_mixWords_80 : decode prog_3_method_6_code 80 = .ok (.idiv, 1) := by decide +kernel
theorem jd_G_mixWords_81 : decode prog_3_method_6_code 81 = .ok (.iaload, 1) := by decide +kernel
theorem jd_G_mixWords_82 : decode prog_3_method_6_code 82 = .ok (.iadd, 1) := by decide +kernel
theorem jd_G_mixWords_83 : decode prog_3_method_6_code 83 = .ok (.istore 7, 2) := by decide +kernel
theorem jd_G_mixWords_85 : decode prog_3_method_6_code 85 = .ok (.iload 4, 2) := by decide +kernel
theorem jd_G_mixWords_87 : decode prog_3_method_6_code 87 = .ok (.istore 5, 2) := by decide +kernel
theorem jd_G_mixWords_89 : decode prog_3_method_6_code 89 = .ok (.iload_n 3, 1) := by decide +kernel
theorem jd_G_mixWords_90 : decode prog_3_method_6_code 90 = .ok (.istore 4, 2) := by decide +kernel
theorem jd_G_mixWords_92 : decode prog_3_method_6_code 92 = .ok (.iload_n 2, 1) := by decide +kernel
theorem jd_G_mixWords_93 : decode prog_3_method_6_code 93 = .ok (.bipush 30, 2) := by decide +kernel
theorem jd_G_mixWords_95 : decode prog_3_method_6_code 95 = .ok (.invokestatic 50, 3) := by decide +kernel
theorem jd_G_mixWords_98 : decode prog_3_method_6_code 98 = .ok (.istore_n 3, 1) := by decide +kernel
theorem jd_G_mixWords_99 : decode prog_3_method_6_code 99 = .ok (.iload_n 1, 1) := by decide +kernel
theorem jd_G_mixWords_100 : decode prog_3_method_6_code 100 = .ok (.istore_n 2, 1) := by decide +kernel
theorem jd_G_mixWords_101 : decode prog_3_method_6_code 101 = .ok (.iload 7, 2) := by decide +kernel
theorem jd_G_mixWords_103 : decode prog_3_method_6_code 103 = .ok (.istore_n 1, 1) := by decide +kernel
theorem jd_G_mixWords_104 : decode prog_3_method_6_code 104 = .ok (.iinc 6 1, 3) := by decide +kernel
theorem jd_G_mixWords_107 : decode prog_3_method_6_code 107 = .ok (.goto (-67), 3) := by decide +kernel
theorem jd_G_mixWords_110 : decode prog_3_method_6_code 110 = .ok (.aload_n 0, 1) := by decide +kernel
theorem jd_G_mixWords_111 : decode prog_3_method_6_code 111 = .ok (.getfield 9, 3) := by decide +kernel
theorem jd_G_mixWords_114 : decode prog_3_method_6_code 114 = .ok (.iconst 0, 1) := by decide +kernel
theorem jd_G_mixWords_115 : decode prog_3_method_6_code 115 = .ok (.dup2, 1) := by decide +kernel
theorem jd_G_mixWords_116 : decode prog_3_method_6_code 116 = .ok (.iaload, 1) := by decide +kernel
theorem jd_G_mixWords_117 : decode prog_3_method_6_code 117 = .ok (.iload_n 1, 1) := by decide +kernel
theorem jd_G_mixWords_118 : decode prog_3_method_6_code 118 = .ok (.iadd, 1) := by decide +kernel
theorem jd_G_mixWords_119 : decode prog_3_method_6_code 119 = .ok (.iastore, 1) := by decide +kernel
theorem jd_G_mixWords_120 : decode prog_3_method_6_code 120 = .ok (.aload_n 0, 1) := by decide +kernel
theorem jd_G_mixWords_121 : decode prog_3_method_6_code 121 = .ok (.getfield 9, 3) := by decide +kernel
theorem jd_G_mixWords_124 : decode prog_3_method_6_code 124 = .ok (.iconst 1, 1) := by decide +kernel
theorem jd_G_mixWords_125 : decode prog_3_method_6_code 125 = .ok (.dup2, 1) := by decide +kernel
theorem jd_G_mixWords_126 : decode prog_3_method_6_code 126 = .ok (.iaload, 1) := by decide +kernel
theorem jd_G_mixWords_127 : decode prog_3_method_6_code 127 = .ok (.iload_n 2, 1) := by decide +kernel
theorem jd_G_mixWords_128 : decode prog_3_method_6_code 128 = .ok (.iadd, 1) := by decide +kernel
theorem jd_G_mixWords_129 : decode prog_3_method_6_code 129 = .ok (.iastore, 1) := by decide +kernel
theorem jd_G_mixWords_130 : decode prog_3_method_6_code 130 = .ok (.aload_n 0, 1) := by decide +kernel
theorem jd_G_mixWords_131 : decode prog_3_method_6_code 131 = .ok (.getfield 9, 3) := by decide +kernel
theorem jd_G_mixWords_134 : decode prog_3_method_6_code 134 = .ok (.iconst 2, 1) := by decide +kernel
theorem jd_G_mixWords_135 : decode prog_3_method_6_code 135 = .ok (.dup2, 1) := by decide +kernel
theorem jd_G_mixWords_136 : decode prog_3_method_6_code 136 = .ok (.iaload, 1) := by decide +kernel
theorem jd_G_mixWords_137 : decode prog_3_method_6_code 137 = .ok (.iload_n 3, 1) := by decide +kernel
theorem jd_G_mixWords_138 : decode prog_3_method_6_code 138 = .ok (.iadd, 1) := by decide +kernel
theorem jd_G_mixWords_139 : decode prog_3_method_6_code 139 = .ok (.iastore, 1) := by decide +kernel
theorem jd_G_mixWords_140 : decode prog_3_method_6_code 140 = .ok (.aload_n 0, 1) := by decide +kernel
theorem jd_G_mixWords_141 : decode prog_3_method_6_code 141 = .ok (.getfield 9, 3) := by decide +kernel
theorem jd_G_mixWords_144 : decode prog_3_method_6_code 144 = .ok (.iconst 3, 1) := by decide +kernel
theorem jd_G_mixWords_145 : decode prog_3_method_6_code 145 = .ok (.dup2, 1) := by decide +kernel
theorem jd_G_mixWords_146 : decode prog_3_method_6_code 146 = .ok (.iaload, 1) := by decide +kernel
theorem jd_G_mixWords_147 : decode prog_3_method_6_code 147 = .ok (.iload 4, 2) := by decide +kernel
theorem jd_G_mixWords_149 : decode prog_3_method_6_code 149 = .ok (.iadd, 1) := by decide +kernel
theorem jd_G_mixWords_150 : decode prog_3_method_6_code 150 = .ok (.iastore, 1) := by decide +kernel
theorem jd_G_mixWords_151 : decode prog_3_method_6_code 151 = .ok (.aload_n 0, 1) := by decide +kernel
theorem jd_G_mixWords_152 : decode prog_3_method_6_code 152 = .ok (.getfield 9, 3) := by decide +kernel
theorem jd_G_mixWords_155 : decode prog_3_method_6_code 155 = .ok (.iconst 4, 1) := by decide +kernel
theorem jd_G_mixWords_156 : decode prog_3_method_6_code 156 = .ok (.dup2, 1) := by decide +kernel
theorem jd_G_mixWords_157 : decode prog_3_method_6_code 157 = .ok (.iaload, 1) := by decide +kernel
theorem jd_G_mixWords_158 : decode prog_3_method_6_code 158 = .ok (.iload 5, 2) := by decide +kernel
theorem jd_G_mixWords_160 : decode prog_3_method_6_code 160 = .ok (.iadd, 1) := by decide +kernel
theorem jd_G_mixWords_161 : decode prog_3_method_6_code 161 = .ok (.iastore, 1) := by decide +kernel
theorem jd_G_mixWords_162 : decode prog_3_method_6_code 162 = .ok (.return_, 1) := by decide +kernel
theorem jd_G_chosen_0 : decode prog_3_method_7_code 0 = .ok (.iload_n 0, 1) := by decide +kernel
theorem jd_G_chosen_1 : decode prog_3_method_7_code 1 = .ok (.bipush 20, 2) := by decide +kernel
theorem jd_G_chosen_3 : decode prog_3_method_7_code 3 = .ok (.if_icmp .ge 13, 3) := by decide +kernel
theorem jd_G_chosen_6 : decode prog_3_method_7_code 6 = .ok (.iload_n 1, 1) := by decide +kernel
theorem jd_G_chosen_7 : decode prog_3_method_7_code 7 = .ok (.iload_n 2, 1) := by decide +kernel
theorem jd_G_chosen_8 : decode prog_3_method_7_code 8 = .ok (.iand, 1) := by decide +kernel
theorem jd_G_chosen_9 : decode prog_3_method_7_code 9 = .ok (.iload_n 1, 1) := by decide +kernel
theorem jd_G_chosen_10 : decode prog_3_method_7_code 10 = .ok (.iconst (-1), 1) := by decide +kernel
theorem jd_G_chosen_11 : decode prog_3_method_7_code 11 = .ok (.ixor, 1) := by decide +kernel
theorem jd_G_chosen_12 : decode prog_3_method_7_code 12 = .ok (.iload_n 3, 1) := by decide +kernel
theorem jd_G_chosen_13 : decode prog_3_method_7_code 13 = .ok (.iand, 1) := by decide +kernel
theorem jd_G_chosen_14 : decode prog_3_method_7_code 14 = .ok (.ior, 1) := by decide +kernel
theorem jd_G_chosen_15 : decode prog_3_method_7_code 15 = .ok (.ireturn, 1) := by decide +kernel
theorem jd_G_chosen_16 : decode prog_3_method_7_code 16 = .ok (.iload_n 0, 1) := by decide +kernel
theorem jd_G_chosen_17 : decode prog_3_method_7_code 17 = .ok (.bipush 40, 2) := by decide +kernel
theorem jd_G_chosen_19 : decode prog_3_method_7_code 19 = .ok (.if_icmp .lt 21, 3) := by decide +kernel
theorem jd_G_chosen_22 : decode prog_3_method_7_code 22 = .ok (.iload_n 0, 1) := by decide +kernel
theorem jd_G_chosen_23 : decode prog_3_method_7_code 23 = .ok (.bipush 60, 2) := by decide +kernel
theorem jd_G_chosen_25 : decode prog_3_method_7_code 25 = .ok (.if_icmp .ge 15, 3) := by decide +kernel
theorem jd_G_chosen_28 : decode prog_3_method_7_code 28 = .ok (.iload_n 1, 1) := by decide +kernel
theorem jd_G_chosen_29 : decode prog_3_method_7_code 29 = .ok (.iload_n 2, 1) := by decide +kernel
theorem jd_G_chosen_30 : decode prog_3_method_7_code 30 = .ok (.iand, 1) := by decide +kernel
theorem jd_G_chosen_31 : decode prog_3_method_7_code 31 = .ok (.iload_n 1, 1) := by decide +kernel
theorem jd_G_chosen_32 : decode prog_3_method_7_code 32 = .ok (.iload_n 3, 1) := by decide +kernel
theorem jd_G_chosen_33 : decode prog_3_method_7_code 33 = .ok (.iand, 1) := by decide +kernel
theorem jd_G_chosen_34 : decode prog_3_method_7_code 34 = .ok (.ior, 1) := by decide +kernel
theorem jd_G_chosen_35 : decode prog_3_method_7_code 35 = .ok (.iload_n 2, 1) := by decide +kernel
theorem jd_G_chosen_36 : decode prog_3_method_7_code 36 = .ok (.iload_n 3, 1) := by decide +kernel
theorem jd_G_chosen_37 : decode prog_3_method_7_code 37 = .ok (.iand, 1) := by decide +kernel
theorem jd_G_chosen_38 : decode prog_3_method_7_code 38 = .ok (.ior, 1) := by decide +kernel
theorem jd_G_chosen_39 : decode prog_3_method_7_code 39 = .ok (.ireturn, 1) := by decide +kernel
theorem jd_G_chosen_40 : decode prog_3_method_7_code 40 = .ok (.iload_n 1, 1) := by decide +kernel
theorem jd_G_chosen_41 : decode prog_3_method_7_code 41 = .ok (.iload_n 2, 1) := by decide +kernel
theorem jd_G_chosen_42 : decode prog_3_method_7_code 42 = .ok (.ixor, 1) := by decide +kernel
theorem jd_G_chosen_43 : decode prog_3_method_7_code 43 = .ok (.iload_n 3, 1) := by decide +kernel
theorem jd_G_chosen_44 : decode prog_3_method_7_code 44 = .ok (.ixor, 1) := by decide +kernel
theorem jd_G_chosen_45 : decode prog_3_method_7_code 45 = .ok (.ireturn, 1) := by decide +kernel
theorem jd_G_firstEightReversed_0 : decode prog_3_method_3_code 0 = .ok (.aload_n 0, 1) := by decide +kernel
theorem jd_G_firstEightReversed_1 : decode prog_3_method_3_code 1 = .ok (.getfield 9, 3) := by decide +kernel
theorem jd_G_firstEightReversed_4 : decode prog_3_method_3_code 4 = .ok (.iconst 0, 1) := by decide +kernel
theorem jd_G_firstEightReversed_5 : decode prog_3_method_3_code 5 = .ok (.iaload, 1) := by decide +kernel
theorem jd_G_firstEightReversed_6 : decode prog_3_method_3_code 6 = .ok (.invokestatic 40, 3) := by decide +kernel
theorem jd_G_firstEightReversed_9 : decode prog_3_method_3_code 9 = .ok (.i2l, 1) := by decide +kernel
theorem jd_G_firstEightReversed_10 : decode prog_3_method_3_code 10 = .ok (.ldc2_w 44, 3) := by decide +kernel
theorem jd_G_firstEightReversed_13 : decode prog_3_method_3_code 13 = .ok (.land, 1) := by decide +kernel
theorem jd_G_firstEightReversed_14 : decode prog_3_method_3_code 14 = .ok (.lstore_n 1, 1) := by decide +kernel
theorem jd_G_firstEightReversed_15 : decode prog_3_method_3_code 15 = .ok (.aload_n 0, 1) := by decide +kernel
theorem jd_G_firstEightReversed_16 : decode prog_3_method_3_code 16 = .ok (.getfield 9, 3) := by decide +kernel
theorem jd_G_firstEightReversed_19 : decode prog_3_method_3_code 19 = .ok (.iconst 1, 1) := by decide +kernel
theorem jd_G_firstEightReversed_20 : decode prog_3_method_3_code 20 = .ok (.iaload, 1) := by decide +kernel
theorem jd_G_firstEightReversed_21 : decode prog_3_method_3_code 21 = .ok (.invokestatic 40, 3) := by decide +kernel
theorem jd_G_firstEightReversed_24 : decode prog_3_method_3_code 24 = .ok (.i2l, 1) := by decide +kernel
theorem jd_G_firstEightReversed_25 : decode prog_3_method_3_code 25 = .ok (.lstore_n 3, 1) := by decide +kernel
theorem jd_G_firstEightReversed_26 : decode prog_3_method_3_code 26 = .ok (.lload_n 3, 1) := by decide +kernel
theorem jd_G_firstEightReversed_27 : decode prog_3_method_3_code 27 = .ok (.bipush 32, 2) := by decide +kernel
theorem jd_G_firstEightReversed_29 : decode prog_3_method_3_code 29 = .ok (.lshl, 1) := by decide +kernel
theorem jd_G_firstEightReversed_30 : decode prog_3_method_3_code 30 = .ok (.lload_n 1, 1) := by decide +kernel
theorem jd_G_firstEightReversed_31 : decode prog_3_method_3_code 31 = .ok (.lor, 1) := by decide +kernel
theorem jd_G_firstEightReversed_32 : decode prog_3_method_3_code 32 = .ok (.lreturn, 1) := by decide +kernel
theorem jd_G_reversed_0 : decode prog_3_method_9_code 0 = .ok (.iload_n 0, 1) := by decide +kernel
theorem jd_G_reversed_1 : decode prog_3_method_9_code 1 = .ok (.bipush 24, 2) := by decide +kernel
theorem jd_G_reversed_3 : decode prog_3_method_9_code 3 = .ok (.ishl, 1) := by decide +kernel
theorem jd_G_reversed_4 : decode prog_3_method_9_code 4 = .ok (.iload_n 0, 1) := by decide +kernel
theorem jd_G_reversed_5 : decode prog_3_method_9_code 5 = .ok (.ldc 64, 2) := by decide +kernel
theorem jd_G_reversed_7 : decode prog_3_method_9_code 7 = .ok (.iand, 1) := by decide +kernel
theorem jd_G_reversed_8 : decode prog_3_method_9_code 8 = .ok (.bipush 8, 2) := by decide +kernel
theorem jd_G_reversed_10 : decode prog_3_method_9_code 10 = .ok (.ishl, 1) := by decide +kernel
theorem jd_G_reversed_11 : decode prog_3_method_9_code 11 = .ok (.ior, 1) := by decide +kernel
theorem jd_G_reversed_12 : decode prog_3_method_9_code 12 = .ok (.iload_n 0, 1) := by decide +kernel
theorem jd_G_reversed_13 : decode prog_3_method_9_code 13 = .ok (.bipush 8, 2) := by decide +kernel
theorem jd_G_reversed_15 : decode prog_3_method_9_code 15 = .ok (.iushr, 1) := by decide +kernel
theorem jd_G_reversed_16 : decode prog_3_method_9_code 16 = .ok (.ldc 64, 2) := by decide +kernel
theorem jd_G_reversed_18 : decode prog_3_method_9_code 18 = .ok (.iand, 1) := by decide +kernel
theorem jd_G_reversed_19 : decode prog_3_method_9_code 19 = .ok (.ior, 1) := by decide +kernel
theorem jd_G_reversed_20 : decode prog_3_method_9_code 20 = .ok (.iload_n 0, 1) := by decide +kernel
theorem jd_G_reversed_21 : decode prog_3_method_9_code 21 = .ok (.bipush 24, 2) := by decide +kernel
theorem jd_G_reversed_23 : decode prog_3_method_9_code 23 = .ok (.iushr, 1) := by decide +kernel
theorem jd_G_reversed_24 : decode prog_3_method_9_code 24 = .ok (.ior, 1) := by decide +kernel
theorem jd_G_reversed_25 : decode prog_3_method_9_code 25 = .ok (.ireturn, 1) := by decide +kernel
theorem jd_S_hash_0 : decode prog_1_method_10_code 0 = .ok (.aload_n 0, 1) := by decide +kernel
theorem jd_S_hash_1 : decode prog_1_method_10_code 1 = .ok (.iload_n 1, 1) := by decide +kernel
theorem jd_S_hash_2 : decode prog_1_method_10_code 2 = .ok (.invokevirtual 69, 3) := by decide +kernel
theorem jd_S_hash_5 : decode prog_1_method_10_code 5 = .ok (.astore_n 3, 1) := by decide +kernel
theorem jd_S_hash_6 : decode prog_1_method_10_code 6 = .ok (.aload_n 3, 1) := by decide +kernel
theorem jd_S_hash_7 : decode prog_1_method_10_code 7 = .ok (.ifnull 12, 3) := by decide +kernel
theorem jd_S_hash_10 : decode prog_1_method_10_code 10 = .ok (.iload_n 2, 1) := by decide +kernel
theorem jd_S_hash_11 : decode prog_1_method_10_code 11 = .ok (.ifCond .lt 8, 3) := by decide +kernel
theorem jd_S_hash_14 : decode prog_1_method_10_code 14 = .ok (.iload_n 2, 1) := by decide +kernel
theorem jd_S_hash_15 : decode prog_1_method_10_code 15 = .ok (.iconst 5, 1) := by decide +kernel
theorem jd_S_hash_16 : decode prog_1_method_10_code 16 = .ok (.if_icmp .lt 7, 3) := by decide +kernel
theorem jd_S_hash_19 : decode prog_1_method_10_code 19 = .ok (.ldc2_w 108, 3) := by decide +kernel
theorem jd_S_hash_22 : decode prog_1_method_10_code 22 = .ok (.lreturn, 1) := by decide +kernel
theorem jd_S_hash_23 : decode prog_1_method_10_code 23 = .ok (.aload_n 0, 1) := by decide +kernel
theorem jd_S_hash_24 : decode prog_1_method_10_code 24 = .ok (.getfield 28, 3) := by decide +kernel
theorem jd_S_hash_27 : decode prog_1_method_10_code 27 = .ok (.aload_n 3, 1) := by decide +kernel
theorem jd_S_hash_28 : decode prog_1_method_10_code 28 = .ok (.invokevirtual 113, 3) := by decide +kernel
theorem jd_S_hash_31 : decode prog_1_method_10_code 31 = .ok (.aload_n 0, 1) := by decide +kernel
theorem jd_S_hash_32 : decode prog_1_method_10_code 32 = .ok (.getfield 35, 3) := by decide +kernel
theorem jd_S_hash_35 : decode prog_1_method_10_code 35 = .ok (.aload_n 0, 1) := by decide +kernel
theorem jd_S_hash_36 : decode prog_1_method_10_code 36 = .ok (.getfield 28, 3) := by decide +kernel
theorem jd_S_hash_39 : decode prog_1_method_10_code 39 = .ok (.invokevirtual 117, 3) := by decide +kernel
theorem jd_S_hash_42 : decode prog_1_method_10_code 42 = .ok (.aload_n 0, 1) := by decide +kernel
theorem jd_S_hash_43 : decode prog_1_method_10_code 43 = .ok (.getfield 35, 3) := by decide +kernel
theorem jd_S_hash_46 : decode prog_1_method_10_code 46 = .ok (.getfield 125, 3) := by decide +kernel
theorem jd_S_hash_49 : decode prog_1_method_10_code 49 = .ok (.iload_n 2, 1) := by decide +kernel
theorem jd_S_hash_50 : decode prog_1_method_10_code 50 = .ok (.iaload, 1) := by decide +kernel
theorem jd_S_hash_51 : decode prog_1_method_10_code 51 = .ok (.i2l, 1) := by decide +kernel
theorem jd_S_hash_52 : decode prog_1_method_10_code 52 = .ok (.lreturn, 1) := by decide +kernel
theorem jd_S_size_0 : decode prog_1_method_11_code 0 = .ok (.aload_n 0, 1) := by decide +kernel
theorem jd_S_size_1 : decode prog_1_method_11_code 1 = .ok (.iload_n 1, 1) := by decide +kernel
theorem jd_S_size_2 : decode prog_1_method_11_code 2 = .ok (.invokevirtual 69, 3) := by decide +kernel
theorem jd_S_size_5 : decode prog_1_method_11_code 5 = .ok (.astore_n 2, 1) := by decide +kernel
theorem jd_S_size_6 : decode prog_1_method_11_code 6 = .ok (.aload_n 2, 1) := by decide +kernel
theorem jd_S_size_7 : decode prog_1_method_11_code 7 = .ok (.ifnonnull 5, 3) := by decide +kernel
theorem jd_S_size_10 : decode prog_1_method_11_code 10 = .ok (.iconst (-1), 1) := by decide +kernel
theorem jd_S_size_11 : decode prog_1_method_11_code 11 = .ok (.ireturn, 1) := by decide +kernel
theorem jd_S_size_12 : decode prog_1_method_11_code 12 = .ok (.aload_n 0, 1) := by decide +kernel
theorem jd_S_size_13 : decode prog_1_method_11_code 13 = .ok (.getfield 28, 3) := by decide +kernel
theorem jd_S_size_16 : decode prog_1_method_11_code 16 = .ok (.aload_n 2, 1) := by decide +kernel
theorem jd_S_size_17 : decode prog_1_method_11_code 17 = .ok (.invokevirtual 113, 3) := by decide +kernel
theorem jd_S_size_20 : decode prog_1_method_11_code 20 = .ok (.aload_n 0, 1) := by decide +kernel
theorem jd_S_size_21 : decode prog_1_method_11_code 21 = .ok (.getfield 28, 3) := by decide +kernel
theorem jd_S_size_24 : decode prog_1_method_11_code 24 = .ok (.getfield 129, 3) := by decide +kernel
theorem jd_S_size_27 : decode prog_1_method_11_code 27 = .ok (.ireturn, 1) := by decide +kernel
theorem jd_S_byteAt_0 : decode prog_1_method_12_code 0 = .ok (.aload_n 0, 1) := by decide +kernel
theorem jd_S_byteAt_1 : decode prog_1_method_12_code 1 = .ok (.iload_n 1, 1) := by decide +kernel
theorem jd_S_byteAt_2 : decode prog_1_method_12_code 2 = .ok (.invokevirtual 69, 3) := by decide +kernel
theorem jd_S_byteAt_5 : decode prog_1_method_12_code 5 = .ok (.astore_n 3, 1) := by decide +kernel
theorem jd_S_byteAt_6 : decode prog_1_method_12_code 6 = .ok (.aload_n 3, 1) := by decide +kernel
theorem jd_S_byteAt_7 : decode prog_1_method_12_code 7 = .ok (.ifnonnull 5, 3) := by decide +kernel
theorem jd_S_byteAt_10 : decode prog_1_method_12_code 10 = .ok (.iconst (-1), 1) := by decide +kernel
theorem jd_S_byteAt_11 : decode prog_1_method_12_code 11 = .ok (.ireturn, 1) := by decide +kernel
theorem jd_S_byteAt_12 : decode prog_1_method_12_code 12 = .ok (.aload_n 0, 1) := by decide +kernel
theorem jd_S_byteAt_13 : decode prog_1_method_12_code 13 = .ok (.getfield 28, 3) := by decide +kernel
theorem jd_S_byteAt_16 : decode prog_1_method_12_code 16 = .ok (.aload_n 3, 1) := by decide +kernel
theorem jd_S_byteAt_17 : decode prog_1_method_12_code 17 = .ok (.invokevirtual 113, 3) := by decide +kernel
theorem jd_S_byteAt_20 : decode prog_1_method_12_code 20 = .ok (.iload_n 2, 1) := by decide +kernel
theorem jd_S_byteAt_21 : decode prog_1_method_12_code 21 = .ok (.ifCond .lt 25, 3) := by decide +kernel
theorem jd_S_byteAt_24 : decode prog_1_method_12_code 24 = .ok (.iload_n 2, 1) := by decide +kernel
theorem jd_S_byteAt_25 : decode prog_1_method_12_code 25 = .ok (.aload_n 0, 1) := by decide +kernel
theorem jd_S_byteAt_26 : decode prog_1_method_12_code 26 = .ok (.getfield 28, 3) := by decide +kernel
theorem jd_S_byteAt_29 : decode prog_1_method_12_code 29 = .ok (.getfield 129, 3) := by decide +kernel
theorem jd_S_byteAt_32 : decode prog_1_method_12_code 32 = .ok (.if_icmp .ge 14, 3) := by decide +kernel
theorem jd_S_byteAt_35 : decode prog_1_method_12_code 35 = .ok (.aload_n 0, 1) := by decide +kernel
theorem jd_S_byteAt_36 : decode prog_1_method_12_code 36 = .ok (.getfield 28, 3) := by decide +kernel
theorem jd_S_byteAt_39 : decode prog_1_method_12_code 39 = .ok (.iload_n 2, 1) := by decide +kernel
theorem jd_S_byteAt_40 : decode prog_1_method_12_code 40 = .ok (.invokevirtual 130, 3) := by decide +kernel
theorem jd_S_byteAt_43 : decode prog_1_method_12_code 43 = .ok (.goto 4, 3) := by decide +kernel
theorem jd_S_byteAt_46 : decode prog_1_method_12_code 46 = .ok (.iconst (-1), 1) := by decide +kernel
theorem jd_S_byteAt_47 : decode prog_1_method_12_code 47 = .ok (.ireturn, 1) := by decide +kernel
theorem jd_S_part_0 : decode prog_1_method_13_code 0 = .ok (.aload_n 0, 1) := by decide +kernel
theorem jd_S_part_1 : decode prog_1_method_13_code 1 = .ok (.iload_n 1, 1) := by decide +kernel
theorem jd_S_part_2 : decode prog_1_method_13_code 2 = .ok (.invokevirtual 69, 3) := by decide +kernel
theorem jd_S_part_5 : decode prog_1_method_13_code 5 = .ok (.astore_n 3, 1) := by decide +kernel
theorem jd_S_part_6 : decode prog_1_method_13_code 6 = .ok (.aload_n 3, 1) := by decide +kernel
theorem jd_S_part_7 : decode prog_1_method_13_code 7 = .ok (.ifnull 13, 3) := by decide +kernel
theorem jd_S_part_10 : decode prog_1_method_13_code 10 = .ok (.iload_n 2, 1) := by decide +kernel
theorem jd_S_part_11 : decode prog_1_method_13_code 11 = .ok (.ifCond .lt 9, 3) := by decide +kernel
theorem jd_S_part_14 : decode prog_1_method_13_code 14 = .ok (.iload_n 2, 1) := by decide +kernel
theorem jd_S_part_15 : decode prog_1_method_13_code 15 = .ok (.bipush 6, 2) := by decide +kernel
theorem jd_S_part_17 : decode prog_1_method_13_code 17 = .ok (.if_icmp .lt 5, 3) := by decide +kernel
theorem jd_S_part_20 : decode prog_1_method_13_code 20 = .ok (.iconst (-1), 1) := by decide +kernel
theorem jd_S_part_21 : decode prog_1_method_13_code 21 = .ok (.ireturn, 1) := by decide +kernel
theorem jd_S_part_22 : decode prog_1_method_13_code 22 = .ok (.aload_n 0, 1) := by decide +kernel
theorem jd_S_part_23 : decode prog_1_method_13_code 23 = .ok (.getfield 28, 3) := by decide +kernel
theorem jd_S_part_26 : decode prog_1_method_13_code 26 = .ok (.aload_n 3, 1) := by decide +kernel
theorem jd_S_part_27 : decode prog_1_method_13_code 27 = .ok (.invokevirtual 113, 3) := by decide +kernel
theorem jd_S_part_30 : decode prog_1_method_13_code 30 = .ok (.aload_n 0, 1) := by decide +kernel
theorem jd_S_part_31 : decode prog_1_method_13_code 31 = .ok (.getfield 28, 3) := by decide +kernel
theorem jd_S_part_34 : decode prog_1_method_13_code 34 = .ok (.getfield 134, 3) := by decide +kernel
theorem jd_S_part_37 : decode prog_1_method_13_code 37 = .ok (.iload_n 2, 1) := by decide +kernel
theorem jd_S_part_38 : decode prog_1_method_13_code 38 = .ok (.iaload, 1) := by decide +kernel
theorem jd_S_part_39 : decode prog_1_method_13_code 39 = .ok (.ireturn, 1) := by decide +kernel
theorem jd_S_count_0 : decode prog_1_method_14_code 0 = .ok (.aload_n 0, 1) := by decide +kernel
theorem jd_S_count_1 : decode prog_1_method_14_code 1 = .ok (.iload_n 1, 1) := by decide +kernel
theorem jd_S_count_2 : decode prog_1_method_14_code 2 = .ok (.invokevirtual 69, 3) := by decide +kernel
theorem jd_S_count_5 : decode prog_1_method_14_code 5 = .ok (.astore_n 3, 1) := by decide +kernel
theorem jd_S_count_6 : decode prog_1_method_14_code 6 = .ok (.aload_n 3, 1) := by decide +kernel
theorem jd_S_count_7 : decode prog_1_method_14_code 7 = .ok (.ifnonnull 5, 3) := by decide +kernel
theorem jd_S_count_10 : decode prog_1_method_14_code 10 = .ok (.iconst (-1), 1) := by decide +kernel
theorem jd_S_count_11 : decode prog_1_method_14_code 11 = .ok (.ireturn, 1) := by decide +kernel
theorem jd_S_count_12 : decode prog_1_method_14_code 12 = .ok (.iload_n 2, 1) := by decide +kernel
theorem jd_S_count_13 : decode prog_1_method_14_code 13 = .ok (.tableswitch 117 0 7 #[47, 55, 63, 72, 81, 90, 99, 104], 47) := by decide +kernel
theorem jd_S_count_60 : decode prog_1_method_14_code 60 = .ok (.aload_n 3, 1) := by decide +kernel
theorem jd_S_count_61 : decode prog_1_method_14_code 61 = .ok (.getfield 73, 3) := by decide +kernel
theorem jd_S_count_64 : decode prog_1_method_14_code 64 = .ok (.getfield 137, 3) := by decide +kernel
theorem jd_S_count_67 : decode prog_1_method_14_code 67 = .ok (.ireturn, 1) := by decide +kernel
theorem jd_S_count_68 : decode prog_1_method_14_code 68 = .ok (.aload_n 3, 1) := by decide +kernel
theorem jd_S_count_69 : decode prog_1_method_14_code 69 = .ok (.getfield 93, 3) := by decide +kernel
theorem jd_S_count_72 : decode prog_1_method_14_code 72 = .ok (.getfield 137, 3) := by decide +kernel
theorem jd_S_count_75 : decode prog_1_method_14_code 75 = .ok (.ireturn, 1) := by decide +kernel
theorem jd_S_count_76 : decode prog_1_method_14_code 76 = .ok (.aload_n 3, 1) := by decide +kernel
theorem jd_S_count_77 : decode prog_1_method_14_code 77 = .ok (.getfield 93, 3) := by decide +kernel
theorem jd_S_count_80 : decode prog_1_method_14_code 80 = .ok (.iconst 0, 1) := by decide +kernel
theorem jd_S_count_81 : decode prog_1_method_14_code 81 = .ok (.invokevirtual 140, 3) := by decide +kernel
theorem jd_S_count_84 : decode prog_1_method_14_code 84 = .ok (.ireturn, 1) := by decide +kernel
theorem jd_S_count_85 : decode prog_1_method_14_code 85 = .ok (.aload_n 3, 1) := by decide +kernel
theorem jd_S_count_86 : decode prog_1_method_14_code 86 = .ok (.getfield 93, 3) := by decide +kernel
theorem jd_S_count_89 : decode prog_1_method_14_code 89 = .ok (.iconst 1, 1) := by decide +kernel
theorem jd_S_count_90 : decode prog_1_method_14_code 90 = .ok (.invokevirtual 140, 3) := by decide +kernel
theorem jd_S_count_93 : decode prog_1_method_14_code 93 = .ok (.ireturn, 1) := by decide +kernel
theorem jd_S_count_94 : decode prog_1_method_14_code 94 = .ok (.aload_n 3, 1) := by decide +kernel
theorem jd_S_count_95 : decode prog_1_method_14_code 95 = .ok (.getfield 93, 3) := by decide +kernel
theorem jd_S_count_98 : decode prog_1_method_14_code 98 = .ok (.iconst 2, 1) := by decide +kernel
theorem jd_S_count_99 : decode prog_1_method_14_code 99 = .ok (.invokevirtual 140, 3) := by decide +kernel
theorem jd_S_count_102 : decode prog_1_method_14_code 102 = .ok (.ireturn, 1) := by decide +kernel
theorem jd_S_count_103 : decode prog_1_method_14_code 103 = .ok (.aload_n 3, 1) := by decide +kernel
theorem jd_S_count_104 : decode prog_1_method_14_code 104 = .ok (.getfield 93, 3) := by decide +kernel
theorem jd_S_count_107 : decode prog_1_method_14_code 107 = .ok (.iconst 3, 1) := by decide +kernel
theorem jd_S_count_108 : decode prog_1_method_14_code 108 = .ok (.invokevirtual 140, 3) := by decide +kernel
theorem jd_S_count_111 : decode prog_1_method_14_code 111 = .ok (.ireturn, 1) := by decide +kernel
theorem jd_S_count_112 : decode prog_1_method_14_code 112 = .ok (.aload_n 3, 1) := by decide +kernel
theorem jd_S_count_113 : decode prog_1_method_14_code 113 = .ok (.getfield 110, 3) := by decide +kernel
theorem jd_S_count_116 : decode prog_1_method_14_code 116 = .ok (.ireturn, 1) := by decide +kernel
theorem jd_S_count_117 : decode prog_1_method_14_code 117 = .ok (.aload_n 3, 1) := by decide +kernel
theorem jd_S_count_118 : decode prog_1_method_14_code 118 = .ok (.getfield 100, 3) := by decide +kernel
theorem jd_S_count_121 : decode prog_1_method_14_code 121 = .ok (.ifCond .eq 7, 3) := by decide +kernel
theorem jd_S_count_124 : decode prog_1_method_14_code 124 = .ok (.iconst 1, 1) := by decide +kernel
theorem jd_S_count_125 : decode prog_1_method_14_code 125 = .ok (.goto 4, 3) := by decide +kernel
theorem jd_S_count_128 : decode prog_1_method_14_code 128 = .ok (.iconst 0, 1) := by decide +kernel
theorem jd_S_count_129 : decode prog_1_method_14_code 129 = .ok (.ireturn, 1) := by decide +kernel
theorem jd_S_count_130 : decode prog_1_method_14_code 130 = .ok (.iconst (-1), 1) := by decide +kernel
theorem jd_S_count_131 : decode prog_1_method_14_code 131 = .ok (.ireturn, 1) := by decide +kernel
theorem jd_M_init_0 : decode prog_10_method_1_code 0 = .ok (.aload_n 0, 1) := by decide +kernel
theorem jd_M_init_1 : decode prog_10_method_1_code 1 = .ok (.invokespecial 1, 3) := by decide +kernel
theorem jd_M_init_4 : decode prog_10_method_1_code 4 = .ok (.aload_n 0, 1) := by decide +kernel
theorem jd_M_init_5 : decode prog_10_method_1_code 5 = .ok (.sipush 2448, 3) := by decide +kernel
theorem jd_M_init_8 : decode prog_10_method_1_code 8 = .ok (.newarray .int, 2) := by decide +kernel
theorem jd_M_init_10 : decode prog_10_method_1_code 10 = .ok (.putfield 7, 3) := by decide +kernel
theorem jd_M_init_13 : decode prog_10_method_1_code 13 = .ok (.aload_n 0, 1) := by decide +kernel
theorem jd_M_init_14 : decode prog_10_method_1_code 14 = .ok (.bipush 102, 2) := by decide +kernel
theorem jd_M_init_16 : decode prog_10_method_1_code 16 = .ok (.newarray .int, 2) := by decide +kernel
theorem jd_M_init_18 : decode prog_10_method_1_code 18 = .ok (.putfield 13, 3) := by decide +kernel
theorem jd_M_init_21 : decode prog_10_method_1_code 21 = .ok (.aload_n 0, 1) := by decide +kernel
theorem jd_M_init_22 : decode prog_10_method_1_code 22 = .ok (.iconst 4, 1) := by decide +kernel
theorem jd_M_init_23 : decode prog_10_method_1_code 23 = .ok (.newarray .boolean, 2) := by decide +kernel
theorem jd_M_init_25 : decode prog_10_method_1_code 25 = .ok (.putfield 16, 3) := by decide +kernel
theorem jd_M_init_28 : decode prog_10_method_1_code 28 = .ok (.aload_n 0, 1) := by decide +kernel
theorem jd_M_init_29 : decode prog_10_method_1_code 29 = .ok (.iconst 4, 1) := by decide +kernel
theorem jd_M_init_30 : decode prog_10_method_1_code 30 = .ok (.newarray .int, 2) := by decide +kernel
theorem jd_M_init_32 : decode prog_10_method_1_code 32 = .ok (.putfield 20, 3) := by decide +kernel
theorem jd_M_init_35 : decode prog_10_method_1_code 35 = .ok (.aload_n 0, 1) := by decide +kernel
theorem jd_M_init_36 : decode prog_10_method_1_code 36 = .ok (.iconst 4, 1) := by decide +kernel
theorem jd_M_init_37 : decode prog_10_method_1_code 37 = .ok (.newarray .int, 2) := by decide +kernel
theorem jd_M_init_39 : decode prog_10_method_1_code 39 = .ok (.putfield 23, 3) := by decide +kernel
theorem jd_M_init_42 : decode prog_10_method_1_code 42 = .ok (.aload_n 0, 1) := by decide +kernel
theorem jd_M_init_43 : decode prog_10_method_1_code 43 = .ok (.iconst 4, 1) := by decide +kernel
theorem jd_M_init_44 : decode prog_10_method_1_code 44 = .ok (.newarray .int, 2) := by decide +kernel
theorem jd_M_init_46 : decode prog_10_method_1_code 46 = .ok (.putfield 26, 3) := by decide +kernel
theorem jd_M_init_49 : decode prog_10_method_1_code 49 = .ok (.aload_n 0, 1) := by decide +kernel
theorem jd_M_init_50 : decode prog_10_method_1_code 50 = .ok (.iconst 4, 1) := by decide +kernel
theorem jd_M_init_51 : decode prog_10_method_1_code 51 = .ok (.newarray .boolean, 2) := by decide +kernel
theorem jd_M_init_53 : decode prog_10_method_1_code 53 = .ok (.putfield 29, 3) := by decide +kernel
theorem jd_M_init_56 : decode prog_10_method_1_code 56 = .ok (.aload_n 0, 1) := by decide +kernel
theorem jd_M_init_57 : decode prog_10_method_1_code 57 = .ok (.iconst 4, 1) := by decide +kernel
theorem jd_M_init_58 : decode prog_10_method_1_code 58 = .ok (.newarray .long, 2) := by decide +kernel
theorem jd_M_init_60 : decode prog_10_method_1_code 60 = .ok (.putfield 32, 3) := by decide +kernel
theorem jd_M_init_63 : decode prog_10_method_1_code 63 = .ok (.aload_n 0, 1) := by decide +kernel
theorem jd_M_init_64 : decode prog_10_method_1_code 64 = .ok (.bipush 40, 2) := by decide +kernel
theorem jd_M_init_66 : decode prog_10_method_1_code 66 = .ok (.newarray .int, 2) := by decide +kernel
theorem jd_M_init_68 : decode prog_10_method_1_code 68 = .ok (.putfield 36, 3) := by decide +kernel
theorem jd_M_init_71 : decode prog_10_method_1_code 71 = .ok (.aload_n 0, 1) := by decide +kernel
theorem jd_M_init_72 : decode prog_10_method_1_code 72 = .ok (.bipush 40, 2) := by decide +kernel
theorem jd_M_init_74 : decode prog_10_method_1_code 74 = .ok (.newarray .int, 2) := by decide +kernel
theorem jd_M_init_76 : decode prog_10_method_1_code 76 = .ok (.putfield 39, 3) := by decide +kernel
theorem jd_M_init_79 : decode prog_10_method_1_code 79 = .ok (.aload_n 0, 1) := by decide +kernel
theorem jd_M_init_80 : decode prog_10_method_1_code 80 = .ok (.sipush 1100, 3) := by decide +kernel
theorem jd_M_init_83 : decode prog_10_method_1_code 83 = .ok (.newarray .int, 2) := by decide +kernel
theorem jd_M_init_85 : decode prog_10_method_1_code 85 = .ok (.putfield 42, 3) := by decide +kernel
theorem jd_M_init_88 : decode prog_10_method_1_code 88 = .ok (.aload_n 0, 1) := by decide +kernel
theorem jd_M_init_89 : decode prog_10_method_1_code 89 = .ok (.bipush 6, 2) := by decide +kernel
theorem jd_M_init_91 : decode prog_10_method_1_code 91 = .ok (.newarray .int, 2) := by decide +kernel
theorem jd_M_init_93 : decode prog_10_method_1_code 93 = .ok (.putfield 45, 3) := by decide +kernel
theorem jd_M_init_96 : decode prog_10_method_1_code 96 = .ok (.aload_n 0, 1) := by decide +kernel
theorem jd_M_init_97 : decode prog_10_method_1_code 97 = .ok (.iconst 5, 1) := by decide +kernel
theorem jd_M_init_98 : decode prog_10_method_1_code 98 = .ok (.newarray .int, 2) := by decide +kernel
theorem jd_M_init_100 : decode prog_10_method_1_code 100 = .ok (.putfield 48, 3) := by decide +kernel
theorem jd_M_init_103 : decode prog_10_method_1_code 103 = .ok (.aload_n 0, 1) := by decide +kernel
theorem jd_M_init_104 : decode prog_10_method_1_code 104 = .ok (.bipush 80, 2) := by decide +kernel
theorem jd_M_init_106 : decode prog_10_method_1_code 106 = .ok (.newarray .int, 2) := by decide +kernel
theorem jd_M_init_108 : decode prog_10_method_1_code 108 = .ok (.putfield 51, 3) := by decide +kernel
theorem jd_M_init_111 : decode prog_10_method_1_code 111 = .ok (.return_, 1) := by decide +kernel
theorem jd_M_type_0 : decode prog_10_method_4_code 0 = .ok (.aload_n 0, 1) := by decide +kernel
theorem jd_M_type_1 : decode prog_10_method_4_code 1 = .ok (.iload_n 1, 1) := by decide +kernel
theorem jd_M_type_2 : decode prog_10_method_4_code 2 = .ok (.iconst 2, 1) := by decide +kernel
theorem jd_M_type_3 : decode prog_10_method_4_code 3 = .ok (.invokevirtual 54, 3) := by decide +kernel
theorem jd_M_type_6 : decode prog_10_method_4_code 6 = .ok (.ifCond .eq 5, 3) := by decide +kernel
theorem jd_M_type_9 : decode prog_10_method_4_code 9 = .ok (.iconst (-1), 1) := by decide +kernel
theorem jd_M_type_10 : decode prog_10_method_4_code 10 = .ok (.ireturn, 1) := by decide +kernel
theorem jd_M_type_11 : decode prog_10_method_4_code 11 = .ok (.iconst 0, 1) := by decide +kernel
theorem jd_M_type_12 : decode prog_10_method_4_code 12 = .ok (.istore 4, 2) := by decide +kernel
theorem jd_M_type_14 : decode prog_10_method_4_code 14 = .ok (.iconst 0, 1) := by decide +kernel
theorem jd_M_type_15 : decode prog_10_method_4_code 15 = .ok (.istore 5, 2) := by decide +kernel
theorem jd_M_type_17 : decode prog_10_method_4_code 17 = .ok (.iload 5, 2) := by decide +kernel
theorem jd_M_type_19 : decode prog_10_method_4_code 19 = .ok (.bipush 8, 2) := by decide +kernel
theorem jd_M_type_21 : decode prog_10_method_4_code 21 = .ok (.if_icmp .ge 59, 3) := by decide +kernel
theorem jd_M_type_24 : decode prog_10_method_4_code 24 = .ok (.lload_n 2, 1) := by decide +kernel
theorem jd_M_type_25 : decode prog_10_method_4_code 25 = .ok (.bipush 8, 2) := by decide +kernel
theorem jd_M_type_27 : decode prog_10_method_4_code 27 = .ok (.iload 5, 2) := by decide +kernel
theorem jd_M_type_29 : decode prog_10_method_4_code 29 = .ok (.imul, 1) := by decide +kernel
theorem jd_M_type_30 : decode prog_10_method_4_code 30 = .ok (.lshr, 1) := by decide +kernel
theorem jd_M_type_31 : decode prog_10_method_4_code 31 = .ok (.l2i, 1) := by decide +kernel
theorem jd_M_type_32 : decode prog_10_method_4_code 32 = .ok (.sipush 255, 3) := by decide +kernel
theorem jd_M_type_35 : decode prog_10_method_4_code 35 = .ok (.iand, 1) := by decide +kernel
theorem jd_M_type_36 : decode prog_10_method_4_code 36 = .ok (.istore 6, 2) := by decide +kernel
theorem jd_M_type_38 : decode prog_10_method_4_code 38 = .ok (.iload 6, 2) := by decide +kernel
theorem jd_M_type_40 : decode prog_10_method_4_code 40 = .ok (.ifCond .eq 19, 3) := by decide +kernel
theorem jd_M_type_43 : decode prog_10_method_4_code 43 = .ok (.iload 6, 2) := by decide +kernel
theorem jd_M_type_45 : decode prog_10_method_4_code 45 = .ok (.bipush 33, 2) := by decide +kernel
theorem jd_M_type_47 : decode prog_10_method_4_code 47 = .ok (.if_icmp .lt 10, 3) := by decide +kernel
theorem jd_M_type_50 : decode prog_10_method_4_code 50 = .ok (.iload 6, 2) := by decide +kernel
theorem jd_M_type_52 : decode prog_10_method_4_code 52 = .ok (.bipush 126, 2) := by decide +kernel
theorem jd_M_type_54 : decode prog_10_method_4_code 54 = .ok (.if_icmp .le 5, 3) := by decide +kernel
theorem jd_M_type_57 : decode prog_10_method_4_code 57 = .ok (.iconst (-1), 1) := by decide +kernel
theorem jd_M_type_58 : decode prog_10_method_4_code 58 = .ok (.ireturn, 1) := by decide +kernel
theorem jd_M_type_59 : decode prog_10_method_4_code 59 = .ok (.iload 4, 2) := by decide +kernel
theorem jd_M_type_61 : decode prog_10_method_4_code 61 = .ok (.iload 6, 2) := by decide +kernel
theorem jd_M_type_63 : decode prog_10_method_4_code 63 = .ok (.ifCond .eq 7, 3) := by decide +kernel
theorem jd_M_type_66 : decode prog_10_method_4_code 66 = .ok (.iconst 1, 1) := by decide +kernel
theorem jd_M_type_67 : decode prog_10_method_4_code 67 = .ok (.goto 4, 3) := by decide +kernel
theorem jd_M_type_70 : decode prog_10_method_4_code 70 = .ok (.iconst 0, 1) := by decide +kernel
theorem jd_M_type_71 : decode prog_10_method_4_code 71 = .ok (.iadd, 1) := by decide +kernel
theorem jd_M_type_72 : decode prog_10_method_4_code 72 = .ok (.istore 4, 2) := by decide +kernel
theorem jd_M_type_74 : decode prog_10_method_4_code 74 = .ok (.iinc 5 1, 3) := by decide +kernel
theorem jd_M_type_77 : decode prog_10_method_4_code 77 = .ok (.goto (-60), 3) := by decide +kernel
theorem jd_M_type_80 : decode prog_10_method_4_code 80 = .ok (.aload_n 0, 1) := by decide +kernel
theorem jd_M_type_81 : decode prog_10_method_4_code 81 = .ok (.getfield 13, 3) := by decide +kernel
theorem jd_M_type_84 : decode prog_10_method_4_code 84 = .ok (.iload_n 1, 1) := by decide +kernel
theorem jd_M_type_85 : decode prog_10_method_4_code 85 = .ok (.iaload, 1) := by decide +kernel
theorem jd_M_type_86 : decode prog_10_method_4_code 86 = .ok (.iload 4, 2) := by decide +kernel
theorem jd_M_type_88 : decode prog_10_method_4_code 88 = .ok (.iadd, 1) := by decide +kernel
theorem jd_M_type_89 : decode prog_10_method_4_code 89 = .ok (.bipush 24, 2) := by decide +kernel
theorem jd_M_type_91 : decode prog_10_method_4_code 91 = .ok (.if_icmp .le 6, 3) := by decide +kernel
theorem jd_M_type_94 : decode prog_10_method_4_code 94 = .ok (.bipush (-4), 2) := by decide +kernel
theorem jd_M_type_96 : decode prog_10_method_4_code 96 = .ok (.ireturn, 1) := by decide +kernel
theorem jd_M_type_97 : decode prog_10_method_4_code 97 = .ok (.bipush 7, 2) := by decide +kernel
theorem jd_M_type_99 : decode prog_10_method_4_code 99 = .ok (.istore 5, 2) := by decide +kernel
theorem jd_M_type_101 : decode prog_10_method_4_code 101 = .ok (.iload 5, 2) := by decide +kernel
theorem jd_M_type_103 : decode prog_10_method_4_code 103 = .ok (.ifCond .lt 56, 3) := by decide +kernel
theorem jd_M_type_106 : decode prog_10_method_4_code 106 = .ok (.lload_n 2, 1) := by decide +kernel
theorem jd_M_type_107 : decode prog_10_method_4_code 107 = .ok (.bipush 8, 2) := by decide +kernel
theorem jd_M_type_109 : decode prog_10_method_4_code 109 = .ok (.iload 5, 2) := by decide +kernel
theorem jd_M_type_111 : decode prog_10_method_4_code 111 = .ok (.imul, 1) := by decide +kernel
theorem jd_M_type_112 : decode prog_10_method_4_code 112 = .ok (.lshr, 1) := by decide +kernel
theorem jd_M_type_113 : decode prog_10_method_4_code 113 = .ok (.l2i, 1) := by decide +kernel
theorem jd_M_type_114 : decode prog_10_method_4_code 114 = .ok (.sipush 255, 3) := by decide +kernel
theorem jd_M_type_117 : decode prog_10_method_4_code 117 = .ok (.iand, 1) := by decide +kernel
theorem jd_M_type_118 : decode prog_10_method_4_code 118 = .ok (.istore 6, 2) := by decide +kernel
theorem jd_M_type_120 : decode prog_10_method_4_code 120 = .ok (.iload 6, 2) := by decide +kernel
theorem jd_M_type_122 : decode prog_10_method_4_code 122 = .ok (.ifCond .eq 31, 3) := by decide +kernel
theorem jd_M_type_125 : decode prog_10_method_4_code 125 = .ok (.aload_n 0, 1) := by decide +kernel
theorem jd_M_type_126 : decode prog_10_method_4_code 126 = .ok (.getfield 7, 3) := by decide +kernel
theorem jd_M_type_129 : decode prog_10_method_4_code 129 = .ok (.bipush 24, 2) := by decide +kernel
theorem jd_M_type_131 : decode prog_10_method_4_code 131 = .ok (.iload_n 1, 1) := by decide +kernel
theorem jd_M_type_132 : decode prog_10_method_4_code 132 = .ok (.imul, 1) := by decide +kernel
theorem jd_M_type_133 : decode prog_10_method_4_code 133 = .ok (.aload_n 0, 1) := by decide +kernel
theorem jd_M_type_134 : decode prog_10_method_4_code 134 = .ok (.getfield 13, 3) := by decide +kernel
theorem jd_M_type_137 : decode prog_10_method_4_code 137 = .ok (.iload_n 1, 1) := by decide +kernel
theorem jd_M_type_138 : decode prog_10_method_4_code 138 = .ok (.iaload, 1) := by decide +kernel
theorem jd_M_type_139 : decode prog_10_method_4_code 139 = .ok (.iadd, 1) := by decide +kernel
theorem jd_M_type_140 : decode prog_10_method_4_code 140 = .ok (.iload 6, 2) := by decide +kernel
theorem jd_M_type_142 : decode prog_10_method_4_code 142 = .ok (.iastore, 1) := by decide +kernel
theorem jd_M_type_143 : decode prog_10_method_4_code 143 = .ok (.aload_n 0, 1) := by decide +kernel
theorem jd_M_type_144 : decode prog_10_method_4_code 144 = .ok (.getfield 13, 3) := by decide +kernel
theorem jd_M_type_147 : decode prog_10_method_4_code 147 = .ok (.iload_n 1, 1) := by decide +kernel
theorem jd_M_type_148 : decode prog_10_method_4_code 148 = .ok (.dup2, 1) := by decide +kernel
theorem jd_M_type_149 : decode prog_10_method_4_code 149 = .ok (.iaload, 1) := by decide +kernel
theorem jd_M_type_150 : decode prog_10_method_4_code 150 = .ok (.iconst 1, 1) := by decide +kernel
theorem jd_M_type_151 : decode prog_10_method_4_code 151 = .ok (.iadd, 1) := by decide +kernel
theorem jd_M_type_152 : decode prog_10_method_4_code 152 = .ok (.iastore, 1) := by decide +kernel
theorem jd_M_type_153 : decode prog_10_method_4_code 153 = .ok (.iinc 5 (-1), 3) := by decide +kernel
theorem jd_M_type_156 : decode prog_10_method_4_code 156 = .ok (.goto (-55), 3) := by decide +kernel
theorem jd_M_type_159 : decode prog_10_method_4_code 159 = .ok (.aload_n 0, 1) := by decide +kernel
theorem jd_M_type_160 : decode prog_10_method_4_code 160 = .ok (.getfield 13, 3) := by decide +kernel
theorem jd_M_type_163 : decode prog_10_method_4_code 163 = .ok (.iload_n 1, 1) := by decide +kernel
theorem jd_M_type_164 : decode prog_10_method_4_code 164 = .ok (.iaload, 1) := by decide +kernel
theorem jd_M_type_165 : decode prog_10_method_4_code 165 = .ok (.ireturn, 1) := by decide +kernel
theorem jd_M_out_0 : decode prog_10_method_2_code 0 = .ok (.iload_n 1, 1) := by decide +kernel
theorem jd_M_out_1 : decode prog_10_method_2_code 1 = .ok (.ifCond .lt 8, 3) := by decide +kernel
theorem jd_M_out_4 : decode prog_10_method_2_code 4 = .ok (.iload_n 1, 1) := by decide +kernel
theorem jd_M_out_5 : decode prog_10_method_2_code 5 = .ok (.iload_n 2, 1) := by decide +kernel
theorem jd_M_out_6 : decode prog_10_method_2_code 6 = .ok (.if_icmp .lt 7, 3) := by decide +kernel
theorem jd_M_out_9 : decode prog_10_method_2_code 9 = .ok (.iconst 1, 1) := by decide +kernel
theorem jd_M_out_10 : decode prog_10_method_2_code 10 = .ok (.goto 4, 3) := by decide +kernel
theorem jd_M_out_13 : decode prog_10_method_2_code 13 = .ok (.iconst 0, 1) := by decide +kernel
theorem jd_M_out_14 : decode prog_10_method_2_code 14 = .ok (.ireturn, 1) := by decide +kernel
theorem jd_M_clear_0 : decode prog_10_method_5_code 0 = .ok (.aload_n 0, 1) := by decide +kernel
theorem jd_M_clear_1 : decode prog_10_method_5_code 1 = .ok (.iload_n 1, 1) := by decide +kernel
theorem jd_M_clear_2 : decode prog_10_method_5_code 2 = .ok (.iconst 2, 1) := by decide +kernel
theorem jd_M_clear_3 : decode prog_10_method_5_code 3 = .ok (.invokevirtual 54, 3) := by decide +kernel
theorem jd_M_clear_6 : decode prog_10_method_5_code 6 = .ok (.ifCond .eq 5, 3) := by decide +kernel
theorem jd_M_clear_9 : decode prog_10_method_5_code 9 = .ok (.iconst (-1), 1) := by decide +kernel
theorem jd_M_clear_10 : decode prog_10_method_5_code 10 = .ok (.ireturn, 1) := by decide +kernel
theorem jd_M_clear_11 : decode prog_10_method_5_code 11 = .ok (.aload_n 0, 1) := by decide +kernel
theorem jd_M_clear_12 : decode prog_10_method_5_code 12 = .ok (.getfield 13, 3) := by decide +kernel
theorem jd_M_clear_15 : decode prog_10_method_5_code 15 = .ok (.iload_n 1, 1) := by decide +kernel
theorem jd_M_clear_16 : decode prog_10_method_5_code 16 = .ok (.iaload, 1) := by decide +kernel
theorem jd_M_clear_17 : decode prog_10_method_5_code 17 = .ok (.istore_n 2, 1) := by decide +kernel
theorem jd_M_clear_18 : decode prog_10_method_5_code 18 = .ok (.aload_n 0, 1) := by decide +kernel
theorem jd_M_clear_19 : decode prog_10_method_5_code 19 = .ok (.getfield 13, 3) := by decide +kernel
theorem jd_M_clear_22 : decode prog_10_method_5_code 22 = .ok (.iload_n 1, 1) := by decide +kernel
theorem jd_M_clear_23 : decode prog_10_method_5_code 23 = .ok (.iconst 0, 1) := by decide +kernel
theorem jd_M_clear_24 : decode prog_10_method_5_code 24 = .ok (.iastore, 1) := by decide +kernel
theorem jd_M_clear_25 : decode prog_10_method_5_code 25 = .ok (.iload_n 2, 1) := by decide +kernel
theorem jd_M_clear_26 : decode prog_10_method_5_code 26 = .ok (.ireturn, 1) := by decide +kernel
theorem jd_M_define_0 : decode prog_10_method_11_code 0 = .ok (.aload_n 0, 1) := by decide +kernel
theorem jd_M_define_1 : decode prog_10_method_11_code 1 = .ok (.iload_n 1, 1) := by decide +kernel
theorem jd_M_define_2 : decode prog_10_method_11_code 2 = .ok (.iconst 4, 1) := by decide +kernel
theorem jd_M_define_3 : decode prog_10_method_11_code 3 = .ok (.invokevirtual 54, 3) := by decide +kernel
theorem jd_M_define_6 : decode prog_10_method_11_code 6 = .ok (.ifCond .eq 5, 3) := by decide +kernel
theorem jd_M_define_9 : decode prog_10_method_11_code 9 = .ok (.iconst (-1), 1) := by decide +kernel
theorem jd_M_define_10 : decode prog_10_method_11_code 10 = .ok (.ireturn, 1) := by decide +kernel
theorem jd_M_define_11 : decode prog_10_method_11_code 11 = .ok (.aload_n 0, 1) := by decide +kernel
theorem jd_M_define_12 : decode prog_10_method_11_code 12 = .ok (.getfield 13, 3) := by decide +kernel
theorem jd_M_define_15 : decode prog_10_method_11_code 15 = .ok (.iconst 0, 1) := by decide +kernel
theorem jd_M_define_16 : decode prog_10_method_11_code 16 = .ok (.iaload, 1) := by decide +kernel
theorem jd_M_define_17 : decode prog_10_method_11_code 17 = .ok (.ifCond .ne 6, 3) := by decide +kernel
theorem jd_M_define_20 : decode prog_10_method_11_code 20 = .ok (.bipush (-2), 2) := by decide +kernel
theorem jd_M_define_22 : decode prog_10_method_11_code 22 = .ok (.ireturn, 1) := by decide +kernel
theorem jd_M_define_23 : decode prog_10_method_11_code 23 = .ok (.aload_n 0, 1) := by decide +kernel
theorem jd_M_define_24 : decode prog_10_method_11_code 24 = .ok (.getfield 16, 3) := by decide +kernel
theorem jd_M_define_27 : decode prog_10_method_11_code 27 = .ok (.iload_n 1, 1) := by decide +kernel
theorem jd_M_define_28 : decode prog_10_method_11_code 28 = .ok (.iconst 1, 1) := by decide +kernel
theorem jd_M_define_29 : decode prog_10_method_11_code 29 = .ok (.bastore, 1) := by decide +kernel
theorem jd_M_define_30 : decode prog_10_method_11_code 30 = .ok (.aload_n 0, 1) := by decide +kernel
theorem jd_M_define_31 : decode prog_10_method_11_code 31 = .ok (.getfield 20, 3) := by decide +kernel
theorem jd_M_define_34 : decode prog_10_method_11_code 34 = .ok (.iload_n 1, 1) := by decide +kernel
theorem jd_M_define_35 : decode prog_10_method_11_code 35 = .ok (.iload_n 2, 1) := by decide +kernel
theorem jd_M_define_36 : decode prog_10_method_11_code 36 = .ok (.ldc 73, 2) := by decide +kernel
theorem jd_M_define_38 : decode prog_10_method_11_code 38 = .ok (.iand, 1) := by decide +kernel
theorem jd_M_define_39 : decode prog_10_method_11_code 39 = .ok (.iastore, 1) := by decide +kernel
theorem jd_M_define_40 : decode prog_10_method_11_code 40 = .ok (.aload_n 0, 1) := by decide +kernel
theorem jd_M_define_41 : decode prog_10_method_11_code 41 = .ok (.getfield 23, 3) := by decide +kernel
theorem jd_M_define_44 : decode prog_10_method_11_code 44 = .ok (.iload_n 1, 1) := by decide +kernel
theorem jd_M_define_45 : decode prog_10_method_11_code 45 = .ok (.iconst 0, 1) := by decide +kernel
theorem jd_M_define_46 : decode prog_10_method_11_code 46 = .ok (.iastore, 1) := by decide +kernel
theorem jd_M_define_47 : decode prog_10_method_11_code 47 = .ok (.aload_n 0, 1) := by decide +kernel
theorem jd_M_define_48 : decode prog_10_method_11_code 48 = .ok (.getfield 26, 3) := by decide +kernel
theorem jd_M_define_51 : decode prog_10_method_11_code 51 = .ok (.iload_n 1, 1) := by decide +kernel
theorem jd_M_define_52 : decode prog_10_method_11_code 52 = .ok (.iconst 0, 1) := by decide +kernel
theorem jd_M_define_53 : decode prog_10_method_11_code 53 = .ok (.iastore, 1) := by decide +kernel
theorem jd_M_define_54 : decode prog_10_method_11_code 54 = .ok (.aload_n 0, 1) := by decide +kernel
theorem jd_M_define_55 : decode prog_10_method_11_code 55 = .ok (.getfield 29, 3) := by decide +kernel
theorem jd_M_define_58 : decode prog_10_method_11_code 58 = .ok (.iload_n 1, 1) := by decide +kernel
theorem jd_M_define_59 : decode prog_10_method_11_code 59 = .ok (.iconst 0, 1) := by decide +kernel
theorem jd_M_define_60 : decode prog_10_method_11_code 60 = .ok (.bastore, 1) := by decide +kernel
theorem jd_M_define_61 : decode prog_10_method_11_code 61 = .ok (.aload_n 0, 1) := by decide +kernel
theorem jd_M_define_62 : decode prog_10_method_11_code 62 = .ok (.iconst 0, 1) := by decide +kernel
theorem jd_M_define_63 : decode prog_10_method_11_code 63 = .ok (.iconst 2, 1) := by decide +kernel
theorem jd_M_define_64 : decode prog_10_method_11_code 64 = .ok (.iload_n 1, 1) := by decide +kernel
theorem jd_M_define_65 : decode prog_10_method_11_code 65 = .ok (.iadd, 1) := by decide +kernel
theorem jd_M_define_66 : decode prog_10_method_11_code 66 = .ok (.invokevirtual 74, 3) := by decide +kernel
theorem jd_M_define_69 : decode prog_10_method_11_code 69 = .ok (.iconst 0, 1) := by decide +kernel
theorem jd_M_define_70 : decode prog_10_method_11_code 70 = .ok (.ireturn, 1) := by decide +kernel
theorem jd_M_copy_0 : decode prog_10_method_6_code 0 = .ok (.aload_n 0, 1) := by decide +kernel
theorem jd_M_copy_1 : decode prog_10_method_6_code 1 = .ok (.getfield 13, 3) := by decide +kernel
theorem jd_M_copy_4 : decode prog_10_method_6_code 4 = .ok (.iload_n 2, 1) := by decide +kernel
theorem jd_M_copy_5 : decode prog_10_method_6_code 5 = .ok (.aload_n 0, 1) := by decide +kernel
theorem jd_M_copy_6 : decode prog_10_method_6_code 6 = .ok (.getfield 13, 3) := by decide +kernel
theorem jd_M_copy_9 : decode prog_10_method_6_code 9 = .ok (.iload_n 1, 1) := by decide +kernel
theorem jd_M_copy_10 : decode prog_10_method_6_code 10 = .ok (.iaload, 1) := by decide +kernel
theorem jd_M_copy_11 : decode prog_10_method_6_code 11 = .ok (.iastore, 1) := by decide +kernel
theorem jd_M_copy_12 : decode prog_10_method_6_code 12 = .ok (.iconst 0, 1) := by decide +kernel
theorem jd_M_copy_13 : decode prog_10_method_6_code 13 = .ok (.istore_n 3, 1) := by decide +kernel
theorem jd_M_copy_14 : decode prog_10_method_6_code 14 = .ok (.iload_n 3, 1) := by decide +kernel
theorem jd_M_copy_15 : decode prog_10_method_6_code 15 = .ok (.bipush 24, 2) := by decide +kernel
theorem jd_M_copy_17 : decode prog_10_method_6_code 17 = .ok (.if_icmp .ge 31, 3) := by decide +kernel
theorem jd_M_copy_20 : decode prog_10_method_6_code 20 = .ok (.aload_n 0, 1) := by decide +kernel
theorem jd_M_copy_21 : decode prog_10_method_6_code 21 = .ok (.getfield 7, 3) := by decide +kernel
theorem jd_M_copy_24 : decode prog_10_method_6_code 24 = .ok (.bipush 24, 2) := by decide +kernel
theorem jd_M_copy_26 : decode prog_10_method_6_code 26 = .ok (.iload_n 2, 1) := by decide +kernel
theorem jd_M_copy_27 : decode prog_10_method_6_code 27 = .ok (.imul, 1) := by decide +kernel
theorem jd_M_copy_28 : decode prog_10_method_6_code 28 = .ok (.iload_n 3, 1) := by decide +kernel
theorem jd_M_copy_29 : decode prog_10_method_6_code 29 = .ok (.iadd, 1) := by decide +kernel
theorem jd_M_copy_30 : decode prog_10_method_6_code 30 = .ok (.aload_n 0, 1) := by decide +kernel
theorem jd_M_copy_31 : decode prog_10_method_6_code 31 = .ok (.getfield 7, 3) := by decide +kernel
theorem jd_M_copy_34 : decode prog_10_method_6_code 34 = .ok (.bipush 24, 2) := by decide +kernel
theorem jd_M_copy_36 : decode prog_10_method_6_code 36 = .ok (.iload_n 1, 1) := by decide +kernel
theorem jd_M_copy_37 : decode prog_10_method_6_code 37 = .ok (.imul, 1) := by decide +kernel
theorem jd_M_copy_38 : decode prog_10_method_6_code 38 = .ok (.iload_n 3, 1) := by decide +kernel
theorem jd_M_copy_39 : decode prog_10_method_6_code 39 = .ok (.iadd, 1) := by decide +kernel
theorem jd_M_copy_40 : decode prog_10_method_6_code 40 = .ok (.iaload, 1) := by decide +kernel
theorem jd_M_copy_41 : decode prog_10_method_6_code 41 = .ok (.iastore, 1) := by decide +kernel
theorem jd_M_copy_42 : decode prog_10_method_6_code 42 = .ok (.iinc 3 1, 3) := by decide +kernel
theorem jd_M_copy_45 : decode prog_10_method_6_code 45 = .ok (.goto (-31), 3) := by decide +kernel
theorem jd_M_copy_48 : decode prog_10_method_6_code 48 = .ok (.return_, 1) := by decide +kernel
