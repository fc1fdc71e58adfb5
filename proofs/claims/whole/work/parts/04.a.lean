theorem jd_S_init_0 : decode prog_1_method_1_code 0 = .ok (.aload_n 0, 1) := by decide +kernel
theorem jd_S_init_1 : decode prog_1_method_1_code 1 = .ok (.invokespecial 3, 3) := by decide +kernel
theorem jd_S_init_4 : decode prog_1_method_1_code 4 = .ok (.aload_n 0, 1) := by decide +kernel
theorem jd_S_init_5 : decode prog_1_method_1_code 5 = .ok (.new 9, 3) := by decide +kernel
theorem jd_S_init_8 : decode prog_1_method_1_code 8 = .ok (.dup, 1) := by decide +kernel
theorem jd_S_init_9 : decode prog_1_method_1_code 9 = .ok (.invokespecial 11, 3) := by decide +kernel
theorem jd_S_init_12 : decode prog_1_method_1_code 12 = .ok (.putfield 12, 3) := by decide +kernel
theorem jd_S_init_15 : decode prog_1_method_1_code 15 = .ok (.aload_n 0, 1) := by decide +kernel
theorem jd_S_init_16 : decode prog_1_method_1_code 16 = .ok (.new 9, 3) := by decide +kernel
theorem jd_S_init_19 : decode prog_1_method_1_code 19 = .ok (.dup, 1) := by decide +kernel
theorem jd_S_init_20 : decode prog_1_method_1_code 20 = .ok (.invokespecial 11, 3) := by decide +kernel
theorem jd_S_init_23 : decode prog_1_method_1_code 23 = .ok (.putfield 16, 3) := by decide +kernel
theorem jd_S_init_26 : decode prog_1_method_1_code 26 = .ok (.aload_n 0, 1) := by decide +kernel
theorem jd_S_init_27 : decode prog_1_method_1_code 27 = .ok (.iconst 4, 1) := by decide +kernel
theorem jd_S_init_28 : decode prog_1_method_1_code 28 = .ok (.anewarray 19, 3) := by decide +kernel
theorem jd_S_init_31 : decode prog_1_method_1_code 31 = .ok (.putfield 21, 3) := by decide +kernel
theorem jd_S_init_34 : decode prog_1_method_1_code 34 = .ok (.aload_n 0, 1) := by decide +kernel
theorem jd_S_init_35 : decode prog_1_method_1_code 35 = .ok (.new 25, 3) := by decide +kernel
theorem jd_S_init_38 : decode prog_1_method_1_code 38 = .ok (.dup, 1) := by decide +kernel
theorem jd_S_init_39 : decode prog_1_method_1_code 39 = .ok (.invokespecial 27, 3) := by decide +kernel
theorem jd_S_init_42 : decode prog_1_method_1_code 42 = .ok (.putfield 28, 3) := by decide +kernel
theorem jd_S_init_45 : decode prog_1_method_1_code 45 = .ok (.aload_n 0, 1) := by decide +kernel
theorem jd_S_init_46 : decode prog_1_method_1_code 46 = .ok (.new 32, 3) := by decide +kernel
theorem jd_S_init_49 : decode prog_1_method_1_code 49 = .ok (.dup, 1) := by decide +kernel
theorem jd_S_init_50 : decode prog_1_method_1_code 50 = .ok (.invokespecial 34, 3) := by decide +kernel
theorem jd_S_init_53 : decode prog_1_method_1_code 53 = .ok (.putfield 35, 3) := by decide +kernel
theorem jd_S_init_56 : decode prog_1_method_1_code 56 = .ok (.iconst 0, 1) := by decide +kernel
theorem jd_S_init_57 : decode prog_1_method_1_code 57 = .ok (.istore_n 1, 1) := by decide +kernel
theorem jd_S_init_58 : decode prog_1_method_1_code 58 = .ok (.iload_n 1, 1) := by decide +kernel
theorem jd_S_init_59 : decode prog_1_method_1_code 59 = .ok (.iconst 4, 1) := by decide +kernel
theorem jd_S_init_60 : decode prog_1_method_1_code 60 = .ok (.if_icmp .ge 22, 3) := by decide +kernel
theorem jd_S_init_63 : decode prog_1_method_1_code 63 = .ok (.aload_n 0, 1) := by decide +kernel
theorem jd_S_init_64 : decode prog_1_method_1_code 64 = .ok (.getfield 21, 3) := by decide +kernel
theorem jd_S_init_67 : decode prog_1_method_1_code 67 = .ok (.iload_n 1, 1) := by decide +kernel
theorem jd_S_init_68 : decode prog_1_method_1_code 68 = .ok (.new 19, 3) := by decide +kernel
theorem jd_S_init_71 : decode prog_1_method_1_code 71 = .ok (.dup, 1) := by decide +kernel
theorem jd_S_init_72 : decode prog_1_method_1_code 72 = .ok (.invokespecial 39, 3) := by decide +kernel
theorem jd_S_init_75 : decode prog_1_method_1_code 75 = .ok (.aastore, 1) := by decide +kernel
theorem jd_S_init_76 : decode prog_1_method_1_code 76 = .ok (.iinc 1 1, 3) := by decide +kernel
theorem jd_S_init_79 : decode prog_1_method_1_code 79 = .ok (.goto (-21), 3) := by decide +kernel
theorem jd_S_init_82 : decode prog_1_method_1_code 82 = .ok (.return_, 1) := by decide +kernel
theorem jd_T_init_0 : decode prog_8_method_1_code 0 = .ok (.aload_n 0, 1) := by decide +kernel
theorem jd_T_init_1 : decode prog_8_method_1_code 1 = .ok (.invokespecial 3, 3) := by decide +kernel
theorem jd_T_init_4 : decode prog_8_method_1_code 4 = .ok (.aload_n 0, 1) := by decide +kernel
theorem jd_T_init_5 : decode prog_8_method_1_code 5 = .ok (.bipush 24, 2) := by decide +kernel
theorem jd_T_init_7 : decode prog_8_method_1_code 7 = .ok (.newarray .byte, 2) := by decide +kernel
theorem jd_T_init_9 : decode prog_8_method_1_code 9 = .ok (.putfield 9, 3) := by decide +kernel
theorem jd_T_init_12 : decode prog_8_method_1_code 12 = .ok (.aload_n 0, 1) := by decide +kernel
theorem jd_T_init_13 : decode prog_8_method_1_code 13 = .ok (.iconst 0, 1) := by decide +kernel
theorem jd_T_init_14 : decode prog_8_method_1_code 14 = .ok (.putfield 15, 3) := by decide +kernel
theorem jd_T_init_17 : decode prog_8_method_1_code 17 = .ok (.return_, 1) := by decide +kernel
theorem jd_L_init_0 : decode prog_5_method_1_code 0 = .ok (.aload_n 0, 1) := by decide +kernel
theorem jd_L_init_1 : decode prog_5_method_1_code 1 = .ok (.invokespecial 3, 3) := by decide +kernel
theorem jd_L_init_4 : decode prog_5_method_1_code 4 = .ok (.aload_n 0, 1) := by decide +kernel
theorem jd_L_init_5 : decode prog_5_method_1_code 5 = .ok (.sipush 694, 3) := by decide +kernel
theorem jd_L_init_8 : decode prog_5_method_1_code 8 = .ok (.newarray .byte, 2) := by decide +kernel
theorem jd_L_init_10 : decode prog_5_method_1_code 10 = .ok (.putfield 9, 3) := by decide +kernel
theorem jd_L_init_13 : decode prog_5_method_1_code 13 = .ok (.aload_n 0, 1) := by decide +kernel
theorem jd_L_init_14 : decode prog_5_method_1_code 14 = .ok (.iconst 0, 1) := by decide +kernel
theorem jd_L_init_15 : decode prog_5_method_1_code 15 = .ok (.putfield 15, 3) := by decide +kernel
theorem jd_L_init_18 : decode prog_5_method_1_code 18 = .ok (.aload_n 0, 1) := by decide +kernel
theorem jd_L_init_19 : decode prog_5_method_1_code 19 = .ok (.bipush 6, 2) := by decide +kernel
theorem jd_L_init_21 : decode prog_5_method_1_code 21 = .ok (.newarray .int, 2) := by decide +kernel
theorem jd_L_init_23 : decode prog_5_method_1_code 23 = .ok (.putfield 19, 3) := by decide +kernel
theorem jd_L_init_26 : decode prog_5_method_1_code 26 = .ok (.return_, 1) := by decide +kernel
theorem jd_G_init_0 : decode prog_3_method_1_code 0 = .ok (.aload_n 0, 1) := by decide +kernel
theorem jd_G_init_1 : decode prog_3_method_1_code 1 = .ok (.invokespecial 3, 3) := by decide +kernel
theorem jd_G_init_4 : decode prog_3_method_1_code 4 = .ok (.aload_n 0, 1) := by decide +kernel
theorem jd_G_init_5 : decode prog_3_method_1_code 5 = .ok (.iconst 5, 1) := by decide +kernel
theorem jd_G_init_6 : decode prog_3_method_1_code 6 = .ok (.newarray .int, 2) := by decide +kernel
theorem jd_G_init_8 : decode prog_3_method_1_code 8 = .ok (.putfield 9, 3) := by decide +kernel
theorem jd_G_init_11 : decode prog_3_method_1_code 11 = .ok (.aload_n 0, 1) := by decide +kernel
theorem jd_G_init_12 : decode prog_3_method_1_code 12 = .ok (.bipush 80, 2) := by decide +kernel
theorem jd_G_init_14 : decode prog_3_method_1_code 14 = .ok (.newarray .int, 2) := by decide +kernel
theorem jd_G_init_16 : decode prog_3_method_1_code 16 = .ok (.putfield 15, 3) := by decide +kernel
theorem jd_G_init_19 : decode prog_3_method_1_code 19 = .ok (.return_, 1) := by decide +kernel
theorem jd_D_init_0 : decode prog_2_method_1_code 0 = .ok (.aload_n 0, 1) := by decide +kernel
theorem jd_D_init_1 : decode prog_2_method_1_code 1 = .ok (.invokespecial 3, 3) := by decide +kernel
theorem jd_D_init_4 : decode prog_2_method_1_code 4 = .ok (.aload_n 0, 1) := by decide +kernel
theorem jd_D_init_5 : decode prog_2_method_1_code 5 = .ok (.iconst 0, 1) := by decide +kernel
theorem jd_D_init_6 : decode prog_2_method_1_code 6 = .ok (.putfield 9, 3) := by decide +kernel
theorem jd_D_init_9 : decode prog_2_method_1_code 9 = .ok (.aload_n 0, 1) := by decide +kernel
theorem jd_D_init_10 : decode prog_2_method_1_code 10 = .ok (.new 15, 3) := by decide +kernel
theorem jd_D_init_13 : decode prog_2_method_1_code 13 = .ok (.dup, 1) := by decide +kernel
theorem jd_D_init_14 : decode prog_2_method_1_code 14 = .ok (.invokespecial 17, 3) := by decide +kernel
theorem jd_D_init_17 : decode prog_2_method_1_code 17 = .ok (.putfield 18, 3) := by decide +kernel
theorem jd_D_init_20 : decode prog_2_method_1_code 20 = .ok (.aload_n 0, 1) := by decide +kernel
theorem jd_D_init_21 : decode prog_2_method_1_code 21 = .ok (.iconst 0, 1) := by decide +kernel
theorem jd_D_init_22 : decode prog_2_method_1_code 22 = .ok (.putfield 22, 3) := by decide +kernel
theorem jd_D_init_25 : decode prog_2_method_1_code 25 = .ok (.aload_n 0, 1) := by decide +kernel
theorem jd_D_init_26 : decode prog_2_method_1_code 26 = .ok (.new 26, 3) := by decide +kernel
theorem jd_D_init_29 : decode prog_2_method_1_code 29 = .ok (.dup, 1) := by decide +kernel
theorem jd_D_init_30 : decode prog_2_method_1_code 30 = .ok (.iconst 4, 1) := by decide +kernel
theorem jd_D_init_31 : decode prog_2_method_1_code 31 = .ok (.invokespecial 28, 3) := by decide +kernel
theorem jd_D_init_34 : decode prog_2_method_1_code 34 = .ok (.putfield 31, 3) := by decide +kernel
theorem jd_D_init_37 : decode prog_2_method_1_code 37 = .ok (.aload_n 0, 1) := by decide +kernel
theorem jd_D_init_38 : decode prog_2_method_1_code 38 = .ok (.new 26, 3) := by decide +kernel
theorem jd_D_init_41 : decode prog_2_method_1_code 41 = .ok (.dup, 1) := by decide +kernel
theorem jd_D_init_42 : decode prog_2_method_1_code 42 = .ok (.bipush 10, 2) := by decide +kernel
theorem jd_D_init_44 : decode prog_2_method_1_code 44 = .ok (.invokespecial 28, 3) := by decide +kernel
theorem jd_D_init_47 : decode prog_2_method_1_code 47 = .ok (.putfield 35, 3) := by decide +kernel
theorem jd_D_init_50 : decode prog_2_method_1_code 50 = .ok (.aload_n 0, 1) := by decide +kernel
theorem jd_D_init_51 : decode prog_2_method_1_code 51 = .ok (.iconst 0, 1) := by decide +kernel
theorem jd_D_init_52 : decode prog_2_method_1_code 52 = .ok (.putfield 38, 3) := by decide +kernel
theorem jd_D_init_55 : decode prog_2_method_1_code 55 = .ok (.aload_n 0, 1) := by decide +kernel
theorem jd_D_init_56 : decode prog_2_method_1_code 56 = .ok (.lconst 0, 1) := by decide +kernel
theorem jd_D_init_57 : decode prog_2_method_1_code 57 = .ok (.putfield 41, 3) := by decide +kernel
theorem jd_D_init_60 : decode prog_2_method_1_code 60 = .ok (.return_, 1) := by decide +kernel
theorem jd_R_init_0 : decode prog_6_method_1_code 0 = .ok (.aload_n 0, 1) := by decide +kernel
theorem jd_R_init_1 : decode prog_6_method_1_code 1 = .ok (.invokespecial 3, 3) := by decide +kernel
theorem jd_R_init_4 : decode prog_6_method_1_code 4 = .ok (.aload_n 0, 1) := by decide +kernel
theorem jd_R_init_5 : decode prog_6_method_1_code 5 = .ok (.iconst 0, 1) := by decide +kernel
theorem jd_R_init_6 : decode prog_6_method_1_code 6 = .ok (.putfield 9, 3) := by decide +kernel
theorem jd_R_init_9 : decode prog_6_method_1_code 9 = .ok (.aload_n 0, 1) := by decide +kernel
theorem jd_R_init_10 : decode prog_6_method_1_code 10 = .ok (.iload_n 1, 1) := by decide +kernel
theorem jd_R_init_11 : decode prog_6_method_1_code 11 = .ok (.anewarray 15, 3) := by decide +kernel
theorem jd_R_init_14 : decode prog_6_method_1_code 14 = .ok (.putfield 17, 3) := by decide +kernel
theorem jd_R_init_17 : decode prog_6_method_1_code 17 = .ok (.iconst 0, 1) := by decide +kernel
theorem jd_R_init_18 : decode prog_6_method_1_code 18 = .ok (.istore_n 2, 1) := by decide +kernel
theorem jd_R_init_19 : decode prog_6_method_1_code 19 = .ok (.iload_n 2, 1) := by decide +kernel
theorem jd_R_init_20 : decode prog_6_method_1_code 20 = .ok (.iload_n 1, 1) := by decide +kernel
theorem jd_R_init_21 : decode prog_6_method_1_code 21 = .ok (.if_icmp .ge 22, 3) := by decide +kernel
theorem jd_R_init_24 : decode prog_6_method_1_code 24 = .ok (.aload_n 0, 1) := by decide +kernel
theorem jd_R_init_25 : decode prog_6_method_1_code 25 = .ok (.getfield 17, 3) := by decide +kernel
theorem jd_R_init_28 : decode prog_6_method_1_code 28 = .ok (.iload_n 2, 1) := by decide +kernel
theorem jd_R_init_29 : decode prog_6_method_1_code 29 = .ok (.new 15, 3) := by decide +kernel
theorem jd_R_init_32 : decode prog_6_method_1_code 32 = .ok (.dup, 1) := by decide +kernel
theorem jd_R_init_33 : decode prog_6_method_1_code 33 = .ok (.invokespecial 21, 3) := by decide +kernel
theorem jd_R_init_36 : decode prog_6_method_1_code 36 = .ok (.aastore, 1) := by decide +kernel
theorem jd_R_init_37 : decode prog_6_method_1_code 37 = .ok (.iinc 2 1, 3) := by decide +kernel
theorem jd_R_init_40 : decode prog_6_method_1_code 40 = .ok (.goto (-21), 3) := by decide +kernel
theorem jd_R_init_43 : decode prog_6_method_1_code 43 = .ok (.return_, 1) := by decide +kernel
theorem jd_E_init_0 : decode prog_4_method_1_code 0 = .ok (.aload_n 0, 1) := by decide +kernel
theorem jd_E_init_1 : decode prog_4_method_1_code 1 = .ok (.invokespecial 3, 3) := by decide +kernel
theorem jd_E_init_4 : decode prog_4_method_1_code 4 = .ok (.aload_n 0, 1) := by decide +kernel
theorem jd_E_init_5 : decode prog_4_method_1_code 5 = .ok (.iconst 0, 1) := by decide +kernel
theorem jd_E_init_6 : decode prog_4_method_1_code 6 = .ok (.putfield 9, 3) := by decide +kernel
theorem jd_E_init_9 : decode prog_4_method_1_code 9 = .ok (.aload_n 0, 1) := by decide +kernel
theorem jd_E_init_10 : decode prog_4_method_1_code 10 = .ok (.iconst 0, 1) := by decide +kernel
theorem jd_E_init_11 : decode prog_4_method_1_code 11 = .ok (.putfield 15, 3) := by decide +kernel
theorem jd_E_init_14 : decode prog_4_method_1_code 14 = .ok (.aload_n 0, 1) := by decide +kernel
theorem jd_E_init_15 : decode prog_4_method_1_code 15 = .ok (.new 18, 3) := by decide +kernel
theorem jd_E_init_18 : decode prog_4_method_1_code 18 = .ok (.dup, 1) := by decide +kernel
theorem jd_E_init_19 : decode prog_4_method_1_code 19 = .ok (.invokespecial 20, 3) := by decide +kernel
theorem jd_E_init_22 : decode prog_4_method_1_code 22 = .ok (.putfield 21, 3) := by decide +kernel
theorem jd_E_init_25 : decode prog_4_method_1_code 25 = .ok (.aload_n 0, 1) := by decide +kernel
theorem jd_E_init_26 : decode prog_4_method_1_code 26 = .ok (.new 18, 3) := by decide +kernel
theorem jd_E_init_29 : decode prog_4_method_1_code 29 = .ok (.dup, 1) := by decide +kernel
theorem jd_E_init_30 : decode prog_4_method_1_code 30 = .ok (.invokespecial 20, 3) := by decide +kernel
theorem jd_E_init_33 : decode prog_4_method_1_code 33 = .ok (.putfield 25, 3) := by decide +kernel
theorem jd_E_init_36 : decode prog_4_method_1_code 36 = .ok (.return_, 1) := by decide +kernel
theorem jd_S_type_0 : decode prog_1_method_2_code 0 = .ok (.aload_n 0, 1) := by decide +kernel
theorem jd_S_type_1 : decode prog_1_method_2_code 1 = .ok (.iload_n 1, 1) := by decide +kernel
theorem jd_S_type_2 : decode prog_1_method_2_code 2 = .ok (.invokevirtual 40, 3) := by decide +kernel
theorem jd_S_type_5 : decode prog_1_method_2_code 5 = .ok (.astore 4, 2) := by decide +kernel
theorem jd_S_type_7 : decode prog_1_method_2_code 7 = .ok (.aload 4, 2) := by decide +kernel
theorem jd_S_type_9 : decode prog_1_method_2_code 9 = .ok (.ifnull 10, 3) := by decide +kernel
theorem jd_S_type_12 : decode prog_1_method_2_code 12 = .ok (.lload_n 2, 1) := by decide +kernel
theorem jd_S_type_13 : decode prog_1_method_2_code 13 = .ok (.invokestatic 44, 3) := by decide +kernel
theorem jd_S_type_16 : decode prog_1_method_2_code 16 = .ok (.ifCond .ne 5, 3) := by decide +kernel
theorem jd_S_type_19 : decode prog_1_method_2_code 19 = .ok (.iconst (-1), 1) := by decide +kernel
theorem jd_S_type_20 : decode prog_1_method_2_code 20 = .ok (.ireturn, 1) := by decide +kernel
theorem jd_S_type_21 : decode prog_1_method_2_code 21 = .ok (.aload 4, 2) := by decide +kernel
theorem jd_S_type_23 : decode prog_1_method_2_code 23 = .ok (.getfield 48, 3) := by decide +kernel
theorem jd_S_type_26 : decode prog_1_method_2_code 26 = .ok (.lload_n 2, 1) := by decide +kernel
theorem jd_S_type_27 : decode prog_1_method_2_code 27 = .ok (.invokestatic 52, 3) := by decide +kernel
theorem jd_S_type_30 : decode prog_1_method_2_code 30 = .ok (.iadd, 1) := by decide +kernel
theorem jd_S_type_31 : decode prog_1_method_2_code 31 = .ok (.bipush 24, 2) := by decide +kernel
theorem jd_S_type_33 : decode prog_1_method_2_code 33 = .ok (.if_icmp .le 6, 3) := by decide +kernel
theorem jd_S_type_36 : decode prog_1_method_2_code 36 = .ok (.bipush (-4), 2) := by decide +kernel
theorem jd_S_type_38 : decode prog_1_method_2_code 38 = .ok (.ireturn, 1) := by decide +kernel
theorem jd_S_type_39 : decode prog_1_method_2_code 39 = .ok (.bipush 56, 2) := by decide +kernel
theorem jd_S_type_41 : decode prog_1_method_2_code 41 = .ok (.istore 5, 2) := by decide +kernel
theorem jd_S_type_43 : decode prog_1_method_2_code 43 = .ok (.iload 5, 2) := by decide +kernel
theorem jd_S_type_45 : decode prog_1_method_2_code 45 = .ok (.ifCond .lt 29, 3) := by decide +kernel
theorem jd_S_type_48 : decode prog_1_method_2_code 48 = .ok (.lload_n 2, 1) := by decide +kernel
theorem jd_S_type_49 : decode prog_1_method_2_code 49 = .ok (.iload 5, 2) := by decide +kernel
theorem jd_S_type_51 : decode prog_1_method_2_code 51 = .ok (.invokestatic 56, 3) := by decide +kernel
theorem jd_S_type_54 : decode prog_1_method_2_code 54 = .ok (.istore 6, 2) := by decide +kernel
theorem jd_S_type_56 : decode prog_1_method_2_code 56 = .ok (.iload 6, 2) := by decide +kernel
theorem jd_S_type_58 : decode prog_1_method_2_code 58 = .ok (.ifCond .eq 10, 3) := by decide +kernel
theorem jd_S_type_61 : decode prog_1_method_2_code 61 = .ok (.aload 4, 2) := by decide +kernel
theorem jd_S_type_63 : decode prog_1_method_2_code 63 = .ok (.iload 6, 2) := by decide +kernel
theorem jd_S_type_65 : decode prog_1_method_2_code 65 = .ok (.invokevirtual 60, 3) := by decide +kernel
theorem jd_S_type_68 : decode prog_1_method_2_code 68 = .ok (.iinc 5 (-8), 3) := by decide +kernel
theorem jd_S_type_71 : decode prog_1_method_2_code 71 = .ok (.goto (-28), 3) := by decide +kernel
theorem jd_S_type_74 : decode prog_1_method_2_code 74 = .ok (.aload 4, 2) := by decide +kernel
theorem jd_S_type_76 : decode prog_1_method_2_code 76 = .ok (.getfield 48, 3) := by decide +kernel
theorem jd_S_type_79 : decode prog_1_method_2_code 79 = .ok (.ireturn, 1) := by decide +kernel
theorem jd_S_bufferOf_0 : decode prog_1_method_15_code 0 = .ok (.iload_n 1, 1) := by decide +kernel
theorem jd_S_bufferOf_1 : decode prog_1_method_15_code 1 = .ok (.ifCond .ne 8, 3) := by decide +kernel
theorem jd_S_bufferOf_4 : decode prog_1_method_15_code 4 = .ok (.aload_n 0, 1) := by decide +kernel
theorem jd_S_bufferOf_5 : decode prog_1_method_15_code 5 = .ok (.getfield 12, 3) := by decide +kernel
theorem jd_S_bufferOf_8 : decode prog_1_method_15_code 8 = .ok (.areturn, 1) := by decide +kernel
theorem jd_S_bufferOf_9 : decode prog_1_method_15_code 9 = .ok (.iload_n 1, 1) := by decide +kernel
theorem jd_S_bufferOf_10 : decode prog_1_method_15_code 10 = .ok (.iconst 1, 1) := by decide +kernel
theorem jd_S_bufferOf_11 : decode prog_1_method_15_code 11 = .ok (.if_icmp .ne 10, 3) := by decide +kernel
theorem jd_S_bufferOf_14 : decode prog_1_method_15_code 14 = .ok (.aload_n 0, 1) := by decide +kernel
theorem jd_S_bufferOf_15 : decode prog_1_method_15_code 15 = .ok (.getfield 16, 3) := by decide +kernel
theorem jd_S_bufferOf_18 : decode prog_1_method_15_code 18 = .ok (.goto 4, 3) := by decide +kernel
theorem jd_S_bufferOf_21 : decode prog_1_method_15_code 21 = .ok (.aconst_null, 1) := by decide +kernel
theorem jd_S_bufferOf_22 : decode prog_1_method_15_code 22 = .ok (.areturn, 1) := by decide +kernel
theorem jd_S_areSigns_0 : decode prog_1_method_21_code 0 = .ok (.bipush 56, 2) := by decide +kernel
theorem jd_S_areSigns_2 : decode prog_1_method_21_code 2 = .ok (.istore_n 2, 1) := by decide +kernel
theorem jd_S_areSigns_3 : decode prog_1_method_21_code 3 = .ok (.iload_n 2, 1) := by decide +kernel
theorem jd_S_areSigns_4 : decode prog_1_method_21_code 4 = .ok (.ifCond .lt 33, 3) := by decide +kernel
theorem jd_S_areSigns_7 : decode prog_1_method_21_code 7 = .ok (.lload_n 0, 1) := by decide +kernel
theorem jd_S_areSigns_8 : decode prog_1_method_21_code 8 = .ok (.iload_n 2, 1) := by decide +kernel
theorem jd_S_areSigns_9 : decode prog_1_method_21_code 9 = .ok (.invokestatic 56, 3) := by decide +kernel
theorem jd_S_areSigns_12 : decode prog_1_method_21_code 12 = .ok (.istore_n 3, 1) := by decide +kernel
theorem jd_S_areSigns_13 : decode prog_1_method_21_code 13 = .ok (.iload_n 3, 1) := by decide +kernel
theorem jd_S_areSigns_14 : decode prog_1_method_21_code 14 = .ok (.ifCond .eq 17, 3) := by decide +kernel
theorem jd_S_areSigns_17 : decode prog_1_method_21_code 17 = .ok (.iload_n 3, 1) := by decide +kernel
theorem jd_S_areSigns_18 : decode prog_1_method_21_code 18 = .ok (.bipush 33, 2) := by decide +kernel
theorem jd_S_areSigns_20 : decode prog_1_method_21_code 20 = .ok (.if_icmp .lt 9, 3) := by decide +kernel
theorem jd_S_areSigns_23 : decode prog_1_method_21_code 23 = .ok (.iload_n 3, 1) := by decide +kernel
theorem jd_S_areSigns_24 : decode prog_1_method_21_code 24 = .ok (.bipush 126, 2) := by decide +kernel
theorem jd_S_areSigns_26 : decode prog_1_method_21_code 26 = .ok (.if_icmp .le 5, 3) := by decide +kernel
theorem jd_S_areSigns_29 : decode prog_1_method_21_code 29 = .ok (.iconst 0, 1) := by decide +kernel
theorem jd_S_areSigns_30 : decode prog_1_method_21_code 30 = .ok (.ireturn, 1) := by decide +kernel
theorem jd_S_areSigns_31 : decode prog_1_method_21_code 31 = .ok (.iinc 2 (-8), 3) := by decide +kernel
theorem jd_S_areSigns_34 : decode prog_1_method_21_code 34 = .ok (.goto (-31), 3) := by decide +kernel
theorem jd_S_areSigns_37 : decode prog_1_method_21_code 37 = .ok (.iconst 1, 1) := by decide +kernel
theorem jd_S_areSigns_38 : decode prog_1_method_21_code 38 = .ok (.ireturn, 1) := by decide +kernel
theorem jd_S_byteOf_0 : decode prog_1_method_20_code 0 = .ok (.lload_n 0, 1) := by decide +kernel
theorem jd_S_byteOf_1 : decode prog_1_method_20_code 1 = .ok (.iload_n 2, 1) := by decide +kernel
theorem jd_S_byteOf_2 : decode prog_1_method_20_code 2 = .ok (.lushr, 1) := by decide +kernel
theorem jd_S_byteOf_3 : decode prog_1_method_20_code 3 = .ok (.l2i, 1) := by decide +kernel
theorem jd_S_byteOf_4 : decode prog_1_method_20_code 4 = .ok (.sipush 255, 3) := by decide +kernel
theorem jd_S_byteOf_7 : decode prog_1_method_20_code 7 = .ok (.iand, 1) := by decide +kernel
theorem jd_S_byteOf_8 : decode prog_1_method_20_code 8 = .ok (.ireturn, 1) := by decide +kernel
theorem jd_S_signsIn_0 : decode prog_1_method_22_code 0 = .ok (.iconst 0, 1) := by decide +kernel
theorem jd_S_signsIn_1 : decode prog_1_method_22_code 1 = .ok (.istore_n 2, 1) := by decide +kernel
theorem jd_S_signsIn_2 : decode prog_1_method_22_code 2 = .ok (.bipush 56, 2) := by decide +kernel
theorem jd_S_signsIn_4 : decode prog_1_method_22_code 4 = .ok (.istore_n 3, 1) := by decide +kernel
theorem jd_S_signsIn_5 : decode prog_1_method_22_code 5 = .ok (.iload_n 3, 1) := by decide +kernel
theorem jd_S_signsIn_6 : decode prog_1_method_22_code 6 = .ok (.ifCond .lt 20, 3) := by decide +kernel
theorem jd_S_signsIn_9 : decode prog_1_method_22_code 9 = .ok (.lload_n 0, 1) := by decide +kernel
theorem jd_S_signsIn_10 : decode prog_1_method_22_code 10 = .ok (.iload_n 3, 1) := by decide +kernel
theorem jd_S_signsIn_11 : decode prog_1_method_22_code 11 = .ok (.invokestatic 56, 3) := by decide +kernel
theorem jd_S_signsIn_14 : decode prog_1_method_22_code 14 = .ok (.ifCond .eq 6, 3) := by decide +kernel
theorem jd_S_signsIn_17 : decode prog_1_method_22_code 17 = .ok (.iinc 2 1, 3) := by decide +kernel
theorem jd_S_signsIn_20 : decode prog_1_method_22_code 20 = .ok (.iinc 3 (-8), 3) := by decide +kernel
theorem jd_S_signsIn_23 : decode prog_1_method_22_code 23 = .ok (.goto (-18), 3) := by decide +kernel
theorem jd_S_signsIn_26 : decode prog_1_method_22_code 26 = .ok (.iload_n 2, 1) := by decide +kernel
theorem jd_S_signsIn_27 : decode prog_1_method_22_code 27 = .ok (.ireturn, 1) := by decide +kernel
theorem jd_T_append_0 : decode prog_8_method_3_code 0 = .ok (.aload_n 0, 1) := by decide +kernel
theorem jd_T_append_1 : decode prog_8_method_3_code 1 = .ok (.getfield 15, 3) := by decide +kernel
theorem jd_T_append_4 : decode prog_8_method_3_code 4 = .ok (.bipush 24, 2) := by decide +kernel
theorem jd_T_append_6 : decode prog_8_method_3_code 6 = .ok (.if_icmp .ge 24, 3) := by decide +kernel
theorem jd_T_append_9 : decode prog_8_method_3_code 9 = .ok (.aload_n 0, 1) := by decide +kernel
theorem jd_T_append_10 : decode prog_8_method_3_code 10 = .ok (.getfield 9, 3) := by decide +kernel
theorem jd_T_append_13 : decode prog_8_method_3_code 13 = .ok (.aload_n 0, 1) := by decide +kernel
theorem jd_T_append_14 : decode prog_8_method_3_code 14 = .ok (.getfield 15, 3) := by decide +kernel
theorem jd_T_append_17 : decode prog_8_method_3_code 17 = .ok (.iload_n 1, 1) := by decide +kernel
theorem jd_T_append_18 : decode prog_8_method_3_code 18 = .ok (.i2b, 1) := by decide +kernel
theorem jd_T_append_19 : decode prog_8_method_3_code 19 = .ok (.bastore, 1) := by decide +kernel
theorem jd_T_append_20 : decode prog_8_method_3_code 20 = .ok (.aload_n 0, 1) := by decide +kernel
theorem jd_T_append_21 : decode prog_8_method_3_code 21 = .ok (.dup, 1) := by decide +kernel
theorem jd_T_append_22 : decode prog_8_method_3_code 22 = .ok (.getfield 15, 3) := by decide +kernel
theorem jd_T_append_25 : decode prog_8_method_3_code 25 = .ok (.iconst 1, 1) := by decide +kernel
theorem jd_T_append_26 : decode prog_8_method_3_code 26 = .ok (.iadd, 1) := by decide +kernel
theorem jd_T_append_27 : decode prog_8_method_3_code 27 = .ok (.putfield 15, 3) := by decide +kernel
theorem jd_T_append_30 : decode prog_8_method_3_code 30 = .ok (.return_, 1) := by decide +kernel
theorem jd_S_clear_0 : decode prog_1_method_3_code 0 = .ok (.aload_n 0, 1) := by decide +kernel
theorem jd_S_clear_1 : decode prog_1_method_3_code 1 = .ok (.iload_n 1, 1) := by decide +kernel
theorem jd_S_clear_2 : decode prog_1_method_3_code 2 = .ok (.invokevirtual 40, 3) := by decide +kernel
theorem jd_S_clear_5 : decode prog_1_method_3_code 5 = .ok (.astore_n 2, 1) := by decide +kernel
theorem jd_S_clear_6 : decode prog_1_method_3_code 6 = .ok (.aload_n 2, 1) := by decide +kernel
theorem jd_S_clear_7 : decode prog_1_method_3_code 7 = .ok (.ifnonnull 5, 3) := by decide +kernel
theorem jd_S_clear_10 : decode prog_1_method_3_code 10 = .ok (.iconst (-1), 1) := by decide +kernel
theorem jd_S_clear_11 : decode prog_1_method_3_code 11 = .ok (.ireturn, 1) := by decide +kernel
theorem jd_S_clear_12 : decode prog_1_method_3_code 12 = .ok (.aload_n 2, 1) := by decide +kernel
theorem jd_S_clear_13 : decode prog_1_method_3_code 13 = .ok (.getfield 48, 3) := by decide +kernel
theorem jd_S_clear_16 : decode prog_1_method_3_code 16 = .ok (.istore_n 3, 1) := by decide +kernel
theorem jd_S_clear_17 : decode prog_1_method_3_code 17 = .ok (.aload_n 2, 1) := by decide +kernel
theorem jd_S_clear_18 : decode prog_1_method_3_code 18 = .ok (.iconst 0, 1) := by decide +kernel
theorem jd_S_clear_19 : decode prog_1_method_3_code 19 = .ok (.putfield 48, 3) := by decide +kernel
theorem jd_S_clear_22 : decode prog_1_method_3_code 22 = .ok (.iload_n 3, 1) := by decide +kernel
theorem jd_S_clear_23 : decode prog_1_method_3_code 23 = .ok (.ireturn, 1) := by decide +kernel
theorem jd_S_define_0 : decode prog_1_method_4_code 0 = .ok (.iload_n 1, 1) := by decide +kernel
theorem jd_S_define_1 : decode prog_1_method_4_code 1 = .ok (.ifCond .lt 8, 3) := by decide +kernel
theorem jd_S_define_4 : decode prog_1_method_4_code 4 = .ok (.iload_n 1, 1) := by decide +kernel
theorem jd_S_define_5 : decode prog_1_method_4_code 5 = .ok (.iconst 4, 1) := by decide +kernel
theorem jd_S_define_6 : decode prog_1_method_4_code 6 = .ok (.if_icmp .lt 5, 3) := by decide +kernel
theorem jd_S_define_9 : decode prog_1_method_4_code 9 = .ok (.iconst (-1), 1) := by decide +kernel
theorem jd_S_define_10 : decode prog_1_method_4_code 10 = .ok (.ireturn, 1) := by decide +kernel
theorem jd_S_define_11 : decode prog_1_method_4_code 11 = .ok (.aload_n 0, 1) := by decide +kernel
theorem jd_S_define_12 : decode prog_1_method_4_code 12 = .ok (.getfield 12, 3) := by decide +kernel
theorem jd_S_define_15 : decode prog_1_method_4_code 15 = .ok (.getfield 48, 3) := by decide +kernel
theorem jd_S_define_18 : decode prog_1_method_4_code 18 = .ok (.ifCond .ne 6, 3) := by decide +kernel
theorem jd_S_define_21 : decode prog_1_method_4_code 21 = .ok (.bipush (-2), 2) := by decide +kernel
theorem jd_S_define_23 : decode prog_1_method_4_code 23 = .ok (.ireturn, 1) := by decide +kernel
theorem jd_S_define_24 : decode prog_1_method_4_code 24 = .ok (.aload_n 0, 1) := by decide +kernel
theorem jd_S_define_25 : decode prog_1_method_4_code 25 = .ok (.getfield 21, 3) := by decide +kernel
theorem jd_S_define_28 : decode prog_1_method_4_code 28 = .ok (.iload_n 1, 1) := by decide +kernel
theorem jd_S_define_29 : decode prog_1_method_4_code 29 = .ok (.aaload, 1) := by decide +kernel
theorem jd_S_define_30 : decode prog_1_method_4_code 30 = .ok (.aload_n 0, 1) := by decide +kernel
theorem jd_S_define_31 : decode prog_1_method_4_code 31 = .ok (.getfield 12, 3) := by decide +kernel
theorem jd_S_define_34 : decode prog_1_method_4_code 34 = .ok (.iload_n 2, 1) := by decide +kernel
theorem jd_S_define_35 : decode prog_1_method_4_code 35 = .ok (.ldc 64, 2) := by decide +kernel
theorem jd_S_define_37 : decode prog_1_method_4_code 37 = .ok (.iand, 1) := by decide +kernel
theorem jd_S_define_38 : decode prog_1_method_4_code 38 = .ok (.invokevirtual 65, 3) := by decide +kernel
theorem jd_S_define_41 : decode prog_1_method_4_code 41 = .ok (.iconst 0, 1) := by decide +kernel
theorem jd_S_define_42 : decode prog_1_method_4_code 42 = .ok (.ireturn, 1) := by decide +kernel
theorem jd_D_begin_0 : decode prog_2_method_2_code 0 = .ok (.aload_n 0, 1) := by decide +kernel
theorem jd_D_begin_1 : decode prog_2_method_2_code 1 = .ok (.iconst 1, 1) := by decide +kernel
theorem jd_D_begin_2 : decode prog_2_method_2_code 2 = .ok (.putfield 9, 3) := by decide +kernel
theorem jd_D_begin_5 : decode prog_2_method_2_code 5 = .ok (.aload_n 0, 1) := by decide +kernel
theorem jd_D_begin_6 : decode prog_2_method_2_code 6 = .ok (.getfield 18, 3) := by decide +kernel
theorem jd_D_begin_9 : decode prog_2_method_2_code 9 = .ok (.aload_n 1, 1) := by decide +kernel
theorem jd_D_begin_10 : decode prog_2_method_2_code 10 = .ok (.invokevirtual 45, 3) := by decide +kernel
theorem jd_D_begin_13 : decode prog_2_method_2_code 13 = .ok (.aload_n 0, 1) := by decide +kernel
theorem jd_D_begin_14 : decode prog_2_method_2_code 14 = .ok (.iload_n 2, 1) := by decide +kernel
theorem jd_D_begin_15 : decode prog_2_method_2_code 15 = .ok (.putfield 22, 3) := by decide +kernel
theorem jd_D_begin_18 : decode prog_2_method_2_code 18 = .ok (.aload_n 0, 1) := by decide +kernel
theorem jd_D_begin_19 : decode prog_2_method_2_code 19 = .ok (.getfield 31, 3) := by decide +kernel
theorem jd_D_begin_22 : decode prog_2_method_2_code 22 = .ok (.iconst 0, 1) := by decide +kernel
theorem jd_D_begin_23 : decode prog_2_method_2_code 23 = .ok (.putfield 49, 3) := by decide +kernel
theorem jd_D_begin_26 : decode prog_2_method_2_code 26 = .ok (.aload_n 0, 1) := by decide +kernel
theorem jd_D_begin_27 : decode prog_2_method_2_code 27 = .ok (.getfield 35, 3) := by decide +kernel
theorem jd_D_begin_30 : decode prog_2_method_2_code 30 = .ok (.iconst 0, 1) := by decide +kernel
theorem jd_D_begin_31 : decode prog_2_method_2_code 31 = .ok (.putfield 49, 3) := by decide +kernel
theorem jd_D_begin_34 : decode prog_2_method_2_code 34 = .ok (.aload_n 0, 1) := by decide +kernel
theorem jd_D_begin_35 : decode prog_2_method_2_code 35 = .ok (.iconst 0, 1) := by decide +kernel
theorem jd_D_begin_36 : decode prog_2_method_2_code 36 = .ok (.putfield 38, 3) := by decide +kernel
theorem jd_D_begin_39 : decode prog_2_method_2_code 39 = .ok (.return_, 1) := by decide +kernel
theorem jd_T_become_0 : decode prog_8_method_4_code 0 = .ok (.aload_n 1, 1) := by decide +kernel
theorem jd_T_become_1 : decode prog_8_method_4_code 1 = .ok (.getfield 9, 3) := by decide +kernel
theorem jd_T_become_4 : decode prog_8_method_4_code 4 = .ok (.iconst 0, 1) := by decide +kernel
theorem jd_T_become_5 : decode prog_8_method_4_code 5 = .ok (.aload_n 0, 1) := by decide +kernel
theorem jd_T_become_6 : decode prog_8_method_4_code 6 = .ok (.getfield 9, 3) := by decide +kernel
theorem jd_T_become_9 : decode prog_8_method_4_code 9 = .ok (.iconst 0, 1) := by decide +kernel
theorem jd_T_become_10 : decode prog_8_method_4_code 10 = .ok (.aload_n 1, 1) := by decide +kernel
theorem jd_T_become_11 : decode prog_8_method_4_code 11 = .ok (.getfield 15, 3) := by decide +kernel
theorem jd_T_become_14 : decode prog_8_method_4_code 14 = .ok (.invokestatic 19, 3) := by decide +kernel
theorem jd_T_become_17 : decode prog_8_method_4_code 17 = .ok (.aload_n 0, 1) := by decide +kernel
theorem jd_T_become_18 : decode prog_8_method_4_code 18 = .ok (.aload_n 1, 1) := by decide +kernel
theorem jd_T_become_19 : decode prog_8_method_4_code 19 = .ok (.getfield 15, 3) := by decide +kernel
theorem jd_T_become_22 : decode prog_8_method_4_code 22 = .ok (.putfield 15, 3) := by decide +kernel
theorem jd_T_become_25 : decode prog_8_method_4_code 25 = .ok (.return_, 1) := by decide +kernel
theorem jd_S_face_0 : decode prog_1_method_5_code 0 = .ok (.aload_n 0, 1) := by decide +kernel
theorem jd_S_face_1 : decode prog_1_method_5_code 1 = .ok (.iload_n 1, 1) := by decide +kernel
theorem jd_S_face_2 : decode prog_1_method_5_code 2 = .ok (.invokevirtual 69, 3) := by decide +kernel
theorem jd_S_face_5 : decode prog_1_method_5_code 5 = .ok (.astore_n 2, 1) := by decide +kernel
theorem jd_S_face_6 : decode prog_1_method_5_code 6 = .ok (.aload_n 2, 1) := by decide +kernel
theorem jd_S_face_7 : decode prog_1_method_5_code 7 = .ok (.ifnonnull 5, 3) := by decide +kernel
theorem jd_S_face_10 : decode prog_1_method_5_code 10 = .ok (.iconst (-1), 1) := by decide +kernel
theorem jd_S_face_11 : decode prog_1_method_5_code 11 = .ok (.ireturn, 1) := by decide +kernel
theorem jd_S_face_12 : decode prog_1_method_5_code 12 = .ok (.aload_n 0, 1) := by decide +kernel
theorem jd_S_face_13 : decode prog_1_method_5_code 13 = .ok (.getfield 12, 3) := by decide +kernel
theorem jd_S_face_16 : decode prog_1_method_5_code 16 = .ok (.getfield 48, 3) := by decide +kernel
theorem jd_S_face_19 : decode prog_1_method_5_code 19 = .ok (.ifCond .ne 6, 3) := by decide +kernel
theorem jd_S_face_22 : decode prog_1_method_5_code 22 = .ok (.bipush (-2), 2) := by decide +kernel
theorem jd_S_face_24 : decode prog_1_method_5_code 24 = .ok (.ireturn, 1) := by decide +kernel
theorem jd_S_face_25 : decode prog_1_method_5_code 25 = .ok (.aload_n 2, 1) := by decide +kernel
theorem jd_S_face_26 : decode prog_1_method_5_code 26 = .ok (.getfield 73, 3) := by decide +kernel
theorem jd_S_face_29 : decode prog_1_method_5_code 29 = .ok (.iconst 4, 1) := by decide +kernel
theorem jd_S_face_30 : decode prog_1_method_5_code 30 = .ok (.iconst 0, 1) := by decide +kernel
theorem jd_S_face_31 : decode prog_1_method_5_code 31 = .ok (.aload_n 0, 1) := by decide +kernel
theorem jd_S_face_32 : decode prog_1_method_5_code 32 = .ok (.getfield 12, 3) := by decide +kernel
theorem jd_S_face_35 : decode prog_1_method_5_code 35 = .ok (.aload_n 0, 1) := by decide +kernel
theorem jd_S_face_36 : decode prog_1_method_5_code 36 = .ok (.getfield 16, 3) := by decide +kernel
theorem jd_S_face_39 : decode prog_1_method_5_code 39 = .ok (.invokevirtual 77, 3) := by decide +kernel
theorem jd_S_face_42 : decode prog_1_method_5_code 42 = .ok (.ireturn, 1) := by decide +kernel
theorem jd_S_declarationOf_0 : decode prog_1_method_16_code 0 = .ok (.iload_n 1, 1) := by decide +kernel
theorem jd_S_declarationOf_1 : decode prog_1_method_16_code 1 = .ok (.ifCond .lt 20, 3) := by decide +kernel
theorem jd_S_declarationOf_4 : decode prog_1_method_16_code 4 = .ok (.iload_n 1, 1) := by decide +kernel
theorem jd_S_declarationOf_5 : decode prog_1_method_16_code 5 = .ok (.iconst 4, 1) := by decide +kernel
theorem jd_S_declarationOf_6 : decode prog_1_method_16_code 6 = .ok (.if_icmp .ge 15, 3) := by decide +kernel
theorem jd_S_declarationOf_9 : decode prog_1_method_16_code 9 = .ok (.aload_n 0, 1) := by decide +kernel
theorem jd_S_declarationOf_10 : decode prog_1_method_16_code 10 = .ok (.getfield 21, 3) := by decide +kernel
theorem jd_S_declarationOf_13 : decode prog_1_method_16_code 13 = .ok (.iload_n 1, 1) := by decide +kernel
theorem jd_S_declarationOf_14 : decode prog_1_method_16_code 14 = .ok (.aaload, 1) := by decide +kernel
theorem jd_S_declarationOf_15 : decode prog_1_method_16_code 15 = .ok (.getfield 143, 3) := by decide +kernel
theorem jd_S_declarationOf_18 : decode prog_1_method_16_code 18 = .ok (.ifCond .ne 5, 3) := by decide +kernel
theorem jd_S_declarationOf_21 : decode prog_1_method_16_code 21 = .ok (.aconst_null, 1) := by decide +kernel
theorem jd_S_declarationOf_22 : decode prog_1_method_16_code 22 = .ok (.areturn, 1) := by decide +kernel
theorem jd_S_declarationOf_23 : decode prog_1_method_16_code 23 = .ok (.aload_n 0, 1) := by decide +kernel
theorem jd_S_declarationOf_24 : decode prog_1_method_16_code 24 = .ok (.getfield 21, 3) := by decide +kernel
theorem jd_S_declarationOf_27 : decode prog_1_method_16_code 27 = .ok (.iload_n 1, 1) := by decide +kernel
theorem jd_S_declarationOf_28 : decode prog_1_method_16_code 28 = .ok (.aaload, 1) := by decide +kernel
theorem jd_S_declarationOf_29 : decode prog_1_method_16_code 29 = .ok (.areturn, 1) := by decide +kernel
theorem jd_R_enter_0 : decode prog_6_method_2_code 0 = .ok (.aload_n 0, 1) := by decide +kernel
theorem jd_R_enter_1 : decode prog_6_method_2_code 1 = .ok (.iload_n 1, 1) := by decide +kernel
theorem jd_R_enter_2 : decode prog_6_method_2_code 2 = .ok (.aload_n 3, 1) := by decide +kernel
theorem jd_R_enter_3 : decode prog_6_method_2_code 3 = .ok (.aload 4, 2) := by decide +kernel
theorem jd_R_enter_5 : decode prog_6_method_2_code 5 = .ok (.invokevirtual 22, 3) := by decide +kernel
theorem jd_R_enter_8 : decode prog_6_method_2_code 8 = .ok (.istore 5, 2) := by decide +kernel
theorem jd_R_enter_10 : decode prog_6_method_2_code 10 = .ok (.aload_n 0, 1) := by decide +kernel
theorem jd_R_enter_11 : decode prog_6_method_2_code 11 = .ok (.iload 5, 2) := by decide +kernel
theorem jd_R_enter_13 : decode prog_6_method_2_code 13 = .ok (.iload_n 1, 1) := by decide +kernel
theorem jd_R_enter_14 : decode prog_6_method_2_code 14 = .ok (.aload_n 3, 1) := by decide +kernel
theorem jd_R_enter_15 : decode prog_6_method_2_code 15 = .ok (.aload 4, 2) := by decide +kernel
theorem jd_R_enter_17 : decode prog_6_method_2_code 17 = .ok (.invokevirtual 26, 3) := by decide +kernel
theorem jd_R_enter_20 : decode prog_6_method_2_code 20 = .ok (.ifCond .eq 6, 3) := by decide +kernel
theorem jd_R_enter_23 : decode prog_6_method_2_code 23 = .ok (.bipush (-3), 2) := by decide +kernel
theorem jd_R_enter_25 : decode prog_6_method_2_code 25 = .ok (.ireturn, 1) := by decide +kernel
theorem jd_R_enter_26 : decode prog_6_method_2_code 26 = .ok (.aload_n 0, 1) := by decide +kernel
theorem jd_R_enter_27 : decode prog_6_method_2_code 27 = .ok (.getfield 9, 3) := by decide +kernel
theorem jd_R_enter_30 : decode prog_6_method_2_code 30 = .ok (.aload_n 0, 1) := by decide +kernel
theorem jd_R_enter_31 : decode prog_6_method_2_code 31 = .ok (.getfield 17, 3) := by decide +kernel
theorem jd_R_enter_34 : decode prog_6_method_2_code 34 = .ok (.arraylength, 1) := by decide +kernel
theorem jd_R_enter_35 : decode prog_6_method_2_code 35 = .ok (.if_icmp .lt 6, 3) := by decide +kernel
theorem jd_R_enter_38 : decode prog_6_method_2_code 38 = .ok (.bipush (-4), 2) := by decide +kernel
theorem jd_R_enter_40 : decode prog_6_method_2_code 40 = .ok (.ireturn, 1) := by decide +kernel
theorem jd_R_enter_41 : decode prog_6_method_2_code 41 = .ok (.aload_n 0, 1) := by decide +kernel
theorem jd_R_enter_42 : decode prog_6_method_2_code 42 = .ok (.getfield 17, 3) := by decide +kernel
theorem jd_R_enter_45 : decode prog_6_method_2_code 45 = .ok (.aload_n 0, 1) := by decide +kernel
theorem jd_R_enter_46 : decode prog_6_method_2_code 46 = .ok (.getfield 9, 3) := by decide +kernel
theorem jd_R_enter_49 : decode prog_6_method_2_code 49 = .ok (.aaload, 1) := by decide +kernel
theorem jd_R_enter_50 : decode prog_6_method_2_code 50 = .ok (.astore 6, 2) := by decide +kernel
theorem jd_R_enter_52 : decode prog_6_method_2_code 52 = .ok (.aload_n 0, 1) := by decide +kernel
theorem jd_R_enter_53 : decode prog_6_method_2_code 53 = .ok (.getfield 9, 3) := by decide +kernel
theorem jd_R_enter_56 : decode prog_6_method_2_code 56 = .ok (.istore 7, 2) := by decide +kernel
theorem jd_R_enter_58 : decode prog_6_method_2_code 58 = .ok (.iload 7, 2) := by decide +kernel
theorem jd_R_enter_60 : decode prog_6_method_2_code 60 = .ok (.iload 5, 2) := by decide +kernel
theorem jd_R_enter_62 : decode prog_6_method_2_code 62 = .ok (.if_icmp .le 25, 3) := by decide +kernel
theorem jd_R_enter_65 : decode prog_6_method_2_code 65 = .ok (.aload_n 0, 1) := by decide +kernel
theorem jd_R_enter_66 : decode prog_6_method_2_code 66 = .ok (.getfield 17, 3) := by decide +kernel
theorem jd_R_enter_69 : decode prog_6_method_2_code 69 = .ok (.iload 7, 2) := by decide +kernel
theorem jd_R_enter_71 : decode prog_6_method_2_code 71 = .ok (.aload_n 0, 1) := by decide +kernel
theorem jd_R_enter_72 : decode prog_6_method_2_code 72 = .ok (.getfield 17, 3) := by decide +kernel
theorem jd_R_enter_75 : decode prog_6_method_2_code 75 = .ok (.iload 7, 2) := by decide +kernel
theorem jd_R_enter_77 : decode prog_6_method_2_code 77 = .ok (.iconst 1, 1) := by decide +kernel
theorem jd_R_enter_78 : decode prog_6_method_2_code 78 = .ok (.isub, 1) := by decide +kernel
theorem jd_R_enter_79 : decode prog_6_method_2_code 79 = .ok (.aaload, 1) := by decide +kernel
theorem jd_R_enter_80 : decode prog_6_method_2_code 80 = .ok (.aastore, 1) := by decide +kernel
theorem jd_R_enter_81 : decode prog_6_method_2_code 81 = .ok (.iinc 7 (-1), 3) := by decide +kernel
theorem jd_R_enter_84 : decode prog_6_method_2_code 84 = .ok (.goto (-26), 3) := by decide +kernel
theorem jd_R_enter_87 : decode prog_6_method_2_code 87 = .ok (.aload 6, 2) := by decide +kernel
theorem jd_R_enter_89 : decode prog_6_method_2_code 89 = .ok (.iload_n 1, 1) := by decide +kernel
theorem jd_R_enter_90 : decode prog_6_method_2_code 90 = .ok (.iload_n 2, 1) := by decide +kernel
theorem jd_R_enter_91 : decode prog_6_method_2_code 91 = .ok (.aload_n 3, 1) := by decide +kernel
theorem jd_R_enter_92 : decode prog_6_method_2_code 92 = .ok (.aload 4, 2) := by decide +kernel
theorem jd_R_enter_94 : decode prog_6_method_2_code 94 = .ok (.invokevirtual 30, 3) := by decide +kernel
theorem jd_R_enter_97 : decode prog_6_method_2_code 97 = .ok (.aload_n 0, 1) := by decide +kernel
theorem jd_R_enter_98 : decode prog_6_method_2_code 98 = .ok (.getfield 17, 3) := by decide +kernel
theorem jd_R_enter_101 : decode prog_6_method_2_code 101 = .ok (.iload 5, 2) := by decide +kernel
theorem jd_R_enter_103 : decode prog_6_method_2_code 103 = .ok (.aload 6, 2) := by decide +kernel
theorem jd_R_enter_105 : decode prog_6_method_2_code 105 = .ok (.aastore, 1) := by decide +kernel
theorem jd_R_enter_106 : decode prog_6_method_2_code 106 = .ok (.aload_n 0, 1) := by decide +kernel
theorem jd_R_enter_107 : decode prog_6_method_2_code 107 = .ok (.dup, 1) := by decide +kernel
theorem jd_R_enter_108 : decode prog_6_method_2_code 108 = .ok (.getfield 9, 3) := by decide +kernel
theorem jd_R_enter_111 : decode prog_6_method_2_code 111 = .ok (.iconst 1, 1) := by decide +kernel
theorem jd_R_enter_112 : decode prog_6_method_2_code 112 = .ok (.iadd, 1) := by decide +kernel
theorem jd_R_enter_113 : decode prog_6_method_2_code 113 = .ok (.putfield 9, 3) := by decide +kernel
theorem jd_R_enter_116 : decode prog_6_method_2_code 116 = .ok (.aload_n 0, 1) := by decide +kernel
theorem jd_R_enter_117 : decode prog_6_method_2_code 117 = .ok (.getfield 9, 3) := by decide +kernel
theorem jd_R_enter_120 : decode prog_6_method_2_code 120 = .ok (.ireturn, 1) := by decide +kernel
theorem jd_R_placeOf_0 : decode prog_6_method_5_code 0 = .ok (.iconst 0, 1) := by decide +kernel
theorem jd_R_placeOf_1 : decode prog_6_method_5_code 1 = .ok (.istore 4, 2) := by decide +kernel
theorem jd_R_placeOf_3 : decode prog_6_method_5_code 3 = .ok (.iload 4, 2) := by decide +kernel
theorem jd_R_placeOf_5 : decode prog_6_method_5_code 5 = .ok (.aload_n 0, 1) := by decide +kernel
theorem jd_R_placeOf_6 : decode prog_6_method_5_code 6 = .ok (.getfield 9, 3) := by decide +kernel
theorem jd_R_placeOf_9 : decode prog_6_method_5_code 9 = .ok (.if_icmp .ge 25, 3) := by decide +kernel
theorem jd_R_placeOf_12 : decode prog_6_method_5_code 12 = .ok (.aload_n 0, 1) := by decide +kernel
theorem jd_R_placeOf_13 : decode prog_6_method_5_code 13 = .ok (.getfield 17, 3) := by decide +kernel
theorem jd_R_placeOf_16 : decode prog_6_method_5_code 16 = .ok (.iload 4, 2) := by decide +kernel
theorem jd_R_placeOf_18 : decode prog_6_method_5_code 18 = .ok (.aaload, 1) := by decide +kernel
theorem jd_R_placeOf_19 : decode prog_6_method_5_code 19 = .ok (.iload_n 1, 1) := by decide +kernel
theorem jd_R_placeOf_20 : decode prog_6_method_5_code 20 = .ok (.aload_n 2, 1) := by decide +kernel
theorem jd_R_placeOf_21 : decode prog_6_method_5_code 21 = .ok (.aload_n 3, 1) := by decide +kernel
theorem jd_R_placeOf_22 : decode prog_6_method_5_code 22 = .ok (.invokevirtual 37, 3) := by decide +kernel
theorem jd_R_placeOf_25 : decode prog_6_method_5_code 25 = .ok (.ifCond .ge 9, 3) := by decide +kernel
theorem jd_R_placeOf_28 : decode prog_6_method_5_code 28 = .ok (.iinc 4 1, 3) := by decide +kernel
theorem jd_R_placeOf_31 : decode prog_6_method_5_code 31 = .ok (.goto (-28), 3) := by decide +kernel
theorem jd_R_placeOf_34 : decode prog_6_method_5_code 34 = .ok (.iload 4, 2) := by decide +kernel
theorem jd_R_placeOf_36 : decode prog_6_method_5_code 36 = .ok (.ireturn, 1) := by decide +kernel
theorem jd_E_compareWith_0 : decode prog_4_method_3_code 0 = .ok (.aload_n 0, 1) := by decide +kernel
theorem jd_E_compareWith_1 : decode prog_4_method_3_code 1 = .ok (.getfield 9, 3) := by decide +kernel
theorem jd_E_compareWith_4 : decode prog_4_method_3_code 4 = .ok (.iload_n 1, 1) := by decide +kernel
theorem jd_E_compareWith_5 : decode prog_4_method_3_code 5 = .ok (.if_icmp .eq 10, 3) := by decide +kernel
theorem jd_E_compareWith_8 : decode prog_4_method_3_code 8 = .ok (.aload_n 0, 1) := by decide +kernel
theorem jd_E_compareWith_9 : decode prog_4_method_3_code 9 = .ok (.getfield 9, 3) := by decide +kernel
theorem jd_E_compareWith_12 : decode prog_4_method_3_code 12 = .ok (.iload_n 1, 1) := by decide +kernel
theorem jd_E_compareWith_13 : decode prog_4_method_3_code 13 = .ok (.isub, 1) := by decide +kernel
theorem jd_E_compareWith_14 : decode prog_4_method_3_code 14 = .ok (.ireturn, 1) := by decide +kernel
theorem jd_E_compareWith_15 : decode prog_4_method_3_code 15 = .ok (.aload_n 0, 1) := by decide +kernel
theorem jd_E_compareWith_16 : decode prog_4_method_3_code 16 = .ok (.getfield 9, 3) := by decide +kernel
theorem jd_E_compareWith_19 : decode prog_4_method_3_code 19 = .ok (.tableswitch 65 1 3 #[25, 34, 63], 25) := by decide +kernel
theorem jd_E_compareWith_44 : decode prog_4_method_3_code 44 = .ok (.aload_n 0, 1) := by decide +kernel
theorem jd_E_compareWith_45 : decode prog_4_method_3_code 45 = .ok (.getfield 25, 3) := by decide +kernel
theorem jd_E_compareWith_48 : decode prog_4_method_3_code 48 = .ok (.aload_n 3, 1) := by decide +kernel
theorem jd_E_compareWith_49 : decode prog_4_method_3_code 49 = .ok (.invokevirtual 32, 3) := by decide +kernel
theorem jd_E_compareWith_52 : decode prog_4_method_3_code 52 = .ok (.ireturn, 1) := by decide +kernel
theorem jd_E_compareWith_53 : decode prog_4_method_3_code 53 = .ok (.aload_n 0, 1) := by decide +kernel
theorem jd_E_compareWith_54 : decode prog_4_method_3_code 54 = .ok (.getfield 21, 3) := by decide +kernel
theorem jd_E_compareWith_57 : decode prog_4_method_3_code 57 = .ok (.aload_n 2, 1) := by decide +kernel
theorem jd_E_compareWith_58 : decode prog_4_method_3_code 58 = .ok (.invokevirtual 32, 3) := by decide +kernel
theorem jd_E_compareWith_61 : decode prog_4_method_3_code 61 = .ok (.istore 4, 2) := by decide +kernel
theorem jd_E_compareWith_63 : decode prog_4_method_3_code 63 = .ok (.iload 4, 2) := by decide +kernel
theorem jd_E_compareWith_65 : decode prog_4_method_3_code 65 = .ok (.ifCond .eq 8, 3) := by decide +kernel
theorem jd_E_compareWith_68 : decode prog_4_method_3_code 68 = .ok (.iload 4, 2) := by decide +kernel
theorem jd_E_compareWith_70 : decode prog_4_method_3_code 70 = .ok (.goto 11, 3) := by decide +kernel
theorem jd_E_compareWith_73 : decode prog_4_method_3_code 73 = .ok (.aload_n 0, 1) := by decide +kernel
theorem jd_E_compareWith_74 : decode prog_4_method_3_code 74 = .ok (.getfield 25, 3) := by decide +kernel
theorem jd_E_compareWith_77 : decode prog_4_method_3_code 77 = .ok (.aload_n 3, 1) := by decide +kernel
theorem jd_E_compareWith_78 : decode prog_4_method_3_code 78 = .ok (.invokevirtual 32, 3) := by decide +kernel
theorem jd_E_compareWith_81 : decode prog_4_method_3_code 81 = .ok (.ireturn, 1) := by decide +kernel
theorem jd_E_compareWith_82 : decode prog_4_method_3_code 82 = .ok (.iconst 0, 1) := by decide +kernel
theorem jd_E_compareWith_83 : decode prog_4_method_3_code 83 = .ok (.ireturn, 1) := by decide +kernel
theorem jd_E_compareWith_84 : decode prog_4_method_3_code 84 = .ok (.aload_n 0, 1) := by decide +kernel
theorem jd_E_compareWith_85 : decode prog_4_method_3_code 85 = .ok (.getfield 21, 3) := by decide +kernel
theorem jd_E_compareWith_88 : decode prog_4_method_3_code 88 = .ok (.aload_n 2, 1) := by decide +kernel
theorem jd_E_compareWith_89 : decode prog_4_method_3_code 89 = .ok (.invokevirtual 32, 3) := by decide +kernel
theorem jd_E_compareWith_92 : decode prog_4_method_3_code 92 = .ok (.ireturn, 1) := by decide +kernel
theorem jd_T_compareWith_0 : decode prog_8_method_5_code 0 = .ok (.aload_n 0, 1) := by decide +kernel
theorem jd_T_compareWith_1 : decode prog_8_method_5_code 1 = .ok (.getfield 15, 3) := by decide +kernel
theorem jd_T_compareWith_4 : decode prog_8_method_5_code 4 = .ok (.aload_n 1, 1) := by decide +kernel
theorem jd_T_compareWith_5 : decode prog_8_method_5_code 5 = .ok (.getfield 15, 3) := by decide +kernel
theorem jd_T_compareWith_8 : decode prog_8_method_5_code 8 = .ok (.invokestatic 25, 3) := by decide +kernel
theorem jd_T_compareWith_11 : decode prog_8_method_5_code 11 = .ok (.istore_n 2, 1) := by decide +kernel
theorem jd_T_compareWith_12 : decode prog_8_method_5_code 12 = .ok (.iconst 0, 1) := by decide +kernel
theorem jd_T_compareWith_13 : decode prog_8_method_5_code 13 = .ok (.istore_n 3, 1) := by decide +kernel
theorem jd_T_compareWith_14 : decode prog_8_method_5_code 14 = .ok (.iload_n 3, 1) := by decide +kernel
theorem jd_T_compareWith_15 : decode prog_8_method_5_code 15 = .ok (.iload_n 2, 1) := by decide +kernel
theorem jd_T_compareWith_16 : decode prog_8_method_5_code 16 = .ok (.if_icmp .ge 38, 3) := by decide +kernel
theorem jd_T_compareWith_19 : decode prog_8_method_5_code 19 = .ok (.aload_n 0, 1) := by decide +kernel
theorem jd_T_compareWith_20 : decode prog_8_method_5_code 20 = .ok (.getfield 9, 3) := by decide +kernel
theorem jd_T_compareWith_23 : decode prog_8_method_5_code 23 = .ok (.iload_n 3, 1) := by decide +kernel
theorem jd_T_compareWith_24 : decode prog_8_method_5_code 24 = .ok (.baload, 1) := by decide +kernel
theorem jd_T_compareWith_25 : decode prog_8_method_5_code 25 = .ok (.aload_n 1, 1) := by decide +kernel
theorem jd_T_compareWith_26 : decode prog_8_method_5_code 26 = .ok (.getfield 9, 3) := by decide +kernel
theorem jd_T_compareWith_29 : decode prog_8_method_5_code 29 = .ok (.iload_n 3, 1) := by decide +kernel
theorem jd_T_compareWith_30 : decode prog_8_method_5_code 30 = .ok (.baload, 1) := by decide +kernel
theorem jd_T_compareWith_31 : decode prog_8_method_5_code 31 = .ok (.if_icmp .eq 17, 3) := by decide +kernel
theorem jd_T_compareWith_34 : decode prog_8_method_5_code 34 = .ok (.aload_n 0, 1) := by decide +kernel
theorem jd_T_compareWith_35 : decode prog_8_method_5_code 35 = .ok (.getfield 9, 3) := by decide +kernel
theorem jd_T_compareWith_38 : decode prog_8_method_5_code 38 = .ok (.iload_n 3, 1) := by decide +kernel
theorem jd_T_compareWith_39 : decode prog_8_method_5_code 39 = .ok (.baload, 1) := by decide +kernel
theorem jd_T_compareWith_40 : decode prog_8_method_5_code 40 = .ok (.aload_n 1, 1) := by decide +kernel
theorem jd_T_compareWith_41 : decode prog_8_method_5_code 41 = .ok (.getfield 9, 3) := by decide +kernel
theorem jd_T_compareWith_44 : decode prog_8_method_5_code 44 = .ok (.iload_n 3, 1) := by decide +kernel
theorem jd_T_compareWith_45 : decode prog_8_method_5_code 45 = .ok (.baload, 1) := by decide +kernel
theorem jd_T_compareWith_46 : decode prog_8_method_5_code 46 = .ok (.isub, 1) := by decide +kernel
theorem jd_T_compareWith_47 : decode prog_8_method_5_code 47 = .ok (.ireturn, 1) := by decide +kernel
theorem jd_T_compareWith_48 : decode prog_8_method_5_code 48 = .ok (.iinc 3 1, 3) := by decide +kernel
theorem jd_T_compareWith_51 : decode prog_8_method_5_code 51 = .ok (.goto (-37), 3) := by decide +kernel
theorem jd_T_compareWith_54 : decode prog_8_method_5_code 54 = .ok (.aload_n 0, 1) := by decide +kernel
theorem jd_T_compareWith_55 : decode prog_8_method_5_code 55 = .ok (.getfield 15, 3) := by decide +kernel
theorem jd_T_compareWith_58 : decode prog_8_method_5_code 58 = .ok (.aload_n 1, 1) := by decide +kernel
theorem jd_T_compareWith_59 : decode prog_8_method_5_code 59 = .ok (.getfield 15, 3) := by decide +kernel
theorem jd_T_compareWith_62 : decode prog_8_method_5_code 62 = .ok (.isub, 1) := by decide +kernel
theorem jd_T_compareWith_63 : decode prog_8_method_5_code 63 = .ok (.ireturn, 1) := by decide +kernel
theorem jd_R_isAt_0 : decode prog_6_method_6_code 0 = .ok (.iload_n 1, 1) := by decide +kernel
theorem jd_R_isAt_1 : decode prog_6_method_6_code 1 = .ok (.aload_n 0, 1) := by decide +kernel
theorem jd_R_isAt_2 : decode prog_6_method_6_code 2 = .ok (.getfield 9, 3) := by decide +kernel
theorem jd_R_isAt_5 : decode prog_6_method_6_code 5 = .ok (.if_icmp .ge 23, 3) := by decide +kernel
theorem jd_R_isAt_8 : decode prog_6_method_6_code 8 = .ok (.aload_n 0, 1) := by decide +kernel
theorem jd_R_isAt_9 : decode prog_6_method_6_code 9 = .ok (.getfield 17, 3) := by decide +kernel
theorem jd_R_isAt_12 : decode prog_6_method_6_code 12 = .ok (.iload_n 1, 1) := by decide +kernel
theorem jd_R_isAt_13 : decode prog_6_method_6_code 13 = .ok (.aaload, 1) := by decide +kernel
theorem jd_R_isAt_14 : decode prog_6_method_6_code 14 = .ok (.iload_n 2, 1) := by decide +kernel
theorem jd_R_isAt_15 : decode prog_6_method_6_code 15 = .ok (.aload_n 3, 1) := by decide +kernel
theorem jd_R_isAt_16 : decode prog_6_method_6_code 16 = .ok (.aload 4, 2) := by decide +kernel
theorem jd_R_isAt_18 : decode prog_6_method_6_code 18 = .ok (.invokevirtual 37, 3) := by decide +kernel
theorem jd_R_isAt_21 : decode prog_6_method_6_code 21 = .ok (.ifCond .ne 7, 3) := by decide +kernel
theorem jd_R_isAt_24 : decode prog_6_method_6_code 24 = .ok (.iconst 1, 1) := by decide +kernel
theorem jd_R_isAt_25 : decode prog_6_method_6_code 25 = .ok (.goto 4, 3) := by decide +kernel
theorem jd_R_isAt_28 : decode prog_6_method_6_code 28 = .ok (.iconst 0, 1) := by decide +kernel
theorem jd_R_isAt_29 : decode prog_6_method_6_code 29 = .ok (.ireturn, 1) := by decide +kernel
theorem jd_E_become_0 : decode prog_4_method_2_code 0 = .ok (.aload_n 0, 1) := by decide +kernel
theorem jd_E_become_1 : decode prog_4_method_2_code 1 = .ok (.iload_n 1, 1) := by decide +kernel
theorem jd_E_become_2 : decode prog_4_method_2_code 2 = .ok (.putfield 9, 3) := by decide +kernel
theorem jd_E_become_5 : decode prog_4_method_2_code 5 = .ok (.aload_n 0, 1) := by decide +kernel
theorem jd_E_become_6 : decode prog_4_method_2_code 6 = .ok (.iload_n 2, 1) := by decide +kernel
theorem jd_E_become_7 : decode prog_4_method_2_code 7 = .ok (.putfield 15, 3) := by decide +kernel
theorem jd_E_become_10 : decode prog_4_method_2_code 10 = .ok (.aload_n 0, 1) := by decide +kernel
theorem jd_E_become_11 : decode prog_4_method_2_code 11 = .ok (.getfield 21, 3) := by decide +kernel
theorem jd_E_become_14 : decode prog_4_method_2_code 14 = .ok (.aload_n 3, 1) := by decide +kernel
theorem jd_E_become_15 : decode prog_4_method_2_code 15 = .ok (.invokevirtual 28, 3) := by decide +kernel
theorem jd_E_become_18 : decode prog_4_method_2_code 18 = .ok (.aload_n 0, 1) := by decide +kernel
theorem jd_E_become_19 : decode prog_4_method_2_code 19 = .ok (.getfield 25, 3) := by decide +kernel
theorem jd_E_become_22 : decode prog_4_method_2_code 22 = .ok (.aload 4, 2) := by decide +kernel
theorem jd_E_become_24 : decode prog_4_method_2_code 24 = .ok (.invokevirtual 28, 3) := by decide +kernel
theorem jd_E_become_27 : decode prog_4_method_2_code 27 = .ok (.return_, 1) := by decide +kernel
theorem jd_S_member_0 : decode prog_1_method_6_code 0 = .ok (.aload_n 0, 1) := by decide +kernel
theorem jd_S_member_1 : decode prog_1_method_6_code 1 = .ok (.iload_n 1, 1) := by decide +kernel
theorem jd_S_member_2 : decode prog_1_method_6_code 2 = .ok (.invokevirtual 69, 3) := by decide +kernel
theorem jd_S_member_5 : decode prog_1_method_6_code 5 = .ok (.astore 4, 2) := by decide +kernel
theorem jd_S_member_7 : decode prog_1_method_6_code 7 = .ok (.aload 4, 2) := by decide +kernel
theorem jd_S_member_9 : decode prog_1_method_6_code 9 = .ok (.ifnull 10, 3) := by decide +kernel
theorem jd_S_member_12 : decode prog_1_method_6_code 12 = .ok (.iload_n 2, 1) := by decide +kernel
theorem jd_S_member_13 : decode prog_1_method_6_code 13 = .ok (.invokestatic 83, 3) := by decide +kernel
theorem jd_S_member_16 : decode prog_1_method_6_code 16 = .ok (.ifCond .ne 5, 3) := by decide +kernel
theorem jd_S_member_19 : decode prog_1_method_6_code 19 = .ok (.iconst (-1), 1) := by decide +kernel
theorem jd_S_member_20 : decode prog_1_method_6_code 20 = .ok (.ireturn, 1) := by decide +kernel
theorem jd_S_member_21 : decode prog_1_method_6_code 21 = .ok (.aload_n 0, 1) := by decide +kernel
theorem jd_S_member_22 : decode prog_1_method_6_code 22 = .ok (.iload_n 2, 1) := by decide +kernel
theorem jd_S_member_23 : decode prog_1_method_6_code 23 = .ok (.invokevirtual 87, 3) := by decide +kernel
theorem jd_S_member_26 : decode prog_1_method_6_code 26 = .ok (.ifCond .eq 11, 3) := by decide +kernel
theorem jd_S_member_29 : decode prog_1_method_6_code 29 = .ok (.aload_n 0, 1) := by decide +kernel
theorem jd_S_member_30 : decode prog_1_method_6_code 30 = .ok (.iload_n 2, 1) := by decide +kernel
theorem jd_S_member_31 : decode prog_1_method_6_code 31 = .ok (.invokevirtual 90, 3) := by decide +kernel
theorem jd_S_member_34 : decode prog_1_method_6_code 34 = .ok (.ifCond .ne 6, 3) := by decide +kernel
theorem jd_S_member_37 : decode prog_1_method_6_code 37 = .ok (.bipush (-2), 2) := by decide +kernel
theorem jd_S_member_39 : decode prog_1_method_6_code 39 = .ok (.ireturn, 1) := by decide +kernel
theorem jd_S_member_40 : decode prog_1_method_6_code 40 = .ok (.aload 4, 2) := by decide +kernel
theorem jd_S_member_42 : decode prog_1_method_6_code 42 = .ok (.getfield 93, 3) := by decide +kernel
theorem jd_S_member_45 : decode prog_1_method_6_code 45 = .ok (.iload_n 2, 1) := by decide +kernel
theorem jd_S_member_46 : decode prog_1_method_6_code 46 = .ok (.iload_n 3, 1) := by decide +kernel
theorem jd_S_member_47 : decode prog_1_method_6_code 47 = .ok (.ldc 64, 2) := by decide +kernel
theorem jd_S_member_49 : decode prog_1_method_6_code 49 = .ok (.iand, 1) := by decide +kernel
theorem jd_S_member_50 : decode prog_1_method_6_code 50 = .ok (.aload_n 0, 1) := by decide +kernel
theorem jd_S_member_51 : decode prog_1_method_6_code 51 = .ok (.getfield 12, 3) := by decide +kernel
theorem jd_S_member_54 : decode prog_1_method_6_code 54 = .ok (.aload_n 0, 1) := by decide +kernel
theorem jd_S_member_55 : decode prog_1_method_6_code 55 = .ok (.getfield 16, 3) := by decide +kernel
theorem jd_S_member_58 : decode prog_1_method_6_code 58 = .ok (.invokevirtual 77, 3) := by decide +kernel
theorem jd_S_member_61 : decode prog_1_method_6_code 61 = .ok (.ireturn, 1) := by decide +kernel
theorem jd_S_isMemberKind_0 : decode prog_1_method_17_code 0 = .ok (.iload_n 0, 1) := by decide +kernel
theorem jd_S_isMemberKind_1 : decode prog_1_method_17_code 1 = .ok (.ifCond .lt 12, 3) := by decide +kernel
theorem jd_S_isMemberKind_4 : decode prog_1_method_17_code 4 = .ok (.iload_n 0, 1) := by decide +kernel
theorem jd_S_isMemberKind_5 : decode prog_1_method_17_code 5 = .ok (.iconst 3, 1) := by decide +kernel
theorem jd_S_isMemberKind_6 : decode prog_1_method_17_code 6 = .ok (.if_icmp .gt 7, 3) := by decide +kernel
theorem jd_S_isMemberKind_9 : decode prog_1_method_17_code 9 = .ok (.iconst 1, 1) := by decide +kernel
theorem jd_S_isMemberKind_10 : decode prog_1_method_17_code 10 = .ok (.goto 4, 3) := by decide +kernel
theorem jd_S_isMemberKind_13 : decode prog_1_method_17_code 13 = .ok (.iconst 0, 1) := by decide +kernel
theorem jd_S_isMemberKind_14 : decode prog_1_method_17_code 14 = .ok (.ireturn, 1) := by decide +kernel
theorem jd_S_isNameFor_0 : decode prog_1_method_18_code 0 = .ok (.iload_n 1, 1) := by decide +kernel
theorem jd_S_isNameFor_1 : decode prog_1_method_18_code 1 = .ok (.iconst 1, 1) := by decide +kernel
theorem jd_S_isNameFor_2 : decode prog_1_method_18_code 2 = .ok (.if_icmp .eq 18, 3) := by decide +kernel
theorem jd_S_isNameFor_5 : decode prog_1_method_18_code 5 = .ok (.iload_n 1, 1) := by decide +kernel
theorem jd_S_isNameFor_6 : decode prog_1_method_18_code 6 = .ok (.iconst 3, 1) := by decide +kernel
theorem jd_S_isNameFor_7 : decode prog_1_method_18_code 7 = .ok (.if_icmp .eq 13, 3) := by decide +kernel
theorem jd_S_isNameFor_10 : decode prog_1_method_18_code 10 = .ok (.aload_n 0, 1) := by decide +kernel
theorem jd_S_isNameFor_11 : decode prog_1_method_18_code 11 = .ok (.getfield 12, 3) := by decide +kernel
theorem jd_S_isNameFor_14 : decode prog_1_method_18_code 14 = .ok (.getfield 48, 3) := by decide +kernel
theorem jd_S_isNameFor_17 : decode prog_1_method_18_code 17 = .ok (.ifCond .le 7, 3) := by decide +kernel
theorem jd_S_isNameFor_20 : decode prog_1_method_18_code 20 = .ok (.iconst 1, 1) := by decide +kernel
theorem jd_S_isNameFor_21 : decode prog_1_method_18_code 21 = .ok (.goto 4, 3) := by decide +kernel
theorem jd_S_isNameFor_24 : decode prog_1_method_18_code 24 = .ok (.iconst 0, 1) := by decide +kernel
theorem jd_S_isNameFor_25 : decode prog_1_method_18_code 25 = .ok (.ireturn, 1) := by decide +kernel
theorem jd_S_isShapeFor_0 : decode prog_1_method_19_code 0 = .ok (.iload_n 1, 1) := by decide +kernel
theorem jd_S_isShapeFor_1 : decode prog_1_method_19_code 1 = .ok (.tableswitch 80 0 2 #[27, 35, 72], 27) := by decide +kernel
theorem jd_S_isShapeFor_28 : decode prog_1_method_19_code 28 = .ok (.aload_n 0, 1) := by decide +kernel
theorem jd_S_isShapeFor_29 : decode prog_1_method_19_code 29 = .ok (.getfield 16, 3) := by decide +kernel
theorem jd_S_isShapeFor_32 : decode prog_1_method_19_code 32 = .ok (.invokestatic 146, 3) := by decide +kernel
theorem jd_S_isShapeFor_35 : decode prog_1_method_19_code 35 = .ok (.ireturn, 1) := by decide +kernel
theorem jd_S_isShapeFor_36 : decode prog_1_method_19_code 36 = .ok (.aload_n 0, 1) := by decide +kernel
theorem jd_S_isShapeFor_37 : decode prog_1_method_19_code 37 = .ok (.getfield 16, 3) := by decide +kernel
theorem jd_S_isShapeFor_40 : decode prog_1_method_19_code 40 = .ok (.invokestatic 152, 3) := by decide +kernel
theorem jd_S_isShapeFor_43 : decode prog_1_method_19_code 43 = .ok (.ifCond .eq 28, 3) := by decide +kernel
theorem jd_S_isShapeFor_46 : decode prog_1_method_19_code 46 = .ok (.aload_n 0, 1) := by decide +kernel
theorem jd_S_isShapeFor_47 : decode prog_1_method_19_code 47 = .ok (.getfield 16, 3) := by decide +kernel
theorem jd_S_isShapeFor_50 : decode prog_1_method_19_code 50 = .ok (.aload_n 0, 1) := by decide +kernel
theorem jd_S_isShapeFor_51 : decode prog_1_method_19_code 51 = .ok (.getfield 16, 3) := by decide +kernel
theorem jd_S_isShapeFor_54 : decode prog_1_method_19_code 54 = .ok (.getfield 48, 3) := by decide +kernel
theorem jd_S_isShapeFor_57 : decode prog_1_method_19_code 57 = .ok (.iconst 1, 1) := by decide +kernel
theorem jd_S_isShapeFor_58 : decode prog_1_method_19_code 58 = .ok (.isub, 1) := by decide +kernel
theorem jd_S_isShapeFor_59 : decode prog_1_method_19_code 59 = .ok (.invokevirtual 155, 3) := by decide +kernel
theorem jd_S_isShapeFor_62 : decode prog_1_method_19_code 62 = .ok (.bipush 86, 2) := by decide +kernel
theorem jd_S_isShapeFor_64 : decode prog_1_method_19_code 64 = .ok (.if_icmp .ne 7, 3) := by decide +kernel
theorem jd_S_isShapeFor_67 : decode prog_1_method_19_code 67 = .ok (.iconst 1, 1) := by decide +kernel
theorem jd_S_isShapeFor_68 : decode prog_1_method_19_code 68 = .ok (.goto 4, 3) := by decide +kernel
theorem jd_S_isShapeFor_71 : decode prog_1_method_19_code 71 = .ok (.iconst 0, 1) := by decide +kernel
theorem jd_S_isShapeFor_72 : decode prog_1_method_19_code 72 = .ok (.ireturn, 1) := by decide +kernel
theorem jd_S_isShapeFor_73 : decode prog_1_method_19_code 73 = .ok (.aload_n 0, 1) := by decide +kernel
theorem jd_S_isShapeFor_74 : decode prog_1_method_19_code 74 = .ok (.getfield 16, 3) := by decide +kernel
theorem jd_S_isShapeFor_77 : decode prog_1_method_19_code 77 = .ok (.invokestatic 152, 3) := by decide +kernel
theorem jd_S_isShapeFor_80 : decode prog_1_method_19_code 80 = .ok (.ireturn, 1) := by decide +kernel
theorem jd_S_isShapeFor_81 : decode prog_1_method_19_code 81 = .ok (.iconst 1, 1) := by decide +kernel
theorem jd_S_isShapeFor_82 : decode prog_1_method_19_code 82 = .ok (.ireturn, 1) := by decide +kernel
theorem jd_H_isType_0 : decode prog_7_method_2_code 0 = .ok (.aload_n 0, 1) := by decide +kernel
theorem jd_H_isType_1 : decode prog_7_method_2_code 1 = .ok (.iconst 0, 1) := by decide +kernel
theorem jd_H_isType_2 : decode prog_7_method_2_code 2 = .ok (.invokestatic 9, 3) := by decide +kernel
theorem jd_H_isType_5 : decode prog_7_method_2_code 5 = .ok (.aload_n 0, 1) := by decide +kernel
theorem jd_H_isType_6 : decode prog_7_method_2_code 6 = .ok (.getfield 15, 3) := by decide +kernel
theorem jd_H_isType_9 : decode prog_7_method_2_code 9 = .ok (.if_icmp .ne 7, 3) := by decide +kernel
theorem jd_H_isType_12 : decode prog_7_method_2_code 12 = .ok (.iconst 1, 1) := by decide +kernel
theorem jd_H_isType_13 : decode prog_7_method_2_code 13 = .ok (.goto 4, 3) := by decide +kernel
theorem jd_H_isType_16 : decode prog_7_method_2_code 16 = .ok (.iconst 0, 1) := by decide +kernel
theorem jd_H_isType_17 : decode prog_7_method_2_code 17 = .ok (.ireturn, 1) := by decide +kernel
theorem jd_H_endOfType_0 : decode prog_7_method_5_code 0 = .ok (.iload_n 1, 1) := by decide +kernel
theorem jd_H_endOfType_1 : decode prog_7_method_5_code 1 = .ok (.istore_n 2, 1) := by decide +kernel
theorem jd_H_endOfType_2 : decode prog_7_method_5_code 2 = .ok (.iload_n 2, 1) := by decide +kernel
theorem jd_H_endOfType_3 : decode prog_7_method_5_code 3 = .ok (.iload_n 1, 1) := by decide +kernel
theorem jd_H_endOfType_4 : decode prog_7_method_5_code 4 = .ok (.iconst 3, 1) := by decide +kernel
theorem jd_H_endOfType_5 : decode prog_7_method_5_code 5 = .ok (.iadd, 1) := by decide +kernel
theorem jd_H_endOfType_6 : decode prog_7_method_5_code 6 = .ok (.if_icmp .ge 19, 3) := by decide +kernel
theorem jd_H_endOfType_9 : decode prog_7_method_5_code 9 = .ok (.aload_n 0, 1) := by decide +kernel
theorem jd_H_endOfType_10 : decode prog_7_method_5_code 10 = .ok (.iload_n 2, 1) := by decide +kernel
theorem jd_H_endOfType_11 : decode prog_7_method_5_code 11 = .ok (.invokevirtual 21, 3) := by decide +kernel
theorem jd_H_endOfType_14 : decode prog_7_method_5_code 14 = .ok (.bipush 91, 2) := by decide +kernel
theorem jd_H_endOfType_16 : decode prog_7_method_5_code 16 = .ok (.if_icmp .ne 9, 3) := by decide +kernel
theorem jd_H_endOfType_19 : decode prog_7_method_5_code 19 = .ok (.iinc 2 1, 3) := by decide +kernel
theorem jd_H_endOfType_22 : decode prog_7_method_5_code 22 = .ok (.goto (-20), 3) := by decide +kernel
theorem jd_H_endOfType_25 : decode prog_7_method_5_code 25 = .ok (.aload_n 0, 1) := by decide +kernel
theorem jd_H_endOfType_26 : decode prog_7_method_5_code 26 = .ok (.iload_n 2, 1) := by decide +kernel
theorem jd_H_endOfType_27 : decode prog_7_method_5_code 27 = .ok (.invokevirtual 21, 3) := by decide +kernel
theorem jd_H_endOfType_30 : decode prog_7_method_5_code 30 = .ok (.bipush 76, 2) := by decide +kernel
theorem jd_H_endOfType_32 : decode prog_7_method_5_code 32 = .ok (.if_icmp .ne 11, 3) := by decide +kernel
theorem jd_H_endOfType_35 : decode prog_7_method_5_code 35 = .ok (.aload_n 0, 1) := by decide +kernel
theorem jd_H_endOfType_36 : decode prog_7_method_5_code 36 = .ok (.iload_n 2, 1) := by decide +kernel
theorem jd_H_endOfType_37 : decode prog_7_method_5_code 37 = .ok (.iconst 1, 1) := by decide +kernel
theorem jd_H_endOfType_38 : decode prog_7_method_5_code 38 = .ok (.iadd, 1) := by decide +kernel
theorem jd_H_endOfType_39 : decode prog_7_method_5_code 39 = .ok (.invokestatic 28, 3) := by decide +kernel
theorem jd_H_endOfType_42 : decode prog_7_method_5_code 42 = .ok (.ireturn, 1) := by decide +kernel
theorem jd_H_endOfType_43 : decode prog_7_method_5_code 43 = .ok (.aload_n 0, 1) := by decide +kernel
theorem jd_H_endOfType_44 : decode prog_7_method_5_code 44 = .ok (.iload_n 2, 1) := by decide +kernel
theorem jd_H_endOfType_45 : decode prog_7_method_5_code 45 = .ok (.invokevirtual 21, 3) := by decide +kernel
theorem jd_H_endOfType_48 : decode prog_7_method_5_code 48 = .ok (.invokestatic 31, 3) := by decide +kernel
theorem jd_H_endOfType_51 : decode prog_7_method_5_code 51 = .ok (.ifCond .eq 9, 3) := by decide +kernel
theorem jd_H_endOfType_54 : decode prog_7_method_5_code 54 = .ok (.iload_n 2, 1) := by decide +kernel
theorem jd_H_endOfType_55 : decode prog_7_method_5_code 55 = .ok (.iconst 1, 1) := by decide +kernel
theorem jd_H_endOfType_56 : decode prog_7_method_5_code 56 = .ok (.iadd, 1) := by decide +kernel
theorem jd_H_endOfType_57 : decode prog_7_method_5_code 57 = .ok (.goto 4, 3) := by decide +kernel
theorem jd_H_endOfType_60 : decode prog_7_method_5_code 60 = .ok (.iconst (-1), 1) := by decide +kernel
theorem jd_H_endOfType_61 : decode prog_7_method_5_code 61 = .ok (.ireturn, 1) := by decide +kernel
