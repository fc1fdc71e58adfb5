theorem jd_T_at_0 : decode prog_8_method_2_code 0 = .ok (.iload_n 1, 1) := by decide +kernel
theorem jd_T_at_1 : decode prog_8_method_2_code 1 = .ok (.ifCond .lt 20, 3) := by decide +kernel
theorem jd_T_at_4 : decode prog_8_method_2_code 4 = .ok (.iload_n 1, 1) := by decide +kernel
theorem jd_T_at_5 : decode prog_8_method_2_code 5 = .ok (.aload_n 0, 1) := by decide +kernel
theorem jd_T_at_6 : decode prog_8_method_2_code 6 = .ok (.getfield 15, 3) := by decide +kernel
theorem jd_T_at_9 : decode prog_8_method_2_code 9 = .ok (.if_icmp .ge 12, 3) := by decide +kernel
theorem jd_T_at_12 : decode prog_8_method_2_code 12 = .ok (.aload_n 0, 1) := by decide +kernel
theorem jd_T_at_13 : decode prog_8_method_2_code 13 = .ok (.getfield 9, 3) := by decide +kernel
theorem jd_T_at_16 : decode prog_8_method_2_code 16 = .ok (.iload_n 1, 1) := by decide +kernel
theorem jd_T_at_17 : decode prog_8_method_2_code 17 = .ok (.baload, 1) := by decide +kernel
theorem jd_T_at_18 : decode prog_8_method_2_code 18 = .ok (.goto 4, 3) := by decide +kernel
theorem jd_T_at_21 : decode prog_8_method_2_code 21 = .ok (.iconst 0, 1) := by decide +kernel
theorem jd_T_at_22 : decode prog_8_method_2_code 22 = .ok (.ireturn, 1) := by decide +kernel
theorem jd_H_endOfName_0 : decode prog_7_method_6_code 0 = .ok (.iload_n 1, 1) := by decide +kernel
theorem jd_H_endOfName_1 : decode prog_7_method_6_code 1 = .ok (.istore_n 2, 1) := by decide +kernel
theorem jd_H_endOfName_2 : decode prog_7_method_6_code 2 = .ok (.iload_n 2, 1) := by decide +kernel
theorem jd_H_endOfName_3 : decode prog_7_method_6_code 3 = .ok (.aload_n 0, 1) := by decide +kernel
theorem jd_H_endOfName_4 : decode prog_7_method_6_code 4 = .ok (.getfield 15, 3) := by decide +kernel
theorem jd_H_endOfName_7 : decode prog_7_method_6_code 7 = .ok (.if_icmp .ge 20, 3) := by decide +kernel
theorem jd_H_endOfName_10 : decode prog_7_method_6_code 10 = .ok (.aload_n 0, 1) := by decide +kernel
theorem jd_H_endOfName_11 : decode prog_7_method_6_code 11 = .ok (.iload_n 2, 1) := by decide +kernel
theorem jd_H_endOfName_12 : decode prog_7_method_6_code 12 = .ok (.invokevirtual 21, 3) := by decide +kernel
theorem jd_H_endOfName_15 : decode prog_7_method_6_code 15 = .ok (.invokestatic 35, 3) := by decide +kernel
theorem jd_H_endOfName_18 : decode prog_7_method_6_code 18 = .ok (.ifCond .eq 9, 3) := by decide +kernel
theorem jd_H_endOfName_21 : decode prog_7_method_6_code 21 = .ok (.iinc 2 1, 3) := by decide +kernel
theorem jd_H_endOfName_24 : decode prog_7_method_6_code 24 = .ok (.goto (-22), 3) := by decide +kernel
theorem jd_H_endOfName_27 : decode prog_7_method_6_code 27 = .ok (.iload_n 2, 1) := by decide +kernel
theorem jd_H_endOfName_28 : decode prog_7_method_6_code 28 = .ok (.iload_n 1, 1) := by decide +kernel
theorem jd_H_endOfName_29 : decode prog_7_method_6_code 29 = .ok (.if_icmp .le 19, 3) := by decide +kernel
theorem jd_H_endOfName_32 : decode prog_7_method_6_code 32 = .ok (.aload_n 0, 1) := by decide +kernel
theorem jd_H_endOfName_33 : decode prog_7_method_6_code 33 = .ok (.iload_n 2, 1) := by decide +kernel
theorem jd_H_endOfName_34 : decode prog_7_method_6_code 34 = .ok (.invokevirtual 21, 3) := by decide +kernel
theorem jd_H_endOfName_37 : decode prog_7_method_6_code 37 = .ok (.bipush 59, 2) := by decide +kernel
theorem jd_H_endOfName_39 : decode prog_7_method_6_code 39 = .ok (.if_icmp .ne 9, 3) := by decide +kernel
theorem jd_H_endOfName_42 : decode prog_7_method_6_code 42 = .ok (.iload_n 2, 1) := by decide +kernel
theorem jd_H_endOfName_43 : decode prog_7_method_6_code 43 = .ok (.iconst 1, 1) := by decide +kernel
theorem jd_H_endOfName_44 : decode prog_7_method_6_code 44 = .ok (.iadd, 1) := by decide +kernel
theorem jd_H_endOfName_45 : decode prog_7_method_6_code 45 = .ok (.goto 4, 3) := by decide +kernel
theorem jd_H_endOfName_48 : decode prog_7_method_6_code 48 = .ok (.iconst (-1), 1) := by decide +kernel
theorem jd_H_endOfName_49 : decode prog_7_method_6_code 49 = .ok (.ireturn, 1) := by decide +kernel
theorem jd_H_mayStandInName_0 : decode prog_7_method_8_code 0 = .ok (.iload_n 0, 1) := by decide +kernel
theorem jd_H_mayStandInName_1 : decode prog_7_method_8_code 1 = .ok (.bipush 59, 2) := by decide +kernel
theorem jd_H_mayStandInName_3 : decode prog_7_method_8_code 3 = .ok (.if_icmp .eq 31, 3) := by decide +kernel
theorem jd_H_mayStandInName_6 : decode prog_7_method_8_code 6 = .ok (.iload_n 0, 1) := by decide +kernel
theorem jd_H_mayStandInName_7 : decode prog_7_method_8_code 7 = .ok (.bipush 91, 2) := by decide +kernel
theorem jd_H_mayStandInName_9 : decode prog_7_method_8_code 9 = .ok (.if_icmp .eq 25, 3) := by decide +kernel
theorem jd_H_mayStandInName_12 : decode prog_7_method_8_code 12 = .ok (.iload_n 0, 1) := by decide +kernel
theorem jd_H_mayStandInName_13 : decode prog_7_method_8_code 13 = .ok (.bipush 40, 2) := by decide +kernel
theorem jd_H_mayStandInName_15 : decode prog_7_method_8_code 15 = .ok (.if_icmp .eq 19, 3) := by decide +kernel
theorem jd_H_mayStandInName_18 : decode prog_7_method_8_code 18 = .ok (.iload_n 0, 1) := by decide +kernel
theorem jd_H_mayStandInName_19 : decode prog_7_method_8_code 19 = .ok (.bipush 41, 2) := by decide +kernel
theorem jd_H_mayStandInName_21 : decode prog_7_method_8_code 21 = .ok (.if_icmp .eq 13, 3) := by decide +kernel
theorem jd_H_mayStandInName_24 : decode prog_7_method_8_code 24 = .ok (.iload_n 0, 1) := by decide +kernel
theorem jd_H_mayStandInName_25 : decode prog_7_method_8_code 25 = .ok (.bipush 46, 2) := by decide +kernel
theorem jd_H_mayStandInName_27 : decode prog_7_method_8_code 27 = .ok (.if_icmp .eq 7, 3) := by decide +kernel
theorem jd_H_mayStandInName_30 : decode prog_7_method_8_code 30 = .ok (.iconst 1, 1) := by decide +kernel
theorem jd_H_mayStandInName_31 : decode prog_7_method_8_code 31 = .ok (.goto 4, 3) := by decide +kernel
theorem jd_H_mayStandInName_34 : decode prog_7_method_8_code 34 = .ok (.iconst 0, 1) := by decide +kernel
theorem jd_H_mayStandInName_35 : decode prog_7_method_8_code 35 = .ok (.ireturn, 1) := by decide +kernel
theorem jd_H_isSimple_0 : decode prog_7_method_7_code 0 = .ok (.iload_n 0, 1) := by decide +kernel
theorem jd_H_isSimple_1 : decode prog_7_method_7_code 1 = .ok (.tableswitch 117 66 90 #[115, 115, 115, 117, 115, 117, 117, 115, 115, 117, 117, 117, 117, 117, 117, 117, 117, 115, 117, 117, 117, 117, 117, 117, 115], 115) := by decide +kernel
theorem jd_H_isSimple_116 : decode prog_7_method_7_code 116 = .ok (.iconst 1, 1) := by decide +kernel
theorem jd_H_isSimple_117 : decode prog_7_method_7_code 117 = .ok (.ireturn, 1) := by decide +kernel
theorem jd_H_isSimple_118 : decode prog_7_method_7_code 118 = .ok (.iconst 0, 1) := by decide +kernel
theorem jd_H_isSimple_119 : decode prog_7_method_7_code 119 = .ok (.ireturn, 1) := by decide +kernel
theorem jd_H_isMethod_0 : decode prog_7_method_3_code 0 = .ok (.aload_n 0, 1) := by decide +kernel
theorem jd_H_isMethod_1 : decode prog_7_method_3_code 1 = .ok (.iconst 0, 1) := by decide +kernel
theorem jd_H_isMethod_2 : decode prog_7_method_3_code 2 = .ok (.invokevirtual 21, 3) := by decide +kernel
theorem jd_H_isMethod_5 : decode prog_7_method_3_code 5 = .ok (.bipush 40, 2) := by decide +kernel
theorem jd_H_isMethod_7 : decode prog_7_method_3_code 7 = .ok (.if_icmp .eq 5, 3) := by decide +kernel
theorem jd_H_isMethod_10 : decode prog_7_method_3_code 10 = .ok (.iconst 0, 1) := by decide +kernel
theorem jd_H_isMethod_11 : decode prog_7_method_3_code 11 = .ok (.ireturn, 1) := by decide +kernel
theorem jd_H_isMethod_12 : decode prog_7_method_3_code 12 = .ok (.aload_n 0, 1) := by decide +kernel
theorem jd_H_isMethod_13 : decode prog_7_method_3_code 13 = .ok (.iconst 1, 1) := by decide +kernel
theorem jd_H_isMethod_14 : decode prog_7_method_3_code 14 = .ok (.invokestatic 25, 3) := by decide +kernel
theorem jd_H_isMethod_17 : decode prog_7_method_3_code 17 = .ok (.istore_n 1, 1) := by decide +kernel
theorem jd_H_isMethod_18 : decode prog_7_method_3_code 18 = .ok (.iload_n 1, 1) := by decide +kernel
theorem jd_H_isMethod_19 : decode prog_7_method_3_code 19 = .ok (.iconst (-1), 1) := by decide +kernel
theorem jd_H_isMethod_20 : decode prog_7_method_3_code 20 = .ok (.if_icmp .eq 13, 3) := by decide +kernel
theorem jd_H_isMethod_23 : decode prog_7_method_3_code 23 = .ok (.aload_n 0, 1) := by decide +kernel
theorem jd_H_isMethod_24 : decode prog_7_method_3_code 24 = .ok (.iload_n 1, 1) := by decide +kernel
theorem jd_H_isMethod_25 : decode prog_7_method_3_code 25 = .ok (.invokevirtual 21, 3) := by decide +kernel
theorem jd_H_isMethod_28 : decode prog_7_method_3_code 28 = .ok (.bipush 41, 2) := by decide +kernel
theorem jd_H_isMethod_30 : decode prog_7_method_3_code 30 = .ok (.if_icmp .eq 5, 3) := by decide +kernel
theorem jd_H_isMethod_33 : decode prog_7_method_3_code 33 = .ok (.iconst 0, 1) := by decide +kernel
theorem jd_H_isMethod_34 : decode prog_7_method_3_code 34 = .ok (.ireturn, 1) := by decide +kernel
theorem jd_H_isMethod_35 : decode prog_7_method_3_code 35 = .ok (.iload_n 1, 1) := by decide +kernel
theorem jd_H_isMethod_36 : decode prog_7_method_3_code 36 = .ok (.iconst 1, 1) := by decide +kernel
theorem jd_H_isMethod_37 : decode prog_7_method_3_code 37 = .ok (.iadd, 1) := by decide +kernel
theorem jd_H_isMethod_38 : decode prog_7_method_3_code 38 = .ok (.istore_n 2, 1) := by decide +kernel
theorem jd_H_isMethod_39 : decode prog_7_method_3_code 39 = .ok (.aload_n 0, 1) := by decide +kernel
theorem jd_H_isMethod_40 : decode prog_7_method_3_code 40 = .ok (.iload_n 2, 1) := by decide +kernel
theorem jd_H_isMethod_41 : decode prog_7_method_3_code 41 = .ok (.invokevirtual 21, 3) := by decide +kernel
theorem jd_H_isMethod_44 : decode prog_7_method_3_code 44 = .ok (.bipush 86, 2) := by decide +kernel
theorem jd_H_isMethod_46 : decode prog_7_method_3_code 46 = .ok (.if_icmp .ne 9, 3) := by decide +kernel
theorem jd_H_isMethod_49 : decode prog_7_method_3_code 49 = .ok (.iload_n 2, 1) := by decide +kernel
theorem jd_H_isMethod_50 : decode prog_7_method_3_code 50 = .ok (.iconst 1, 1) := by decide +kernel
theorem jd_H_isMethod_51 : decode prog_7_method_3_code 51 = .ok (.iadd, 1) := by decide +kernel
theorem jd_H_isMethod_52 : decode prog_7_method_3_code 52 = .ok (.goto 8, 3) := by decide +kernel
theorem jd_H_isMethod_55 : decode prog_7_method_3_code 55 = .ok (.aload_n 0, 1) := by decide +kernel
theorem jd_H_isMethod_56 : decode prog_7_method_3_code 56 = .ok (.iload_n 2, 1) := by decide +kernel
theorem jd_H_isMethod_57 : decode prog_7_method_3_code 57 = .ok (.invokestatic 9, 3) := by decide +kernel
theorem jd_H_isMethod_60 : decode prog_7_method_3_code 60 = .ok (.istore_n 3, 1) := by decide +kernel
theorem jd_H_isMethod_61 : decode prog_7_method_3_code 61 = .ok (.iload_n 3, 1) := by decide +kernel
theorem jd_H_isMethod_62 : decode prog_7_method_3_code 62 = .ok (.aload_n 0, 1) := by decide +kernel
theorem jd_H_isMethod_63 : decode prog_7_method_3_code 63 = .ok (.getfield 15, 3) := by decide +kernel
theorem jd_H_isMethod_66 : decode prog_7_method_3_code 66 = .ok (.if_icmp .ne 7, 3) := by decide +kernel
theorem jd_H_isMethod_69 : decode prog_7_method_3_code 69 = .ok (.iconst 1, 1) := by decide +kernel
theorem jd_H_isMethod_70 : decode prog_7_method_3_code 70 = .ok (.goto 4, 3) := by decide +kernel
theorem jd_H_isMethod_73 : decode prog_7_method_3_code 73 = .ok (.iconst 0, 1) := by decide +kernel
theorem jd_H_isMethod_74 : decode prog_7_method_3_code 74 = .ok (.ireturn, 1) := by decide +kernel
theorem jd_H_endOfTypes_0 : decode prog_7_method_4_code 0 = .ok (.iload_n 1, 1) := by decide +kernel
theorem jd_H_endOfTypes_1 : decode prog_7_method_4_code 1 = .ok (.istore_n 2, 1) := by decide +kernel
theorem jd_H_endOfTypes_2 : decode prog_7_method_4_code 2 = .ok (.iconst 0, 1) := by decide +kernel
theorem jd_H_endOfTypes_3 : decode prog_7_method_4_code 3 = .ok (.istore_n 3, 1) := by decide +kernel
theorem jd_H_endOfTypes_4 : decode prog_7_method_4_code 4 = .ok (.iload_n 3, 1) := by decide +kernel
theorem jd_H_endOfTypes_5 : decode prog_7_method_4_code 5 = .ok (.bipush 24, 2) := by decide +kernel
theorem jd_H_endOfTypes_7 : decode prog_7_method_4_code 7 = .ok (.if_icmp .ge 32, 3) := by decide +kernel
theorem jd_H_endOfTypes_10 : decode prog_7_method_4_code 10 = .ok (.iload_n 2, 1) := by decide +kernel
theorem jd_H_endOfTypes_11 : decode prog_7_method_4_code 11 = .ok (.iconst (-1), 1) := by decide +kernel
theorem jd_H_endOfTypes_12 : decode prog_7_method_4_code 12 = .ok (.if_icmp .eq 13, 3) := by decide +kernel
theorem jd_H_endOfTypes_15 : decode prog_7_method_4_code 15 = .ok (.aload_n 0, 1) := by decide +kernel
theorem jd_H_endOfTypes_16 : decode prog_7_method_4_code 16 = .ok (.iload_n 2, 1) := by decide +kernel
theorem jd_H_endOfTypes_17 : decode prog_7_method_4_code 17 = .ok (.invokevirtual 21, 3) := by decide +kernel
theorem jd_H_endOfTypes_20 : decode prog_7_method_4_code 20 = .ok (.bipush 41, 2) := by decide +kernel
theorem jd_H_endOfTypes_22 : decode prog_7_method_4_code 22 = .ok (.if_icmp .ne 5, 3) := by decide +kernel
theorem jd_H_endOfTypes_25 : decode prog_7_method_4_code 25 = .ok (.iload_n 2, 1) := by decide +kernel
theorem jd_H_endOfTypes_26 : decode prog_7_method_4_code 26 = .ok (.ireturn, 1) := by decide +kernel
theorem jd_H_endOfTypes_27 : decode prog_7_method_4_code 27 = .ok (.aload_n 0, 1) := by decide +kernel
theorem jd_H_endOfTypes_28 : decode prog_7_method_4_code 28 = .ok (.iload_n 2, 1) := by decide +kernel
theorem jd_H_endOfTypes_29 : decode prog_7_method_4_code 29 = .ok (.invokestatic 9, 3) := by decide +kernel
theorem jd_H_endOfTypes_32 : decode prog_7_method_4_code 32 = .ok (.istore_n 2, 1) := by decide +kernel
theorem jd_H_endOfTypes_33 : decode prog_7_method_4_code 33 = .ok (.iinc 3 1, 3) := by decide +kernel
theorem jd_H_endOfTypes_36 : decode prog_7_method_4_code 36 = .ok (.goto (-32), 3) := by decide +kernel
theorem jd_H_endOfTypes_39 : decode prog_7_method_4_code 39 = .ok (.iload_n 2, 1) := by decide +kernel
theorem jd_H_endOfTypes_40 : decode prog_7_method_4_code 40 = .ok (.ireturn, 1) := by decide +kernel
theorem jd_S_remove_0 : decode prog_1_method_7_code 0 = .ok (.aload_n 0, 1) := by decide +kernel
theorem jd_S_remove_1 : decode prog_1_method_7_code 1 = .ok (.iload_n 1, 1) := by decide +kernel
theorem jd_S_remove_2 : decode prog_1_method_7_code 2 = .ok (.invokevirtual 69, 3) := by decide +kernel
theorem jd_S_remove_5 : decode prog_1_method_7_code 5 = .ok (.astore_n 3, 1) := by decide +kernel
theorem jd_S_remove_6 : decode prog_1_method_7_code 6 = .ok (.aload_n 3, 1) := by decide +kernel
theorem jd_S_remove_7 : decode prog_1_method_7_code 7 = .ok (.ifnull 10, 3) := by decide +kernel
theorem jd_S_remove_10 : decode prog_1_method_7_code 10 = .ok (.iload_n 2, 1) := by decide +kernel
theorem jd_S_remove_11 : decode prog_1_method_7_code 11 = .ok (.invokestatic 83, 3) := by decide +kernel
theorem jd_S_remove_14 : decode prog_1_method_7_code 14 = .ok (.ifCond .ne 5, 3) := by decide +kernel
theorem jd_S_remove_17 : decode prog_1_method_7_code 17 = .ok (.iconst (-1), 1) := by decide +kernel
theorem jd_S_remove_18 : decode prog_1_method_7_code 18 = .ok (.ireturn, 1) := by decide +kernel
theorem jd_S_remove_19 : decode prog_1_method_7_code 19 = .ok (.aload_n 3, 1) := by decide +kernel
theorem jd_S_remove_20 : decode prog_1_method_7_code 20 = .ok (.getfield 93, 3) := by decide +kernel
theorem jd_S_remove_23 : decode prog_1_method_7_code 23 = .ok (.iload_n 2, 1) := by decide +kernel
theorem jd_S_remove_24 : decode prog_1_method_7_code 24 = .ok (.aload_n 0, 1) := by decide +kernel
theorem jd_S_remove_25 : decode prog_1_method_7_code 25 = .ok (.getfield 12, 3) := by decide +kernel
theorem jd_S_remove_28 : decode prog_1_method_7_code 28 = .ok (.aload_n 0, 1) := by decide +kernel
theorem jd_S_remove_29 : decode prog_1_method_7_code 29 = .ok (.getfield 16, 3) := by decide +kernel
theorem jd_S_remove_32 : decode prog_1_method_7_code 32 = .ok (.invokevirtual 96, 3) := by decide +kernel
theorem jd_S_remove_35 : decode prog_1_method_7_code 35 = .ok (.ireturn, 1) := by decide +kernel
theorem jd_R_takeOut_0 : decode prog_6_method_3_code 0 = .ok (.aload_n 0, 1) := by decide +kernel
theorem jd_R_takeOut_1 : decode prog_6_method_3_code 1 = .ok (.iload_n 1, 1) := by decide +kernel
theorem jd_R_takeOut_2 : decode prog_6_method_3_code 2 = .ok (.aload_n 2, 1) := by decide +kernel
theorem jd_R_takeOut_3 : decode prog_6_method_3_code 3 = .ok (.aload_n 3, 1) := by decide +kernel
theorem jd_R_takeOut_4 : decode prog_6_method_3_code 4 = .ok (.invokevirtual 22, 3) := by decide +kernel
theorem jd_R_takeOut_7 : decode prog_6_method_3_code 7 = .ok (.istore 4, 2) := by decide +kernel
theorem jd_R_takeOut_9 : decode prog_6_method_3_code 9 = .ok (.aload_n 0, 1) := by decide +kernel
theorem jd_R_takeOut_10 : decode prog_6_method_3_code 10 = .ok (.iload 4, 2) := by decide +kernel
theorem jd_R_takeOut_12 : decode prog_6_method_3_code 12 = .ok (.iload_n 1, 1) := by decide +kernel
theorem jd_R_takeOut_13 : decode prog_6_method_3_code 13 = .ok (.aload_n 2, 1) := by decide +kernel
theorem jd_R_takeOut_14 : decode prog_6_method_3_code 14 = .ok (.aload_n 3, 1) := by decide +kernel
theorem jd_R_takeOut_15 : decode prog_6_method_3_code 15 = .ok (.invokevirtual 26, 3) := by decide +kernel
theorem jd_R_takeOut_18 : decode prog_6_method_3_code 18 = .ok (.ifCond .ne 6, 3) := by decide +kernel
theorem jd_R_takeOut_21 : decode prog_6_method_3_code 21 = .ok (.bipush (-2), 2) := by decide +kernel
theorem jd_R_takeOut_23 : decode prog_6_method_3_code 23 = .ok (.ireturn, 1) := by decide +kernel
theorem jd_R_takeOut_24 : decode prog_6_method_3_code 24 = .ok (.aload_n 0, 1) := by decide +kernel
theorem jd_R_takeOut_25 : decode prog_6_method_3_code 25 = .ok (.getfield 17, 3) := by decide +kernel
theorem jd_R_takeOut_28 : decode prog_6_method_3_code 28 = .ok (.iload 4, 2) := by decide +kernel
theorem jd_R_takeOut_30 : decode prog_6_method_3_code 30 = .ok (.aaload, 1) := by decide +kernel
theorem jd_R_takeOut_31 : decode prog_6_method_3_code 31 = .ok (.astore 5, 2) := by decide +kernel
theorem jd_R_takeOut_33 : decode prog_6_method_3_code 33 = .ok (.aload_n 0, 1) := by decide +kernel
theorem jd_R_takeOut_34 : decode prog_6_method_3_code 34 = .ok (.dup, 1) := by decide +kernel
theorem jd_R_takeOut_35 : decode prog_6_method_3_code 35 = .ok (.getfield 9, 3) := by decide +kernel
theorem jd_R_takeOut_38 : decode prog_6_method_3_code 38 = .ok (.iconst 1, 1) := by decide +kernel
theorem jd_R_takeOut_39 : decode prog_6_method_3_code 39 = .ok (.isub, 1) := by decide +kernel
theorem jd_R_takeOut_40 : decode prog_6_method_3_code 40 = .ok (.putfield 9, 3) := by decide +kernel
theorem jd_R_takeOut_43 : decode prog_6_method_3_code 43 = .ok (.iload 4, 2) := by decide +kernel
theorem jd_R_takeOut_45 : decode prog_6_method_3_code 45 = .ok (.istore 6, 2) := by decide +kernel
theorem jd_R_takeOut_47 : decode prog_6_method_3_code 47 = .ok (.iload 6, 2) := by decide +kernel
theorem jd_R_takeOut_49 : decode prog_6_method_3_code 49 = .ok (.aload_n 0, 1) := by decide +kernel
theorem jd_R_takeOut_50 : decode prog_6_method_3_code 50 = .ok (.getfield 9, 3) := by decide +kernel
theorem jd_R_takeOut_53 : decode prog_6_method_3_code 53 = .ok (.if_icmp .ge 25, 3) := by decide +kernel
theorem jd_R_takeOut_56 : decode prog_6_method_3_code 56 = .ok (.aload_n 0, 1) := by decide +kernel
theorem jd_R_takeOut_57 : decode prog_6_method_3_code 57 = .ok (.getfield 17, 3) := by decide +kernel
theorem jd_R_takeOut_60 : decode prog_6_method_3_code 60 = .ok (.iload 6, 2) := by decide +kernel
theorem jd_R_takeOut_62 : decode prog_6_method_3_code 62 = .ok (.aload_n 0, 1) := by decide +kernel
theorem jd_R_takeOut_63 : decode prog_6_method_3_code 63 = .ok (.getfield 17, 3) := by decide +kernel
theorem jd_R_takeOut_66 : decode prog_6_method_3_code 66 = .ok (.iload 6, 2) := by decide +kernel
theorem jd_R_takeOut_68 : decode prog_6_method_3_code 68 = .ok (.iconst 1, 1) := by decide +kernel
theorem jd_R_takeOut_69 : decode prog_6_method_3_code 69 = .ok (.iadd, 1) := by decide +kernel
theorem jd_R_takeOut_70 : decode prog_6_method_3_code 70 = .ok (.aaload, 1) := by decide +kernel
theorem jd_R_takeOut_71 : decode prog_6_method_3_code 71 = .ok (.aastore, 1) := by decide +kernel
theorem jd_R_takeOut_72 : decode prog_6_method_3_code 72 = .ok (.iinc 6 1, 3) := by decide +kernel
theorem jd_R_takeOut_75 : decode prog_6_method_3_code 75 = .ok (.goto (-28), 3) := by decide +kernel
theorem jd_R_takeOut_78 : decode prog_6_method_3_code 78 = .ok (.aload_n 0, 1) := by decide +kernel
theorem jd_R_takeOut_79 : decode prog_6_method_3_code 79 = .ok (.getfield 17, 3) := by decide +kernel
theorem jd_R_takeOut_82 : decode prog_6_method_3_code 82 = .ok (.aload_n 0, 1) := by decide +kernel
theorem jd_R_takeOut_83 : decode prog_6_method_3_code 83 = .ok (.getfield 9, 3) := by decide +kernel
theorem jd_R_takeOut_86 : decode prog_6_method_3_code 86 = .ok (.aload 5, 2) := by decide +kernel
theorem jd_R_takeOut_88 : decode prog_6_method_3_code 88 = .ok (.aastore, 1) := by decide +kernel
theorem jd_R_takeOut_89 : decode prog_6_method_3_code 89 = .ok (.aload_n 0, 1) := by decide +kernel
theorem jd_R_takeOut_90 : decode prog_6_method_3_code 90 = .ok (.getfield 9, 3) := by decide +kernel
theorem jd_R_takeOut_93 : decode prog_6_method_3_code 93 = .ok (.ireturn, 1) := by decide +kernel
theorem jd_S_declare_0 : decode prog_1_method_8_code 0 = .ok (.aload_n 0, 1) := by decide +kernel
theorem jd_S_declare_1 : decode prog_1_method_8_code 1 = .ok (.iload_n 1, 1) := by decide +kernel
theorem jd_S_declare_2 : decode prog_1_method_8_code 2 = .ok (.invokevirtual 69, 3) := by decide +kernel
theorem jd_S_declare_5 : decode prog_1_method_8_code 5 = .ok (.astore 5, 2) := by decide +kernel
theorem jd_S_declare_7 : decode prog_1_method_8_code 7 = .ok (.aload 5, 2) := by decide +kernel
theorem jd_S_declare_9 : decode prog_1_method_8_code 9 = .ok (.ifnonnull 5, 3) := by decide +kernel
theorem jd_S_declare_12 : decode prog_1_method_8_code 12 = .ok (.iconst (-1), 1) := by decide +kernel
theorem jd_S_declare_13 : decode prog_1_method_8_code 13 = .ok (.ireturn, 1) := by decide +kernel
theorem jd_S_declare_14 : decode prog_1_method_8_code 14 = .ok (.aload 5, 2) := by decide +kernel
theorem jd_S_declare_16 : decode prog_1_method_8_code 16 = .ok (.iload_n 2, 1) := by decide +kernel
theorem jd_S_declare_17 : decode prog_1_method_8_code 17 = .ok (.putfield 100, 3) := by decide +kernel
theorem jd_S_declare_20 : decode prog_1_method_8_code 20 = .ok (.aload 5, 2) := by decide +kernel
theorem jd_S_declare_22 : decode prog_1_method_8_code 22 = .ok (.lload_n 3, 1) := by decide +kernel
theorem jd_S_declare_23 : decode prog_1_method_8_code 23 = .ok (.putfield 104, 3) := by decide +kernel
theorem jd_S_declare_26 : decode prog_1_method_8_code 26 = .ok (.iconst 0, 1) := by decide +kernel
theorem jd_S_declare_27 : decode prog_1_method_8_code 27 = .ok (.ireturn, 1) := by decide +kernel
theorem jd_S_id_0 : decode prog_1_method_9_code 0 = .ok (.aload_n 0, 1) := by decide +kernel
theorem jd_S_id_1 : decode prog_1_method_9_code 1 = .ok (.iload_n 1, 1) := by decide +kernel
theorem jd_S_id_2 : decode prog_1_method_9_code 2 = .ok (.invokevirtual 69, 3) := by decide +kernel
theorem jd_S_id_5 : decode prog_1_method_9_code 5 = .ok (.astore_n 2, 1) := by decide +kernel
theorem jd_S_id_6 : decode prog_1_method_9_code 6 = .ok (.aload_n 2, 1) := by decide +kernel
theorem jd_S_id_7 : decode prog_1_method_9_code 7 = .ok (.ifnonnull 7, 3) := by decide +kernel
theorem jd_S_id_10 : decode prog_1_method_9_code 10 = .ok (.ldc2_w 108, 3) := by decide +kernel
theorem jd_S_id_13 : decode prog_1_method_9_code 13 = .ok (.lreturn, 1) := by decide +kernel
theorem jd_S_id_14 : decode prog_1_method_9_code 14 = .ok (.aload_n 2, 1) := by decide +kernel
theorem jd_S_id_15 : decode prog_1_method_9_code 15 = .ok (.getfield 110, 3) := by decide +kernel
theorem jd_S_id_18 : decode prog_1_method_9_code 18 = .ok (.sipush 16384, 3) := by decide +kernel
theorem jd_S_id_21 : decode prog_1_method_9_code 21 = .ok (.iand, 1) := by decide +kernel
theorem jd_S_id_22 : decode prog_1_method_9_code 22 = .ok (.ifCond .eq 5, 3) := by decide +kernel
theorem jd_S_id_25 : decode prog_1_method_9_code 25 = .ok (.lconst 0, 1) := by decide +kernel
theorem jd_S_id_26 : decode prog_1_method_9_code 26 = .ok (.lreturn, 1) := by decide +kernel
theorem jd_S_id_27 : decode prog_1_method_9_code 27 = .ok (.aload_n 2, 1) := by decide +kernel
theorem jd_S_id_28 : decode prog_1_method_9_code 28 = .ok (.getfield 100, 3) := by decide +kernel
theorem jd_S_id_31 : decode prog_1_method_9_code 31 = .ok (.ifCond .eq 8, 3) := by decide +kernel
theorem jd_S_id_34 : decode prog_1_method_9_code 34 = .ok (.aload_n 2, 1) := by decide +kernel
theorem jd_S_id_35 : decode prog_1_method_9_code 35 = .ok (.getfield 104, 3) := by decide +kernel
theorem jd_S_id_38 : decode prog_1_method_9_code 38 = .ok (.lreturn, 1) := by decide +kernel
theorem jd_S_id_39 : decode prog_1_method_9_code 39 = .ok (.aload_n 0, 1) := by decide +kernel
theorem jd_S_id_40 : decode prog_1_method_9_code 40 = .ok (.getfield 28, 3) := by decide +kernel
theorem jd_S_id_43 : decode prog_1_method_9_code 43 = .ok (.aload_n 2, 1) := by decide +kernel
theorem jd_S_id_44 : decode prog_1_method_9_code 44 = .ok (.invokevirtual 113, 3) := by decide +kernel
theorem jd_S_id_47 : decode prog_1_method_9_code 47 = .ok (.aload_n 0, 1) := by decide +kernel
theorem jd_S_id_48 : decode prog_1_method_9_code 48 = .ok (.getfield 35, 3) := by decide +kernel
theorem jd_S_id_51 : decode prog_1_method_9_code 51 = .ok (.aload_n 0, 1) := by decide +kernel
theorem jd_S_id_52 : decode prog_1_method_9_code 52 = .ok (.getfield 28, 3) := by decide +kernel
theorem jd_S_id_55 : decode prog_1_method_9_code 55 = .ok (.invokevirtual 117, 3) := by decide +kernel
theorem jd_S_id_58 : decode prog_1_method_9_code 58 = .ok (.aload_n 0, 1) := by decide +kernel
theorem jd_S_id_59 : decode prog_1_method_9_code 59 = .ok (.getfield 35, 3) := by decide +kernel
theorem jd_S_id_62 : decode prog_1_method_9_code 62 = .ok (.invokevirtual 121, 3) := by decide +kernel
theorem jd_S_id_65 : decode prog_1_method_9_code 65 = .ok (.lreturn, 1) := by decide +kernel
theorem jd_L_write_0 : decode prog_5_method_2_code 0 = .ok (.aload_n 0, 1) := by decide +kernel
theorem jd_L_write_1 : decode prog_5_method_2_code 1 = .ok (.iconst 0, 1) := by decide +kernel
theorem jd_L_write_2 : decode prog_5_method_2_code 2 = .ok (.putfield 15, 3) := by decide +kernel
theorem jd_L_write_5 : decode prog_5_method_2_code 5 = .ok (.aload_n 0, 1) := by decide +kernel
theorem jd_L_write_6 : decode prog_5_method_2_code 6 = .ok (.getfield 19, 3) := by decide +kernel
theorem jd_L_write_9 : decode prog_5_method_2_code 9 = .ok (.iconst 0, 1) := by decide +kernel
theorem jd_L_write_10 : decode prog_5_method_2_code 10 = .ok (.aload_n 0, 1) := by decide +kernel
theorem jd_L_write_11 : decode prog_5_method_2_code 11 = .ok (.getfield 15, 3) := by decide +kernel
theorem jd_L_write_14 : decode prog_5_method_2_code 14 = .ok (.iastore, 1) := by decide +kernel
theorem jd_L_write_15 : decode prog_5_method_2_code 15 = .ok (.aload_n 0, 1) := by decide +kernel
theorem jd_L_write_16 : decode prog_5_method_2_code 16 = .ok (.aload_n 1, 1) := by decide +kernel
theorem jd_L_write_17 : decode prog_5_method_2_code 17 = .ok (.getfield 23, 3) := by decide +kernel
theorem jd_L_write_20 : decode prog_5_method_2_code 20 = .ok (.invokevirtual 29, 3) := by decide +kernel
theorem jd_L_write_23 : decode prog_5_method_2_code 23 = .ok (.aload_n 0, 1) := by decide +kernel
theorem jd_L_write_24 : decode prog_5_method_2_code 24 = .ok (.aload_n 1, 1) := by decide +kernel
theorem jd_L_write_25 : decode prog_5_method_2_code 25 = .ok (.invokevirtual 33, 3) := by decide +kernel
theorem jd_L_write_28 : decode prog_5_method_2_code 28 = .ok (.invokevirtual 37, 3) := by decide +kernel
theorem jd_L_write_31 : decode prog_5_method_2_code 31 = .ok (.aload_n 0, 1) := by decide +kernel
theorem jd_L_write_32 : decode prog_5_method_2_code 32 = .ok (.getfield 19, 3) := by decide +kernel
theorem jd_L_write_35 : decode prog_5_method_2_code 35 = .ok (.iconst 1, 1) := by decide +kernel
theorem jd_L_write_36 : decode prog_5_method_2_code 36 = .ok (.aload_n 0, 1) := by decide +kernel
theorem jd_L_write_37 : decode prog_5_method_2_code 37 = .ok (.getfield 15, 3) := by decide +kernel
theorem jd_L_write_40 : decode prog_5_method_2_code 40 = .ok (.iastore, 1) := by decide +kernel
theorem jd_L_write_41 : decode prog_5_method_2_code 41 = .ok (.aload_n 0, 1) := by decide +kernel
theorem jd_L_write_42 : decode prog_5_method_2_code 42 = .ok (.aload_n 1, 1) := by decide +kernel
theorem jd_L_write_43 : decode prog_5_method_2_code 43 = .ok (.getfield 41, 3) := by decide +kernel
theorem jd_L_write_46 : decode prog_5_method_2_code 46 = .ok (.iconst 4, 1) := by decide +kernel
theorem jd_L_write_47 : decode prog_5_method_2_code 47 = .ok (.invokevirtual 45, 3) := by decide +kernel
theorem jd_L_write_50 : decode prog_5_method_2_code 50 = .ok (.aload_n 0, 1) := by decide +kernel
theorem jd_L_write_51 : decode prog_5_method_2_code 51 = .ok (.getfield 19, 3) := by decide +kernel
theorem jd_L_write_54 : decode prog_5_method_2_code 54 = .ok (.iconst 2, 1) := by decide +kernel
theorem jd_L_write_55 : decode prog_5_method_2_code 55 = .ok (.aload_n 0, 1) := by decide +kernel
theorem jd_L_write_56 : decode prog_5_method_2_code 56 = .ok (.getfield 15, 3) := by decide +kernel
theorem jd_L_write_59 : decode prog_5_method_2_code 59 = .ok (.iastore, 1) := by decide +kernel
theorem jd_L_write_60 : decode prog_5_method_2_code 60 = .ok (.aload_n 0, 1) := by decide +kernel
theorem jd_L_write_61 : decode prog_5_method_2_code 61 = .ok (.aload_n 1, 1) := by decide +kernel
theorem jd_L_write_62 : decode prog_5_method_2_code 62 = .ok (.getfield 49, 3) := by decide +kernel
theorem jd_L_write_65 : decode prog_5_method_2_code 65 = .ok (.iconst 0, 1) := by decide +kernel
theorem jd_L_write_66 : decode prog_5_method_2_code 66 = .ok (.invokevirtual 45, 3) := by decide +kernel
theorem jd_L_write_69 : decode prog_5_method_2_code 69 = .ok (.aload_n 0, 1) := by decide +kernel
theorem jd_L_write_70 : decode prog_5_method_2_code 70 = .ok (.getfield 19, 3) := by decide +kernel
theorem jd_L_write_73 : decode prog_5_method_2_code 73 = .ok (.iconst 3, 1) := by decide +kernel
theorem jd_L_write_74 : decode prog_5_method_2_code 74 = .ok (.aload_n 0, 1) := by decide +kernel
theorem jd_L_write_75 : decode prog_5_method_2_code 75 = .ok (.getfield 15, 3) := by decide +kernel
theorem jd_L_write_78 : decode prog_5_method_2_code 78 = .ok (.iastore, 1) := by decide +kernel
theorem jd_L_write_79 : decode prog_5_method_2_code 79 = .ok (.aload_n 0, 1) := by decide +kernel
theorem jd_L_write_80 : decode prog_5_method_2_code 80 = .ok (.aload_n 1, 1) := by decide +kernel
theorem jd_L_write_81 : decode prog_5_method_2_code 81 = .ok (.getfield 49, 3) := by decide +kernel
theorem jd_L_write_84 : decode prog_5_method_2_code 84 = .ok (.iconst 3, 1) := by decide +kernel
theorem jd_L_write_85 : decode prog_5_method_2_code 85 = .ok (.invokevirtual 45, 3) := by decide +kernel
theorem jd_L_write_88 : decode prog_5_method_2_code 88 = .ok (.aload_n 0, 1) := by decide +kernel
theorem jd_L_write_89 : decode prog_5_method_2_code 89 = .ok (.getfield 19, 3) := by decide +kernel
theorem jd_L_write_92 : decode prog_5_method_2_code 92 = .ok (.iconst 4, 1) := by decide +kernel
theorem jd_L_write_93 : decode prog_5_method_2_code 93 = .ok (.aload_n 0, 1) := by decide +kernel
theorem jd_L_write_94 : decode prog_5_method_2_code 94 = .ok (.getfield 15, 3) := by decide +kernel
theorem jd_L_write_97 : decode prog_5_method_2_code 97 = .ok (.iastore, 1) := by decide +kernel
theorem jd_L_write_98 : decode prog_5_method_2_code 98 = .ok (.aload_n 0, 1) := by decide +kernel
theorem jd_L_write_99 : decode prog_5_method_2_code 99 = .ok (.aload_n 1, 1) := by decide +kernel
theorem jd_L_write_100 : decode prog_5_method_2_code 100 = .ok (.getfield 49, 3) := by decide +kernel
theorem jd_L_write_103 : decode prog_5_method_2_code 103 = .ok (.iconst 1, 1) := by decide +kernel
theorem jd_L_write_104 : decode prog_5_method_2_code 104 = .ok (.invokevirtual 45, 3) := by decide +kernel
theorem jd_L_write_107 : decode prog_5_method_2_code 107 = .ok (.aload_n 0, 1) := by decide +kernel
theorem jd_L_write_108 : decode prog_5_method_2_code 108 = .ok (.getfield 19, 3) := by decide +kernel
theorem jd_L_write_111 : decode prog_5_method_2_code 111 = .ok (.iconst 5, 1) := by decide +kernel
theorem jd_L_write_112 : decode prog_5_method_2_code 112 = .ok (.aload_n 0, 1) := by decide +kernel
theorem jd_L_write_113 : decode prog_5_method_2_code 113 = .ok (.getfield 15, 3) := by decide +kernel
theorem jd_L_write_116 : decode prog_5_method_2_code 116 = .ok (.iastore, 1) := by decide +kernel
theorem jd_L_write_117 : decode prog_5_method_2_code 117 = .ok (.aload_n 0, 1) := by decide +kernel
theorem jd_L_write_118 : decode prog_5_method_2_code 118 = .ok (.aload_n 1, 1) := by decide +kernel
theorem jd_L_write_119 : decode prog_5_method_2_code 119 = .ok (.getfield 49, 3) := by decide +kernel
theorem jd_L_write_122 : decode prog_5_method_2_code 122 = .ok (.iconst 2, 1) := by decide +kernel
theorem jd_L_write_123 : decode prog_5_method_2_code 123 = .ok (.invokevirtual 45, 3) := by decide +kernel
theorem jd_L_write_126 : decode prog_5_method_2_code 126 = .ok (.return_, 1) := by decide +kernel
theorem jd_L_putText_0 : decode prog_5_method_6_code 0 = .ok (.aload_n 0, 1) := by decide +kernel
theorem jd_L_putText_1 : decode prog_5_method_6_code 1 = .ok (.aload_n 1, 1) := by decide +kernel
theorem jd_L_putText_2 : decode prog_5_method_6_code 2 = .ok (.getfield 92, 3) := by decide +kernel
theorem jd_L_putText_5 : decode prog_5_method_6_code 5 = .ok (.invokevirtual 95, 3) := by decide +kernel
theorem jd_L_putText_8 : decode prog_5_method_6_code 8 = .ok (.iconst 0, 1) := by decide +kernel
theorem jd_L_putText_9 : decode prog_5_method_6_code 9 = .ok (.istore_n 2, 1) := by decide +kernel
theorem jd_L_putText_10 : decode prog_5_method_6_code 10 = .ok (.iload_n 2, 1) := by decide +kernel
theorem jd_L_putText_11 : decode prog_5_method_6_code 11 = .ok (.aload_n 1, 1) := by decide +kernel
theorem jd_L_putText_12 : decode prog_5_method_6_code 12 = .ok (.getfield 92, 3) := by decide +kernel
theorem jd_L_putText_15 : decode prog_5_method_6_code 15 = .ok (.if_icmp .ge 18, 3) := by decide +kernel
theorem jd_L_putText_18 : decode prog_5_method_6_code 18 = .ok (.aload_n 0, 1) := by decide +kernel
theorem jd_L_putText_19 : decode prog_5_method_6_code 19 = .ok (.aload_n 1, 1) := by decide +kernel
theorem jd_L_putText_20 : decode prog_5_method_6_code 20 = .ok (.iload_n 2, 1) := by decide +kernel
theorem jd_L_putText_21 : decode prog_5_method_6_code 21 = .ok (.invokevirtual 98, 3) := by decide +kernel
theorem jd_L_putText_24 : decode prog_5_method_6_code 24 = .ok (.invokevirtual 102, 3) := by decide +kernel
theorem jd_L_putText_27 : decode prog_5_method_6_code 27 = .ok (.iinc 2 1, 3) := by decide +kernel
theorem jd_L_putText_30 : decode prog_5_method_6_code 30 = .ok (.goto (-20), 3) := by decide +kernel
theorem jd_L_putText_33 : decode prog_5_method_6_code 33 = .ok (.return_, 1) := by decide +kernel
theorem jd_L_putLength_0 : decode prog_5_method_9_code 0 = .ok (.aload_n 0, 1) := by decide +kernel
theorem jd_L_putLength_1 : decode prog_5_method_9_code 1 = .ok (.iload_n 1, 1) := by decide +kernel
theorem jd_L_putLength_2 : decode prog_5_method_9_code 2 = .ok (.bipush 8, 2) := by decide +kernel
theorem jd_L_putLength_4 : decode prog_5_method_9_code 4 = .ok (.iushr, 1) := by decide +kernel
theorem jd_L_putLength_5 : decode prog_5_method_9_code 5 = .ok (.invokevirtual 102, 3) := by decide +kernel
theorem jd_L_putLength_8 : decode prog_5_method_9_code 8 = .ok (.aload_n 0, 1) := by decide +kernel
theorem jd_L_putLength_9 : decode prog_5_method_9_code 9 = .ok (.iload_n 1, 1) := by decide +kernel
theorem jd_L_putLength_10 : decode prog_5_method_9_code 10 = .ok (.invokevirtual 102, 3) := by decide +kernel
theorem jd_L_putLength_13 : decode prog_5_method_9_code 13 = .ok (.return_, 1) := by decide +kernel
theorem jd_L_put_0 : decode prog_5_method_11_code 0 = .ok (.aload_n 0, 1) := by decide +kernel
theorem jd_L_put_1 : decode prog_5_method_11_code 1 = .ok (.getfield 15, 3) := by decide +kernel
theorem jd_L_put_4 : decode prog_5_method_11_code 4 = .ok (.sipush 694, 3) := by decide +kernel
theorem jd_L_put_7 : decode prog_5_method_11_code 7 = .ok (.if_icmp .ge 24, 3) := by decide +kernel
theorem jd_L_put_10 : decode prog_5_method_11_code 10 = .ok (.aload_n 0, 1) := by decide +kernel
theorem jd_L_put_11 : decode prog_5_method_11_code 11 = .ok (.getfield 9, 3) := by decide +kernel
theorem jd_L_put_14 : decode prog_5_method_11_code 14 = .ok (.aload_n 0, 1) := by decide +kernel
theorem jd_L_put_15 : decode prog_5_method_11_code 15 = .ok (.getfield 15, 3) := by decide +kernel
theorem jd_L_put_18 : decode prog_5_method_11_code 18 = .ok (.iload_n 1, 1) := by decide +kernel
theorem jd_L_put_19 : decode prog_5_method_11_code 19 = .ok (.i2b, 1) := by decide +kernel
theorem jd_L_put_20 : decode prog_5_method_11_code 20 = .ok (.bastore, 1) := by decide +kernel
theorem jd_L_put_21 : decode prog_5_method_11_code 21 = .ok (.aload_n 0, 1) := by decide +kernel
theorem jd_L_put_22 : decode prog_5_method_11_code 22 = .ok (.dup, 1) := by decide +kernel
theorem jd_L_put_23 : decode prog_5_method_11_code 23 = .ok (.getfield 15, 3) := by decide +kernel
theorem jd_L_put_26 : decode prog_5_method_11_code 26 = .ok (.iconst 1, 1) := by decide +kernel
theorem jd_L_put_27 : decode prog_5_method_11_code 27 = .ok (.iadd, 1) := by decide +kernel
theorem jd_L_put_28 : decode prog_5_method_11_code 28 = .ok (.putfield 15, 3) := by decide +kernel
theorem jd_L_put_31 : decode prog_5_method_11_code 31 = .ok (.return_, 1) := by decide +kernel
theorem jd_D_hashedModifiers_0 : decode prog_2_method_3_code 0 = .ok (.aload_n 0, 1) := by decide +kernel
theorem jd_D_hashedModifiers_1 : decode prog_2_method_3_code 1 = .ok (.getfield 22, 3) := by decide +kernel
theorem jd_D_hashedModifiers_4 : decode prog_2_method_3_code 4 = .ok (.sipush 1553, 3) := by decide +kernel
theorem jd_D_hashedModifiers_7 : decode prog_2_method_3_code 7 = .ok (.iand, 1) := by decide +kernel
theorem jd_D_hashedModifiers_8 : decode prog_2_method_3_code 8 = .ok (.istore_n 1, 1) := by decide +kernel
theorem jd_D_hashedModifiers_9 : decode prog_2_method_3_code 9 = .ok (.aload_n 0, 1) := by decide +kernel
theorem jd_D_hashedModifiers_10 : decode prog_2_method_3_code 10 = .ok (.getfield 22, 3) := by decide +kernel
theorem jd_D_hashedModifiers_13 : decode prog_2_method_3_code 13 = .ok (.sipush 512, 3) := by decide +kernel
theorem jd_D_hashedModifiers_16 : decode prog_2_method_3_code 16 = .ok (.iand, 1) := by decide +kernel
theorem jd_D_hashedModifiers_17 : decode prog_2_method_3_code 17 = .ok (.ifCond .ne 5, 3) := by decide +kernel
theorem jd_D_hashedModifiers_20 : decode prog_2_method_3_code 20 = .ok (.iload_n 1, 1) := by decide +kernel
theorem jd_D_hashedModifiers_21 : decode prog_2_method_3_code 21 = .ok (.ireturn, 1) := by decide +kernel
theorem jd_D_hashedModifiers_22 : decode prog_2_method_3_code 22 = .ok (.aload_n 0, 1) := by decide +kernel
theorem jd_D_hashedModifiers_23 : decode prog_2_method_3_code 23 = .ok (.getfield 35, 3) := by decide +kernel
theorem jd_D_hashedModifiers_26 : decode prog_2_method_3_code 26 = .ok (.iconst 2, 1) := by decide +kernel
theorem jd_D_hashedModifiers_27 : decode prog_2_method_3_code 27 = .ok (.invokevirtual 52, 3) := by decide +kernel
theorem jd_D_hashedModifiers_30 : decode prog_2_method_3_code 30 = .ok (.ifCond .le 11, 3) := by decide +kernel
theorem jd_D_hashedModifiers_33 : decode prog_2_method_3_code 33 = .ok (.iload_n 1, 1) := by decide +kernel
theorem jd_D_hashedModifiers_34 : decode prog_2_method_3_code 34 = .ok (.sipush 1024, 3) := by decide +kernel
theorem jd_D_hashedModifiers_37 : decode prog_2_method_3_code 37 = .ok (.ior, 1) := by decide +kernel
theorem jd_D_hashedModifiers_38 : decode prog_2_method_3_code 38 = .ok (.goto 8, 3) := by decide +kernel
theorem jd_D_hashedModifiers_41 : decode prog_2_method_3_code 41 = .ok (.iload_n 1, 1) := by decide +kernel
theorem jd_D_hashedModifiers_42 : decode prog_2_method_3_code 42 = .ok (.sipush (-1025), 3) := by decide +kernel
theorem jd_D_hashedModifiers_45 : decode prog_2_method_3_code 45 = .ok (.iand, 1) := by decide +kernel
theorem jd_D_hashedModifiers_46 : decode prog_2_method_3_code 46 = .ok (.ireturn, 1) := by decide +kernel
theorem jd_R_tally_0 : decode prog_6_method_4_code 0 = .ok (.iconst 0, 1) := by decide +kernel
theorem jd_R_tally_1 : decode prog_6_method_4_code 1 = .ok (.istore_n 2, 1) := by decide +kernel
theorem jd_R_tally_2 : decode prog_6_method_4_code 2 = .ok (.iconst 0, 1) := by decide +kernel
theorem jd_R_tally_3 : decode prog_6_method_4_code 3 = .ok (.istore_n 3, 1) := by decide +kernel
theorem jd_R_tally_4 : decode prog_6_method_4_code 4 = .ok (.iload_n 3, 1) := by decide +kernel
theorem jd_R_tally_5 : decode prog_6_method_4_code 5 = .ok (.aload_n 0, 1) := by decide +kernel
theorem jd_R_tally_6 : decode prog_6_method_4_code 6 = .ok (.getfield 9, 3) := by decide +kernel
theorem jd_R_tally_9 : decode prog_6_method_4_code 9 = .ok (.if_icmp .ge 25, 3) := by decide +kernel
theorem jd_R_tally_12 : decode prog_6_method_4_code 12 = .ok (.aload_n 0, 1) := by decide +kernel
theorem jd_R_tally_13 : decode prog_6_method_4_code 13 = .ok (.getfield 17, 3) := by decide +kernel
theorem jd_R_tally_16 : decode prog_6_method_4_code 16 = .ok (.iload_n 3, 1) := by decide +kernel
theorem jd_R_tally_17 : decode prog_6_method_4_code 17 = .ok (.aaload, 1) := by decide +kernel
theorem jd_R_tally_18 : decode prog_6_method_4_code 18 = .ok (.getfield 34, 3) := by decide +kernel
theorem jd_R_tally_21 : decode prog_6_method_4_code 21 = .ok (.iload_n 1, 1) := by decide +kernel
theorem jd_R_tally_22 : decode prog_6_method_4_code 22 = .ok (.if_icmp .ne 6, 3) := by decide +kernel
theorem jd_R_tally_25 : decode prog_6_method_4_code 25 = .ok (.iinc 2 1, 3) := by decide +kernel
theorem jd_R_tally_28 : decode prog_6_method_4_code 28 = .ok (.iinc 3 1, 3) := by decide +kernel
theorem jd_R_tally_31 : decode prog_6_method_4_code 31 = .ok (.goto (-27), 3) := by decide +kernel
theorem jd_R_tally_34 : decode prog_6_method_4_code 34 = .ok (.iload_n 2, 1) := by decide +kernel
theorem jd_R_tally_35 : decode prog_6_method_4_code 35 = .ok (.ireturn, 1) := by decide +kernel
theorem jd_L_putNumber_0 : decode prog_5_method_10_code 0 = .ok (.aload_n 0, 1) := by decide +kernel
theorem jd_L_putNumber_1 : decode prog_5_method_10_code 1 = .ok (.iload_n 1, 1) := by decide +kernel
theorem jd_L_putNumber_2 : decode prog_5_method_10_code 2 = .ok (.bipush 24, 2) := by decide +kernel
theorem jd_L_putNumber_4 : decode prog_5_method_10_code 4 = .ok (.iushr, 1) := by decide +kernel
theorem jd_L_putNumber_5 : decode prog_5_method_10_code 5 = .ok (.invokevirtual 102, 3) := by decide +kernel
theorem jd_L_putNumber_8 : decode prog_5_method_10_code 8 = .ok (.aload_n 0, 1) := by decide +kernel
theorem jd_L_putNumber_9 : decode prog_5_method_10_code 9 = .ok (.iload_n 1, 1) := by decide +kernel
theorem jd_L_putNumber_10 : decode prog_5_method_10_code 10 = .ok (.bipush 16, 2) := by decide +kernel
theorem jd_L_putNumber_12 : decode prog_5_method_10_code 12 = .ok (.iushr, 1) := by decide +kernel
theorem jd_L_putNumber_13 : decode prog_5_method_10_code 13 = .ok (.invokevirtual 102, 3) := by decide +kernel
theorem jd_L_putNumber_16 : decode prog_5_method_10_code 16 = .ok (.aload_n 0, 1) := by decide +kernel
theorem jd_L_putNumber_17 : decode prog_5_method_10_code 17 = .ok (.iload_n 1, 1) := by decide +kernel
theorem jd_L_putNumber_18 : decode prog_5_method_10_code 18 = .ok (.bipush 8, 2) := by decide +kernel
theorem jd_L_putNumber_20 : decode prog_5_method_10_code 20 = .ok (.iushr, 1) := by decide +kernel
theorem jd_L_putNumber_21 : decode prog_5_method_10_code 21 = .ok (.invokevirtual 102, 3) := by decide +kernel
theorem jd_L_putNumber_24 : decode prog_5_method_10_code 24 = .ok (.aload_n 0, 1) := by decide +kernel
theorem jd_L_putNumber_25 : decode prog_5_method_10_code 25 = .ok (.iload_n 1, 1) := by decide +kernel
theorem jd_L_putNumber_26 : decode prog_5_method_10_code 26 = .ok (.invokevirtual 102, 3) := by decide +kernel
theorem jd_L_putNumber_29 : decode prog_5_method_10_code 29 = .ok (.return_, 1) := by decide +kernel
theorem jd_L_putAll_0 : decode prog_5_method_4_code 0 = .ok (.iconst 0, 1) := by decide +kernel
theorem jd_L_putAll_1 : decode prog_5_method_4_code 1 = .ok (.istore_n 3, 1) := by decide +kernel
theorem jd_L_putAll_2 : decode prog_5_method_4_code 2 = .ok (.iload_n 3, 1) := by decide +kernel
theorem jd_L_putAll_3 : decode prog_5_method_4_code 3 = .ok (.aload_n 1, 1) := by decide +kernel
theorem jd_L_putAll_4 : decode prog_5_method_4_code 4 = .ok (.getfield 52, 3) := by decide +kernel
theorem jd_L_putAll_7 : decode prog_5_method_4_code 7 = .ok (.if_icmp .ge 40, 3) := by decide +kernel
theorem jd_L_putAll_10 : decode prog_5_method_4_code 10 = .ok (.aload_n 1, 1) := by decide +kernel
theorem jd_L_putAll_11 : decode prog_5_method_4_code 11 = .ok (.getfield 57, 3) := by decide +kernel
theorem jd_L_putAll_14 : decode prog_5_method_4_code 14 = .ok (.iload_n 3, 1) := by decide +kernel
theorem jd_L_putAll_15 : decode prog_5_method_4_code 15 = .ok (.aaload, 1) := by decide +kernel
theorem jd_L_putAll_16 : decode prog_5_method_4_code 16 = .ok (.astore 4, 2) := by decide +kernel
theorem jd_L_putAll_18 : decode prog_5_method_4_code 18 = .ok (.aload 4, 2) := by decide +kernel
theorem jd_L_putAll_20 : decode prog_5_method_4_code 20 = .ok (.getfield 61, 3) := by decide +kernel
theorem jd_L_putAll_23 : decode prog_5_method_4_code 23 = .ok (.iload_n 2, 1) := by decide +kernel
theorem jd_L_putAll_24 : decode prog_5_method_4_code 24 = .ok (.if_icmp .ne 17, 3) := by decide +kernel
theorem jd_L_putAll_27 : decode prog_5_method_4_code 27 = .ok (.aload 4, 2) := by decide +kernel
theorem jd_L_putAll_29 : decode prog_5_method_4_code 29 = .ok (.invokevirtual 66, 3) := by decide +kernel
theorem jd_L_putAll_32 : decode prog_5_method_4_code 32 = .ok (.ifCond .eq 9, 3) := by decide +kernel
theorem jd_L_putAll_35 : decode prog_5_method_4_code 35 = .ok (.aload_n 0, 1) := by decide +kernel
theorem jd_L_putAll_36 : decode prog_5_method_4_code 36 = .ok (.aload 4, 2) := by decide +kernel
theorem jd_L_putAll_38 : decode prog_5_method_4_code 38 = .ok (.invokevirtual 70, 3) := by decide +kernel
theorem jd_L_putAll_41 : decode prog_5_method_4_code 41 = .ok (.iinc 3 1, 3) := by decide +kernel
theorem jd_L_putAll_44 : decode prog_5_method_4_code 44 = .ok (.goto (-42), 3) := by decide +kernel
theorem jd_L_putAll_47 : decode prog_5_method_4_code 47 = .ok (.return_, 1) := by decide +kernel
theorem jd_E_isHashed_0 : decode prog_4_method_5_code 0 = .ok (.aload_n 0, 1) := by decide +kernel
theorem jd_E_isHashed_1 : decode prog_4_method_5_code 1 = .ok (.getfield 9, 3) := by decide +kernel
theorem jd_E_isHashed_4 : decode prog_4_method_5_code 4 = .ok (.ifCond .ne 36, 3) := by decide +kernel
theorem jd_E_isHashed_7 : decode prog_4_method_5_code 7 = .ok (.aload_n 0, 1) := by decide +kernel
theorem jd_E_isHashed_8 : decode prog_4_method_5_code 8 = .ok (.iconst 2, 1) := by decide +kernel
theorem jd_E_isHashed_9 : decode prog_4_method_5_code 9 = .ok (.invokevirtual 36, 3) := by decide +kernel
theorem jd_E_isHashed_12 : decode prog_4_method_5_code 12 = .ok (.ifCond .eq 22, 3) := by decide +kernel
theorem jd_E_isHashed_15 : decode prog_4_method_5_code 15 = .ok (.aload_n 0, 1) := by decide +kernel
theorem jd_E_isHashed_16 : decode prog_4_method_5_code 16 = .ok (.bipush 8, 2) := by decide +kernel
theorem jd_E_isHashed_18 : decode prog_4_method_5_code 18 = .ok (.invokevirtual 36, 3) := by decide +kernel
theorem jd_E_isHashed_21 : decode prog_4_method_5_code 21 = .ok (.ifCond .ne 17, 3) := by decide +kernel
theorem jd_E_isHashed_24 : decode prog_4_method_5_code 24 = .ok (.aload_n 0, 1) := by decide +kernel
theorem jd_E_isHashed_25 : decode prog_4_method_5_code 25 = .ok (.sipush 128, 3) := by decide +kernel
theorem jd_E_isHashed_28 : decode prog_4_method_5_code 28 = .ok (.invokevirtual 36, 3) := by decide +kernel
theorem jd_E_isHashed_31 : decode prog_4_method_5_code 31 = .ok (.ifCond .ne 7, 3) := by decide +kernel
theorem jd_E_isHashed_34 : decode prog_4_method_5_code 34 = .ok (.iconst 1, 1) := by decide +kernel
theorem jd_E_isHashed_35 : decode prog_4_method_5_code 35 = .ok (.goto 4, 3) := by decide +kernel
theorem jd_E_isHashed_38 : decode prog_4_method_5_code 38 = .ok (.iconst 0, 1) := by decide +kernel
theorem jd_E_isHashed_39 : decode prog_4_method_5_code 39 = .ok (.ireturn, 1) := by decide +kernel
theorem jd_E_isHashed_40 : decode prog_4_method_5_code 40 = .ok (.aload_n 0, 1) := by decide +kernel
theorem jd_E_isHashed_41 : decode prog_4_method_5_code 41 = .ok (.getfield 9, 3) := by decide +kernel
theorem jd_E_isHashed_44 : decode prog_4_method_5_code 44 = .ok (.iconst 4, 1) := by decide +kernel
theorem jd_E_isHashed_45 : decode prog_4_method_5_code 45 = .ok (.if_icmp .eq 19, 3) := by decide +kernel
theorem jd_E_isHashed_48 : decode prog_4_method_5_code 48 = .ok (.aload_n 0, 1) := by decide +kernel
theorem jd_E_isHashed_49 : decode prog_4_method_5_code 49 = .ok (.getfield 9, 3) := by decide +kernel
theorem jd_E_isHashed_52 : decode prog_4_method_5_code 52 = .ok (.iconst 3, 1) := by decide +kernel
theorem jd_E_isHashed_53 : decode prog_4_method_5_code 53 = .ok (.if_icmp .eq 11, 3) := by decide +kernel
theorem jd_E_isHashed_56 : decode prog_4_method_5_code 56 = .ok (.aload_n 0, 1) := by decide +kernel
theorem jd_E_isHashed_57 : decode prog_4_method_5_code 57 = .ok (.iconst 2, 1) := by decide +kernel
theorem jd_E_isHashed_58 : decode prog_4_method_5_code 58 = .ok (.invokevirtual 36, 3) := by decide +kernel
theorem jd_E_isHashed_61 : decode prog_4_method_5_code 61 = .ok (.ifCond .ne 7, 3) := by decide +kernel
theorem jd_E_isHashed_64 : decode prog_4_method_5_code 64 = .ok (.iconst 1, 1) := by decide +kernel
theorem jd_E_isHashed_65 : decode prog_4_method_5_code 65 = .ok (.goto 4, 3) := by decide +kernel
theorem jd_E_isHashed_68 : decode prog_4_method_5_code 68 = .ok (.iconst 0, 1) := by decide +kernel
theorem jd_E_isHashed_69 : decode prog_4_method_5_code 69 = .ok (.ireturn, 1) := by decide +kernel
theorem jd_E_has_0 : decode prog_4_method_4_code 0 = .ok (.aload_n 0, 1) := by decide +kernel
theorem jd_E_has_1 : decode prog_4_method_4_code 1 = .ok (.getfield 15, 3) := by decide +kernel
theorem jd_E_has_4 : decode prog_4_method_4_code 4 = .ok (.iload_n 1, 1) := by decide +kernel
theorem jd_E_has_5 : decode prog_4_method_4_code 5 = .ok (.iand, 1) := by decide +kernel
theorem jd_E_has_6 : decode prog_4_method_4_code 6 = .ok (.ifCond .eq 7, 3) := by decide +kernel
theorem jd_E_has_9 : decode prog_4_method_4_code 9 = .ok (.iconst 1, 1) := by decide +kernel
theorem jd_E_has_10 : decode prog_4_method_4_code 10 = .ok (.goto 4, 3) := by decide +kernel
theorem jd_E_has_13 : decode prog_4_method_4_code 13 = .ok (.iconst 0, 1) := by decide +kernel
theorem jd_E_has_14 : decode prog_4_method_4_code 14 = .ok (.ireturn, 1) := by decide +kernel
theorem jd_L_putEntry_0 : decode prog_5_method_5_code 0 = .ok (.aload_n 1, 1) := by decide +kernel
theorem jd_L_putEntry_1 : decode prog_5_method_5_code 1 = .ok (.getfield 61, 3) := by decide +kernel
theorem jd_L_putEntry_4 : decode prog_5_method_5_code 4 = .ok (.tableswitch 144 0 3 #[32, 84, 113, 63], 32) := by decide +kernel
theorem jd_L_putEntry_36 : decode prog_5_method_5_code 36 = .ok (.aload_n 0, 1) := by decide +kernel
theorem jd_L_putEntry_37 : decode prog_5_method_5_code 37 = .ok (.aload_n 1, 1) := by decide +kernel
theorem jd_L_putEntry_38 : decode prog_5_method_5_code 38 = .ok (.getfield 74, 3) := by decide +kernel
theorem jd_L_putEntry_41 : decode prog_5_method_5_code 41 = .ok (.invokevirtual 29, 3) := by decide +kernel
theorem jd_L_putEntry_44 : decode prog_5_method_5_code 44 = .ok (.aload_n 0, 1) := by decide +kernel
theorem jd_L_putEntry_45 : decode prog_5_method_5_code 45 = .ok (.aload_n 1, 1) := by decide +kernel
theorem jd_L_putEntry_46 : decode prog_5_method_5_code 46 = .ok (.getfield 75, 3) := by decide +kernel
theorem jd_L_putEntry_49 : decode prog_5_method_5_code 49 = .ok (.sipush 223, 3) := by decide +kernel
theorem jd_L_putEntry_52 : decode prog_5_method_5_code 52 = .ok (.iand, 1) := by decide +kernel
theorem jd_L_putEntry_53 : decode prog_5_method_5_code 53 = .ok (.invokevirtual 37, 3) := by decide +kernel
theorem jd_L_putEntry_56 : decode prog_5_method_5_code 56 = .ok (.aload_n 0, 1) := by decide +kernel
theorem jd_L_putEntry_57 : decode prog_5_method_5_code 57 = .ok (.aload_n 1, 1) := by decide +kernel
theorem jd_L_putEntry_58 : decode prog_5_method_5_code 58 = .ok (.getfield 78, 3) := by decide +kernel
theorem jd_L_putEntry_61 : decode prog_5_method_5_code 61 = .ok (.invokevirtual 29, 3) := by decide +kernel
theorem jd_L_putEntry_64 : decode prog_5_method_5_code 64 = .ok (.goto 92, 3) := by decide +kernel
theorem jd_L_putEntry_67 : decode prog_5_method_5_code 67 = .ok (.aload_n 0, 1) := by decide +kernel
theorem jd_L_putEntry_68 : decode prog_5_method_5_code 68 = .ok (.ldc 81, 2) := by decide +kernel
theorem jd_L_putEntry_70 : decode prog_5_method_5_code 70 = .ok (.invokevirtual 83, 3) := by decide +kernel
theorem jd_L_putEntry_73 : decode prog_5_method_5_code 73 = .ok (.aload_n 0, 1) := by decide +kernel
theorem jd_L_putEntry_74 : decode prog_5_method_5_code 74 = .ok (.bipush 8, 2) := by decide +kernel
theorem jd_L_putEntry_76 : decode prog_5_method_5_code 76 = .ok (.invokevirtual 37, 3) := by decide +kernel
theorem jd_L_putEntry_79 : decode prog_5_method_5_code 79 = .ok (.aload_n 0, 1) := by decide +kernel
theorem jd_L_putEntry_80 : decode prog_5_method_5_code 80 = .ok (.ldc 87, 2) := by decide +kernel
theorem jd_L_putEntry_82 : decode prog_5_method_5_code 82 = .ok (.invokevirtual 83, 3) := by decide +kernel
theorem jd_L_putEntry_85 : decode prog_5_method_5_code 85 = .ok (.goto 71, 3) := by decide +kernel
theorem jd_L_putEntry_88 : decode prog_5_method_5_code 88 = .ok (.aload_n 0, 1) := by decide +kernel
theorem jd_L_putEntry_89 : decode prog_5_method_5_code 89 = .ok (.ldc 88, 2) := by decide +kernel
theorem jd_L_putEntry_91 : decode prog_5_method_5_code 91 = .ok (.invokevirtual 83, 3) := by decide +kernel
theorem jd_L_putEntry_94 : decode prog_5_method_5_code 94 = .ok (.aload_n 0, 1) := by decide +kernel
theorem jd_L_putEntry_95 : decode prog_5_method_5_code 95 = .ok (.aload_n 1, 1) := by decide +kernel
theorem jd_L_putEntry_96 : decode prog_5_method_5_code 96 = .ok (.getfield 75, 3) := by decide +kernel
theorem jd_L_putEntry_99 : decode prog_5_method_5_code 99 = .ok (.sipush 3391, 3) := by decide +kernel
theorem jd_L_putEntry_102 : decode prog_5_method_5_code 102 = .ok (.iand, 1) := by decide +kernel
theorem jd_L_putEntry_103 : decode prog_5_method_5_code 103 = .ok (.invokevirtual 37, 3) := by decide +kernel
theorem jd_L_putEntry_106 : decode prog_5_method_5_code 106 = .ok (.aload_n 0, 1) := by decide +kernel
theorem jd_L_putEntry_107 : decode prog_5_method_5_code 107 = .ok (.aload_n 1, 1) := by decide +kernel
theorem jd_L_putEntry_108 : decode prog_5_method_5_code 108 = .ok (.getfield 78, 3) := by decide +kernel
theorem jd_L_putEntry_111 : decode prog_5_method_5_code 111 = .ok (.invokevirtual 89, 3) := by decide +kernel
theorem jd_L_putEntry_114 : decode prog_5_method_5_code 114 = .ok (.goto 42, 3) := by decide +kernel
theorem jd_L_putEntry_117 : decode prog_5_method_5_code 117 = .ok (.aload_n 0, 1) := by decide +kernel
theorem jd_L_putEntry_118 : decode prog_5_method_5_code 118 = .ok (.aload_n 1, 1) := by decide +kernel
theorem jd_L_putEntry_119 : decode prog_5_method_5_code 119 = .ok (.getfield 74, 3) := by decide +kernel
theorem jd_L_putEntry_122 : decode prog_5_method_5_code 122 = .ok (.invokevirtual 29, 3) := by decide +kernel
theorem jd_L_putEntry_125 : decode prog_5_method_5_code 125 = .ok (.aload_n 0, 1) := by decide +kernel
theorem jd_L_putEntry_126 : decode prog_5_method_5_code 126 = .ok (.aload_n 1, 1) := by decide +kernel
theorem jd_L_putEntry_127 : decode prog_5_method_5_code 127 = .ok (.getfield 75, 3) := by decide +kernel
theorem jd_L_putEntry_130 : decode prog_5_method_5_code 130 = .ok (.sipush 3391, 3) := by decide +kernel
theorem jd_L_putEntry_133 : decode prog_5_method_5_code 133 = .ok (.iand, 1) := by decide +kernel
theorem jd_L_putEntry_134 : decode prog_5_method_5_code 134 = .ok (.invokevirtual 37, 3) := by decide +kernel
theorem jd_L_putEntry_137 : decode prog_5_method_5_code 137 = .ok (.aload_n 0, 1) := by decide +kernel
theorem jd_L_putEntry_138 : decode prog_5_method_5_code 138 = .ok (.aload_n 1, 1) := by decide +kernel
theorem jd_L_putEntry_139 : decode prog_5_method_5_code 139 = .ok (.getfield 78, 3) := by decide +kernel
theorem jd_L_putEntry_142 : decode prog_5_method_5_code 142 = .ok (.invokevirtual 89, 3) := by decide +kernel
theorem jd_L_putEntry_145 : decode prog_5_method_5_code 145 = .ok (.goto 11, 3) := by decide +kernel
theorem jd_L_putEntry_148 : decode prog_5_method_5_code 148 = .ok (.aload_n 0, 1) := by decide +kernel
theorem jd_L_putEntry_149 : decode prog_5_method_5_code 149 = .ok (.aload_n 1, 1) := by decide +kernel
theorem jd_L_putEntry_150 : decode prog_5_method_5_code 150 = .ok (.getfield 74, 3) := by decide +kernel
theorem jd_L_putEntry_153 : decode prog_5_method_5_code 153 = .ok (.invokevirtual 29, 3) := by decide +kernel
theorem jd_L_putEntry_156 : decode prog_5_method_5_code 156 = .ok (.return_, 1) := by decide +kernel
theorem jd_L_putConstant_0 : decode prog_5_method_8_code 0 = .ok (.aload_n 0, 1) := by decide +kernel
theorem jd_L_putConstant_1 : decode prog_5_method_8_code 1 = .ok (.aload_n 1, 1) := by decide +kernel
theorem jd_L_putConstant_2 : decode prog_5_method_8_code 2 = .ok (.invokevirtual 105, 3) := by decide +kernel
theorem jd_L_putConstant_5 : decode prog_5_method_8_code 5 = .ok (.invokevirtual 95, 3) := by decide +kernel
theorem jd_L_putConstant_8 : decode prog_5_method_8_code 8 = .ok (.iconst 0, 1) := by decide +kernel
theorem jd_L_putConstant_9 : decode prog_5_method_8_code 9 = .ok (.istore_n 2, 1) := by decide +kernel
theorem jd_L_putConstant_10 : decode prog_5_method_8_code 10 = .ok (.iload_n 2, 1) := by decide +kernel
theorem jd_L_putConstant_11 : decode prog_5_method_8_code 11 = .ok (.aload_n 1, 1) := by decide +kernel
theorem jd_L_putConstant_12 : decode prog_5_method_8_code 12 = .ok (.invokevirtual 105, 3) := by decide +kernel
theorem jd_L_putConstant_15 : decode prog_5_method_8_code 15 = .ok (.if_icmp .ge 18, 3) := by decide +kernel
theorem jd_L_putConstant_18 : decode prog_5_method_8_code 18 = .ok (.aload_n 0, 1) := by decide +kernel
theorem jd_L_putConstant_19 : decode prog_5_method_8_code 19 = .ok (.aload_n 1, 1) := by decide +kernel
theorem jd_L_putConstant_20 : decode prog_5_method_8_code 20 = .ok (.iload_n 2, 1) := by decide +kernel
theorem jd_L_putConstant_21 : decode prog_5_method_8_code 21 = .ok (.invokevirtual 109, 3) := by decide +kernel
theorem jd_L_putConstant_24 : decode prog_5_method_8_code 24 = .ok (.invokevirtual 102, 3) := by decide +kernel
theorem jd_L_putConstant_27 : decode prog_5_method_8_code 27 = .ok (.iinc 2 1, 3) := by decide +kernel
theorem jd_L_putConstant_30 : decode prog_5_method_8_code 30 = .ok (.goto (-20), 3) := by decide +kernel
theorem jd_L_putConstant_33 : decode prog_5_method_8_code 33 = .ok (.return_, 1) := by decide +kernel
theorem jd_JS_length_0 : decode prog_12_method_54_code 0 = .ok (.aload_n 0, 1) := by decide +kernel
theorem jd_JS_length_1 : decode prog_12_method_54_code 1 = .ok (.getfield 9, 3) := by decide +kernel
theorem jd_JS_length_4 : decode prog_12_method_54_code 4 = .ok (.arraylength, 1) := by decide +kernel
theorem jd_JS_length_5 : decode prog_12_method_54_code 5 = .ok (.aload_n 0, 1) := by decide +kernel
theorem jd_JS_length_6 : decode prog_12_method_54_code 6 = .ok (.invokevirtual 335, 3) := by decide +kernel
theorem jd_JS_length_9 : decode prog_12_method_54_code 9 = .ok (.ishr, 1) := by decide +kernel
theorem jd_JS_length_10 : decode prog_12_method_54_code 10 = .ok (.ireturn, 1) := by decide +kernel
theorem jd_JS_coder_0 : decode prog_12_method_152_code 0 = .ok (.getstatic 38, 3) := by decide +kernel
theorem jd_JS_coder_3 : decode prog_12_method_152_code 3 = .ok (.ifCond .eq 10, 3) := by decide +kernel
theorem jd_JS_coder_6 : decode prog_12_method_152_code 6 = .ok (.aload_n 0, 1) := by decide +kernel
theorem jd_JS_coder_7 : decode prog_12_method_152_code 7 = .ok (.getfield 15, 3) := by decide +kernel
theorem jd_JS_coder_10 : decode prog_12_method_152_code 10 = .ok (.goto 4, 3) := by decide +kernel
theorem jd_JS_coder_13 : decode prog_12_method_152_code 13 = .ok (.iconst 1, 1) := by decide +kernel
theorem jd_JS_coder_14 : decode prog_12_method_152_code 14 = .ok (.ireturn, 1) := by decide +kernel
theorem jd_JS_charAt_0 : decode prog_12_method_56_code 0 = .ok (.aload_n 0, 1) := by decide +kernel
theorem jd_JS_charAt_1 : decode prog_12_method_56_code 1 = .ok (.invokevirtual 492, 3) := by decide +kernel
theorem jd_JS_charAt_4 : decode prog_12_method_56_code 4 = .ok (.ifCond .eq 12, 3) := by decide +kernel
theorem jd_JS_charAt_7 : decode prog_12_method_56_code 7 = .ok (.aload_n 0, 1) := by decide +kernel
theorem jd_JS_charAt_8 : decode prog_12_method_56_code 8 = .ok (.getfield 9, 3) := by decide +kernel
theorem jd_JS_charAt_11 : decode prog_12_method_56_code 11 = .ok (.iload_n 1, 1) := by decide +kernel
theorem jd_JS_charAt_12 : decode prog_12_method_56_code 12 = .ok (.invokestatic 495, 3) := by decide +kernel
theorem jd_JS_charAt_15 : decode prog_12_method_56_code 15 = .ok (.ireturn, 1) := by decide +kernel
theorem jd_JS_charAt_16 : decode prog_12_method_56_code 16 = .ok (.aload_n 0, 1) := by decide +kernel
theorem jd_JS_charAt_17 : decode prog_12_method_56_code 17 = .ok (.getfield 9, 3) := by decide +kernel
theorem jd_JS_charAt_20 : decode prog_12_method_56_code 20 = .ok (.iload_n 1, 1) := by decide +kernel
theorem jd_JS_charAt_21 : decode prog_12_method_56_code 21 = .ok (.invokestatic 498, 3) := by decide +kernel
theorem jd_JS_charAt_24 : decode prog_12_method_56_code 24 = .ok (.ireturn, 1) := by decide +kernel
theorem jd_JS_isLatin1_0 : decode prog_12_method_154_code 0 = .ok (.getstatic 38, 3) := by decide +kernel
theorem jd_JS_isLatin1_3 : decode prog_12_method_154_code 3 = .ok (.ifCond .eq 14, 3) := by decide +kernel
theorem jd_JS_isLatin1_6 : decode prog_12_method_154_code 6 = .ok (.aload_n 0, 1) := by decide +kernel
theorem jd_JS_isLatin1_7 : decode prog_12_method_154_code 7 = .ok (.getfield 15, 3) := by decide +kernel
theorem jd_JS_isLatin1_10 : decode prog_12_method_154_code 10 = .ok (.ifCond .ne 7, 3) := by decide +kernel
theorem jd_JS_isLatin1_13 : decode prog_12_method_154_code 13 = .ok (.iconst 1, 1) := by decide +kernel
theorem jd_JS_isLatin1_14 : decode prog_12_method_154_code 14 = .ok (.goto 4, 3) := by decide +kernel
theorem jd_JS_isLatin1_17 : decode prog_12_method_154_code 17 = .ok (.iconst 0, 1) := by decide +kernel
theorem jd_JS_isLatin1_18 : decode prog_12_method_154_code 18 = .ok (.ireturn, 1) := by decide +kernel
theorem jd_JL_charAt_0 : decode prog_13_method_2_code 0 = .ok (.iload_n 1, 1) := by decide +kernel
theorem jd_JL_charAt_1 : decode prog_13_method_2_code 1 = .ok (.aload_n 0, 1) := by decide +kernel
theorem jd_JL_charAt_2 : decode prog_13_method_2_code 2 = .ok (.arraylength, 1) := by decide +kernel
theorem jd_JL_charAt_3 : decode prog_13_method_2_code 3 = .ok (.invokestatic 9, 3) := by decide +kernel
theorem jd_JL_charAt_6 : decode prog_13_method_2_code 6 = .ok (.aload_n 0, 1) := by decide +kernel
theorem jd_JL_charAt_7 : decode prog_13_method_2_code 7 = .ok (.iload_n 1, 1) := by decide +kernel
theorem jd_JL_charAt_8 : decode prog_13_method_2_code 8 = .ok (.baload, 1) := by decide +kernel
theorem jd_JL_charAt_9 : decode prog_13_method_2_code 9 = .ok (.sipush 255, 3) := by decide +kernel
theorem jd_JL_charAt_12 : decode prog_13_method_2_code 12 = .ok (.iand, 1) := by decide +kernel
theorem jd_JL_charAt_13 : decode prog_13_method_2_code 13 = .ok (.i2c, 1) := by decide +kernel
theorem jd_JL_charAt_14 : decode prog_13_method_2_code 14 = .ok (.ireturn, 1) := by decide +kernel
theorem jd_JS_checkIndex_0 : decode prog_12_method_155_code 0 = .ok (.iload_n 0, 1) := by decide +kernel
theorem jd_JS_checkIndex_1 : decode prog_12_method_155_code 1 = .ok (.iload_n 1, 1) := by decide +kernel
theorem jd_JS_checkIndex_2 : decode prog_12_method_155_code 2 = .ok (.getstatic 1053, 3) := by decide +kernel
theorem jd_JS_checkIndex_5 : decode prog_12_method_155_code 5 = .ok (.invokestatic 1059, 3) := by decide +kernel
theorem jd_JS_checkIndex_8 : decode prog_12_method_155_code 8 = .ok (.pop, 1) := by decide +kernel
theorem jd_JS_checkIndex_9 : decode prog_12_method_155_code 9 = .ok (.return_, 1) := by decide +kernel
theorem jd_L_putDotted_0 : decode prog_5_method_7_code 0 = .ok (.aload_n 0, 1) := by decide +kernel
theorem jd_L_putDotted_1 : decode prog_5_method_7_code 1 = .ok (.aload_n 1, 1) := by decide +kernel
theorem jd_L_putDotted_2 : decode prog_5_method_7_code 2 = .ok (.getfield 92, 3) := by decide +kernel
theorem jd_L_putDotted_5 : decode prog_5_method_7_code 5 = .ok (.invokevirtual 95, 3) := by decide +kernel
theorem jd_L_putDotted_8 : decode prog_5_method_7_code 8 = .ok (.iconst 0, 1) := by decide +kernel
theorem jd_L_putDotted_9 : decode prog_5_method_7_code 9 = .ok (.istore_n 2, 1) := by decide +kernel
theorem jd_L_putDotted_10 : decode prog_5_method_7_code 10 = .ok (.iload_n 2, 1) := by decide +kernel
theorem jd_L_putDotted_11 : decode prog_5_method_7_code 11 = .ok (.aload_n 1, 1) := by decide +kernel
theorem jd_L_putDotted_12 : decode prog_5_method_7_code 12 = .ok (.getfield 92, 3) := by decide +kernel
theorem jd_L_putDotted_15 : decode prog_5_method_7_code 15 = .ok (.if_icmp .ge 33, 3) := by decide +kernel
theorem jd_L_putDotted_18 : decode prog_5_method_7_code 18 = .ok (.aload_n 0, 1) := by decide +kernel
theorem jd_L_putDotted_19 : decode prog_5_method_7_code 19 = .ok (.aload_n 1, 1) := by decide +kernel
theorem jd_L_putDotted_20 : decode prog_5_method_7_code 20 = .ok (.iload_n 2, 1) := by decide +kernel
theorem jd_L_putDotted_21 : decode prog_5_method_7_code 21 = .ok (.invokevirtual 98, 3) := by decide +kernel
theorem jd_L_putDotted_24 : decode prog_5_method_7_code 24 = .ok (.bipush 47, 2) := by decide +kernel
theorem jd_L_putDotted_26 : decode prog_5_method_7_code 26 = .ok (.if_icmp .ne 8, 3) := by decide +kernel
theorem jd_L_putDotted_29 : decode prog_5_method_7_code 29 = .ok (.bipush 46, 2) := by decide +kernel
theorem jd_L_putDotted_31 : decode prog_5_method_7_code 31 = .ok (.goto 8, 3) := by decide +kernel
theorem jd_L_putDotted_34 : decode prog_5_method_7_code 34 = .ok (.aload_n 1, 1) := by decide +kernel
theorem jd_L_putDotted_35 : decode prog_5_method_7_code 35 = .ok (.iload_n 2, 1) := by decide +kernel
theorem jd_L_putDotted_36 : decode prog_5_method_7_code 36 = .ok (.invokevirtual 98, 3) := by decide +kernel
theorem jd_L_putDotted_39 : decode prog_5_method_7_code 39 = .ok (.invokevirtual 102, 3) := by decide +kernel
theorem jd_L_putDotted_42 : decode prog_5_method_7_code 42 = .ok (.iinc 2 1, 3) := by decide +kernel
theorem jd_L_putDotted_45 : decode prog_5_method_7_code 45 = .ok (.goto (-35), 3) := by decide +kernel
theorem jd_L_putDotted_48 : decode prog_5_method_7_code 48 = .ok (.return_, 1) := by decide +kernel
theorem jd_G_take_0 : decode prog_3_method_2_code 0 = .ok (.getstatic 18, 3) := by decide +kernel
theorem jd_G_take_3 : decode prog_3_method_2_code 3 = .ok (.iconst 0, 1) := by decide +kernel
theorem jd_G_take_4 : decode prog_3_method_2_code 4 = .ok (.aload_n 0, 1) := by decide +kernel
theorem jd_G_take_5 : decode prog_3_method_2_code 5 = .ok (.getfield 9, 3) := by decide +kernel
theorem jd_G_take_8 : decode prog_3_method_2_code 8 = .ok (.iconst 0, 1) := by decide +kernel
theorem jd_G_take_9 : decode prog_3_method_2_code 9 = .ok (.iconst 5, 1) := by decide +kernel
theorem jd_G_take_10 : decode prog_3_method_2_code 10 = .ok (.invokestatic 21, 3) := by decide +kernel
theorem jd_G_take_13 : decode prog_3_method_2_code 13 = .ok (.aload_n 1, 1) := by decide +kernel
theorem jd_G_take_14 : decode prog_3_method_2_code 14 = .ok (.getfield 27, 3) := by decide +kernel
theorem jd_G_take_17 : decode prog_3_method_2_code 17 = .ok (.iconst 1, 1) := by decide +kernel
theorem jd_G_take_18 : decode prog_3_method_2_code 18 = .ok (.iadd, 1) := by decide +kernel
theorem jd_G_take_19 : decode prog_3_method_2_code 19 = .ok (.bipush 8, 2) := by decide +kernel
theorem jd_G_take_21 : decode prog_3_method_2_code 21 = .ok (.iadd, 1) := by decide +kernel
theorem jd_G_take_22 : decode prog_3_method_2_code 22 = .ok (.bipush 64, 2) := by decide +kernel
theorem jd_G_take_24 : decode prog_3_method_2_code 24 = .ok (.iadd, 1) := by decide +kernel
theorem jd_G_take_25 : decode prog_3_method_2_code 25 = .ok (.iconst 1, 1) := by decide +kernel
theorem jd_G_take_26 : decode prog_3_method_2_code 26 = .ok (.isub, 1) := by decide +kernel
theorem jd_G_take_27 : decode prog_3_method_2_code 27 = .ok (.bipush 64, 2) := by decide +kernel
theorem jd_G_take_29 : decode prog_3_method_2_code 29 = .ok (.idiv, 1) := by decide +kernel
theorem jd_G_take_30 : decode prog_3_method_2_code 30 = .ok (.istore_n 2, 1) := by decide +kernel
theorem jd_G_take_31 : decode prog_3_method_2_code 31 = .ok (.iconst 0, 1) := by decide +kernel
theorem jd_G_take_32 : decode prog_3_method_2_code 32 = .ok (.istore_n 3, 1) := by decide +kernel
theorem jd_G_take_33 : decode prog_3_method_2_code 33 = .ok (.iload_n 3, 1) := by decide +kernel
theorem jd_G_take_34 : decode prog_3_method_2_code 34 = .ok (.iload_n 2, 1) := by decide +kernel
theorem jd_G_take_35 : decode prog_3_method_2_code 35 = .ok (.if_icmp .ge 26, 3) := by decide +kernel
theorem jd_G_take_38 : decode prog_3_method_2_code 38 = .ok (.aload_n 0, 1) := by decide +kernel
theorem jd_G_take_39 : decode prog_3_method_2_code 39 = .ok (.aload_n 1, 1) := by decide +kernel
theorem jd_G_take_40 : decode prog_3_method_2_code 40 = .ok (.iload_n 3, 1) := by decide +kernel
theorem jd_G_take_41 : decode prog_3_method_2_code 41 = .ok (.bipush 64, 2) := by decide +kernel
theorem jd_G_take_43 : decode prog_3_method_2_code 43 = .ok (.imul, 1) := by decide +kernel
theorem jd_G_take_44 : decode prog_3_method_2_code 44 = .ok (.iload_n 2, 1) := by decide +kernel
theorem jd_G_take_45 : decode prog_3_method_2_code 45 = .ok (.bipush 64, 2) := by decide +kernel
theorem jd_G_take_47 : decode prog_3_method_2_code 47 = .ok (.imul, 1) := by decide +kernel
theorem jd_G_take_48 : decode prog_3_method_2_code 48 = .ok (.invokevirtual 33, 3) := by decide +kernel
theorem jd_G_take_51 : decode prog_3_method_2_code 51 = .ok (.aload_n 0, 1) := by decide +kernel
theorem jd_G_take_52 : decode prog_3_method_2_code 52 = .ok (.invokevirtual 37, 3) := by decide +kernel
theorem jd_G_take_55 : decode prog_3_method_2_code 55 = .ok (.iinc 3 1, 3) := by decide +kernel
theorem jd_G_take_58 : decode prog_3_method_2_code 58 = .ok (.goto (-25), 3) := by decide +kernel
theorem jd_G_take_61 : decode prog_3_method_2_code 61 = .ok (.return_, 1) := by decide +kernel
