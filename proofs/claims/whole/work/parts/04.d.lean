theorem jd_M_face_0 : decode prog_10_method_12_code 0 = .ok (.aload_n 0, 1) := by decide +kernel
theorem jd_M_face_1 : decode prog_10_method_12_code 1 = .ok (.iload_n 1, 1) := by decide +kernel
theorem jd_M_face_2 : decode prog_10_method_12_code 2 = .ok (.invokevirtual 78, 3) := by decide +kernel
theorem jd_M_face_5 : decode prog_10_method_12_code 5 = .ok (.ifCond .eq 5, 3) := by decide +kernel
theorem jd_M_face_8 : decode prog_10_method_12_code 8 = .ok (.iconst (-1), 1) := by decide +kernel
theorem jd_M_face_9 : decode prog_10_method_12_code 9 = .ok (.ireturn, 1) := by decide +kernel
theorem jd_M_face_10 : decode prog_10_method_12_code 10 = .ok (.aload_n 0, 1) := by decide +kernel
theorem jd_M_face_11 : decode prog_10_method_12_code 11 = .ok (.getfield 13, 3) := by decide +kernel
theorem jd_M_face_14 : decode prog_10_method_12_code 14 = .ok (.iconst 0, 1) := by decide +kernel
theorem jd_M_face_15 : decode prog_10_method_12_code 15 = .ok (.iaload, 1) := by decide +kernel
theorem jd_M_face_16 : decode prog_10_method_12_code 16 = .ok (.ifCond .ne 6, 3) := by decide +kernel
theorem jd_M_face_19 : decode prog_10_method_12_code 19 = .ok (.bipush (-2), 2) := by decide +kernel
theorem jd_M_face_21 : decode prog_10_method_12_code 21 = .ok (.ireturn, 1) := by decide +kernel
theorem jd_M_face_22 : decode prog_10_method_12_code 22 = .ok (.iconst 0, 1) := by decide +kernel
theorem jd_M_face_23 : decode prog_10_method_12_code 23 = .ok (.istore_n 2, 1) := by decide +kernel
theorem jd_M_face_24 : decode prog_10_method_12_code 24 = .ok (.iload_n 2, 1) := by decide +kernel
theorem jd_M_face_25 : decode prog_10_method_12_code 25 = .ok (.aload_n 0, 1) := by decide +kernel
theorem jd_M_face_26 : decode prog_10_method_12_code 26 = .ok (.getfield 23, 3) := by decide +kernel
theorem jd_M_face_29 : decode prog_10_method_12_code 29 = .ok (.iload_n 1, 1) := by decide +kernel
theorem jd_M_face_30 : decode prog_10_method_12_code 30 = .ok (.iaload, 1) := by decide +kernel
theorem jd_M_face_31 : decode prog_10_method_12_code 31 = .ok (.if_icmp .ge 28, 3) := by decide +kernel
theorem jd_M_face_34 : decode prog_10_method_12_code 34 = .ok (.aload_n 0, 1) := by decide +kernel
theorem jd_M_face_35 : decode prog_10_method_12_code 35 = .ok (.iconst 0, 1) := by decide +kernel
theorem jd_M_face_36 : decode prog_10_method_12_code 36 = .ok (.bipush 6, 2) := by decide +kernel
theorem jd_M_face_38 : decode prog_10_method_12_code 38 = .ok (.iconst 4, 1) := by decide +kernel
theorem jd_M_face_39 : decode prog_10_method_12_code 39 = .ok (.iload_n 1, 1) := by decide +kernel
theorem jd_M_face_40 : decode prog_10_method_12_code 40 = .ok (.imul, 1) := by decide +kernel
theorem jd_M_face_41 : decode prog_10_method_12_code 41 = .ok (.iadd, 1) := by decide +kernel
theorem jd_M_face_42 : decode prog_10_method_12_code 42 = .ok (.iload_n 2, 1) := by decide +kernel
theorem jd_M_face_43 : decode prog_10_method_12_code 43 = .ok (.iadd, 1) := by decide +kernel
theorem jd_M_face_44 : decode prog_10_method_12_code 44 = .ok (.invokevirtual 82, 3) := by decide +kernel
theorem jd_M_face_47 : decode prog_10_method_12_code 47 = .ok (.ifCond .ne 6, 3) := by decide +kernel
theorem jd_M_face_50 : decode prog_10_method_12_code 50 = .ok (.bipush (-3), 2) := by decide +kernel
theorem jd_M_face_52 : decode prog_10_method_12_code 52 = .ok (.ireturn, 1) := by decide +kernel
theorem jd_M_face_53 : decode prog_10_method_12_code 53 = .ok (.iinc 2 1, 3) := by decide +kernel
theorem jd_M_face_56 : decode prog_10_method_12_code 56 = .ok (.goto (-32), 3) := by decide +kernel
theorem jd_M_face_59 : decode prog_10_method_12_code 59 = .ok (.aload_n 0, 1) := by decide +kernel
theorem jd_M_face_60 : decode prog_10_method_12_code 60 = .ok (.getfield 23, 3) := by decide +kernel
theorem jd_M_face_63 : decode prog_10_method_12_code 63 = .ok (.iload_n 1, 1) := by decide +kernel
theorem jd_M_face_64 : decode prog_10_method_12_code 64 = .ok (.iaload, 1) := by decide +kernel
theorem jd_M_face_65 : decode prog_10_method_12_code 65 = .ok (.iconst 4, 1) := by decide +kernel
theorem jd_M_face_66 : decode prog_10_method_12_code 66 = .ok (.if_icmp .ne 6, 3) := by decide +kernel
theorem jd_M_face_69 : decode prog_10_method_12_code 69 = .ok (.bipush (-4), 2) := by decide +kernel
theorem jd_M_face_71 : decode prog_10_method_12_code 71 = .ok (.ireturn, 1) := by decide +kernel
theorem jd_M_face_72 : decode prog_10_method_12_code 72 = .ok (.aload_n 0, 1) := by decide +kernel
theorem jd_M_face_73 : decode prog_10_method_12_code 73 = .ok (.iconst 0, 1) := by decide +kernel
theorem jd_M_face_74 : decode prog_10_method_12_code 74 = .ok (.bipush 6, 2) := by decide +kernel
theorem jd_M_face_76 : decode prog_10_method_12_code 76 = .ok (.iconst 4, 1) := by decide +kernel
theorem jd_M_face_77 : decode prog_10_method_12_code 77 = .ok (.iload_n 1, 1) := by decide +kernel
theorem jd_M_face_78 : decode prog_10_method_12_code 78 = .ok (.imul, 1) := by decide +kernel
theorem jd_M_face_79 : decode prog_10_method_12_code 79 = .ok (.iadd, 1) := by decide +kernel
theorem jd_M_face_80 : decode prog_10_method_12_code 80 = .ok (.aload_n 0, 1) := by decide +kernel
theorem jd_M_face_81 : decode prog_10_method_12_code 81 = .ok (.getfield 23, 3) := by decide +kernel
theorem jd_M_face_84 : decode prog_10_method_12_code 84 = .ok (.iload_n 1, 1) := by decide +kernel
theorem jd_M_face_85 : decode prog_10_method_12_code 85 = .ok (.iaload, 1) := by decide +kernel
theorem jd_M_face_86 : decode prog_10_method_12_code 86 = .ok (.iadd, 1) := by decide +kernel
theorem jd_M_face_87 : decode prog_10_method_12_code 87 = .ok (.invokevirtual 74, 3) := by decide +kernel
theorem jd_M_face_90 : decode prog_10_method_12_code 90 = .ok (.aload_n 0, 1) := by decide +kernel
theorem jd_M_face_91 : decode prog_10_method_12_code 91 = .ok (.getfield 23, 3) := by decide +kernel
theorem jd_M_face_94 : decode prog_10_method_12_code 94 = .ok (.iload_n 1, 1) := by decide +kernel
theorem jd_M_face_95 : decode prog_10_method_12_code 95 = .ok (.dup2, 1) := by decide +kernel
theorem jd_M_face_96 : decode prog_10_method_12_code 96 = .ok (.iaload, 1) := by decide +kernel
theorem jd_M_face_97 : decode prog_10_method_12_code 97 = .ok (.iconst 1, 1) := by decide +kernel
theorem jd_M_face_98 : decode prog_10_method_12_code 98 = .ok (.iadd, 1) := by decide +kernel
theorem jd_M_face_99 : decode prog_10_method_12_code 99 = .ok (.iastore, 1) := by decide +kernel
theorem jd_M_face_100 : decode prog_10_method_12_code 100 = .ok (.aload_n 0, 1) := by decide +kernel
theorem jd_M_face_101 : decode prog_10_method_12_code 101 = .ok (.getfield 23, 3) := by decide +kernel
theorem jd_M_face_104 : decode prog_10_method_12_code 104 = .ok (.iload_n 1, 1) := by decide +kernel
theorem jd_M_face_105 : decode prog_10_method_12_code 105 = .ok (.iaload, 1) := by decide +kernel
theorem jd_M_face_106 : decode prog_10_method_12_code 106 = .ok (.ireturn, 1) := by decide +kernel
theorem jd_M_none_0 : decode prog_10_method_3_code 0 = .ok (.aload_n 0, 1) := by decide +kernel
theorem jd_M_none_1 : decode prog_10_method_3_code 1 = .ok (.iload_n 1, 1) := by decide +kernel
theorem jd_M_none_2 : decode prog_10_method_3_code 2 = .ok (.iconst 4, 1) := by decide +kernel
theorem jd_M_none_3 : decode prog_10_method_3_code 3 = .ok (.invokevirtual 54, 3) := by decide +kernel
theorem jd_M_none_6 : decode prog_10_method_3_code 6 = .ok (.ifCond .ne 12, 3) := by decide +kernel
theorem jd_M_none_9 : decode prog_10_method_3_code 9 = .ok (.aload_n 0, 1) := by decide +kernel
theorem jd_M_none_10 : decode prog_10_method_3_code 10 = .ok (.getfield 16, 3) := by decide +kernel
theorem jd_M_none_13 : decode prog_10_method_3_code 13 = .ok (.iload_n 1, 1) := by decide +kernel
theorem jd_M_none_14 : decode prog_10_method_3_code 14 = .ok (.baload, 1) := by decide +kernel
theorem jd_M_none_15 : decode prog_10_method_3_code 15 = .ok (.ifCond .ne 7, 3) := by decide +kernel
theorem jd_M_none_18 : decode prog_10_method_3_code 18 = .ok (.iconst 1, 1) := by decide +kernel
theorem jd_M_none_19 : decode prog_10_method_3_code 19 = .ok (.goto 4, 3) := by decide +kernel
theorem jd_M_none_22 : decode prog_10_method_3_code 22 = .ok (.iconst 0, 1) := by decide +kernel
theorem jd_M_none_23 : decode prog_10_method_3_code 23 = .ok (.ireturn, 1) := by decide +kernel
theorem jd_M_compare_0 : decode prog_10_method_7_code 0 = .ok (.aload_n 0, 1) := by decide +kernel
theorem jd_M_compare_1 : decode prog_10_method_7_code 1 = .ok (.getfield 13, 3) := by decide +kernel
theorem jd_M_compare_4 : decode prog_10_method_7_code 4 = .ok (.iload_n 1, 1) := by decide +kernel
theorem jd_M_compare_5 : decode prog_10_method_7_code 5 = .ok (.iaload, 1) := by decide +kernel
theorem jd_M_compare_6 : decode prog_10_method_7_code 6 = .ok (.aload_n 0, 1) := by decide +kernel
theorem jd_M_compare_7 : decode prog_10_method_7_code 7 = .ok (.getfield 13, 3) := by decide +kernel
theorem jd_M_compare_10 : decode prog_10_method_7_code 10 = .ok (.iload_n 2, 1) := by decide +kernel
theorem jd_M_compare_11 : decode prog_10_method_7_code 11 = .ok (.iaload, 1) := by decide +kernel
theorem jd_M_compare_12 : decode prog_10_method_7_code 12 = .ok (.if_icmp .ge 12, 3) := by decide +kernel
theorem jd_M_compare_15 : decode prog_10_method_7_code 15 = .ok (.aload_n 0, 1) := by decide +kernel
theorem jd_M_compare_16 : decode prog_10_method_7_code 16 = .ok (.getfield 13, 3) := by decide +kernel
theorem jd_M_compare_19 : decode prog_10_method_7_code 19 = .ok (.iload_n 1, 1) := by decide +kernel
theorem jd_M_compare_20 : decode prog_10_method_7_code 20 = .ok (.iaload, 1) := by decide +kernel
theorem jd_M_compare_21 : decode prog_10_method_7_code 21 = .ok (.goto 9, 3) := by decide +kernel
theorem jd_M_compare_24 : decode prog_10_method_7_code 24 = .ok (.aload_n 0, 1) := by decide +kernel
theorem jd_M_compare_25 : decode prog_10_method_7_code 25 = .ok (.getfield 13, 3) := by decide +kernel
theorem jd_M_compare_28 : decode prog_10_method_7_code 28 = .ok (.iload_n 2, 1) := by decide +kernel
theorem jd_M_compare_29 : decode prog_10_method_7_code 29 = .ok (.iaload, 1) := by decide +kernel
theorem jd_M_compare_30 : decode prog_10_method_7_code 30 = .ok (.istore_n 3, 1) := by decide +kernel
theorem jd_M_compare_31 : decode prog_10_method_7_code 31 = .ok (.iconst 0, 1) := by decide +kernel
theorem jd_M_compare_32 : decode prog_10_method_7_code 32 = .ok (.istore 4, 2) := by decide +kernel
theorem jd_M_compare_34 : decode prog_10_method_7_code 34 = .ok (.iload 4, 2) := by decide +kernel
theorem jd_M_compare_36 : decode prog_10_method_7_code 36 = .ok (.iload_n 3, 1) := by decide +kernel
theorem jd_M_compare_37 : decode prog_10_method_7_code 37 = .ok (.if_icmp .ge 44, 3) := by decide +kernel
theorem jd_M_compare_40 : decode prog_10_method_7_code 40 = .ok (.aload_n 0, 1) := by decide +kernel
theorem jd_M_compare_41 : decode prog_10_method_7_code 41 = .ok (.getfield 7, 3) := by decide +kernel
theorem jd_M_compare_44 : decode prog_10_method_7_code 44 = .ok (.bipush 24, 2) := by decide +kernel
theorem jd_M_compare_46 : decode prog_10_method_7_code 46 = .ok (.iload_n 1, 1) := by decide +kernel
theorem jd_M_compare_47 : decode prog_10_method_7_code 47 = .ok (.imul, 1) := by decide +kernel
theorem jd_M_compare_48 : decode prog_10_method_7_code 48 = .ok (.iload 4, 2) := by decide +kernel
theorem jd_M_compare_50 : decode prog_10_method_7_code 50 = .ok (.iadd, 1) := by decide +kernel
theorem jd_M_compare_51 : decode prog_10_method_7_code 51 = .ok (.iaload, 1) := by decide +kernel
theorem jd_M_compare_52 : decode prog_10_method_7_code 52 = .ok (.aload_n 0, 1) := by decide +kernel
theorem jd_M_compare_53 : decode prog_10_method_7_code 53 = .ok (.getfield 7, 3) := by decide +kernel
theorem jd_M_compare_56 : decode prog_10_method_7_code 56 = .ok (.bipush 24, 2) := by decide +kernel
theorem jd_M_compare_58 : decode prog_10_method_7_code 58 = .ok (.iload_n 2, 1) := by decide +kernel
theorem jd_M_compare_59 : decode prog_10_method_7_code 59 = .ok (.imul, 1) := by decide +kernel
theorem jd_M_compare_60 : decode prog_10_method_7_code 60 = .ok (.iload 4, 2) := by decide +kernel
theorem jd_M_compare_62 : decode prog_10_method_7_code 62 = .ok (.iadd, 1) := by decide +kernel
theorem jd_M_compare_63 : decode prog_10_method_7_code 63 = .ok (.iaload, 1) := by decide +kernel
theorem jd_M_compare_64 : decode prog_10_method_7_code 64 = .ok (.isub, 1) := by decide +kernel
theorem jd_M_compare_65 : decode prog_10_method_7_code 65 = .ok (.istore 5, 2) := by decide +kernel
theorem jd_M_compare_67 : decode prog_10_method_7_code 67 = .ok (.iload 5, 2) := by decide +kernel
theorem jd_M_compare_69 : decode prog_10_method_7_code 69 = .ok (.ifCond .eq 6, 3) := by decide +kernel
theorem jd_M_compare_72 : decode prog_10_method_7_code 72 = .ok (.iload 5, 2) := by decide +kernel
theorem jd_M_compare_74 : decode prog_10_method_7_code 74 = .ok (.ireturn, 1) := by decide +kernel
theorem jd_M_compare_75 : decode prog_10_method_7_code 75 = .ok (.iinc 4 1, 3) := by decide +kernel
theorem jd_M_compare_78 : decode prog_10_method_7_code 78 = .ok (.goto (-44), 3) := by decide +kernel
theorem jd_M_compare_81 : decode prog_10_method_7_code 81 = .ok (.aload_n 0, 1) := by decide +kernel
theorem jd_M_compare_82 : decode prog_10_method_7_code 82 = .ok (.getfield 13, 3) := by decide +kernel
theorem jd_M_compare_85 : decode prog_10_method_7_code 85 = .ok (.iload_n 1, 1) := by decide +kernel
theorem jd_M_compare_86 : decode prog_10_method_7_code 86 = .ok (.iaload, 1) := by decide +kernel
theorem jd_M_compare_87 : decode prog_10_method_7_code 87 = .ok (.aload_n 0, 1) := by decide +kernel
theorem jd_M_compare_88 : decode prog_10_method_7_code 88 = .ok (.getfield 13, 3) := by decide +kernel
theorem jd_M_compare_91 : decode prog_10_method_7_code 91 = .ok (.iload_n 2, 1) := by decide +kernel
theorem jd_M_compare_92 : decode prog_10_method_7_code 92 = .ok (.iaload, 1) := by decide +kernel
theorem jd_M_compare_93 : decode prog_10_method_7_code 93 = .ok (.isub, 1) := by decide +kernel
theorem jd_M_compare_94 : decode prog_10_method_7_code 94 = .ok (.ireturn, 1) := by decide +kernel
theorem jd_M_member_0 : decode prog_10_method_14_code 0 = .ok (.aload_n 0, 1) := by decide +kernel
theorem jd_M_member_1 : decode prog_10_method_14_code 1 = .ok (.iload_n 1, 1) := by decide +kernel
theorem jd_M_member_2 : decode prog_10_method_14_code 2 = .ok (.invokevirtual 78, 3) := by decide +kernel
theorem jd_M_member_5 : decode prog_10_method_14_code 5 = .ok (.ifCond .ne 12, 3) := by decide +kernel
theorem jd_M_member_8 : decode prog_10_method_14_code 8 = .ok (.aload_n 0, 1) := by decide +kernel
theorem jd_M_member_9 : decode prog_10_method_14_code 9 = .ok (.iload_n 2, 1) := by decide +kernel
theorem jd_M_member_10 : decode prog_10_method_14_code 10 = .ok (.iconst 4, 1) := by decide +kernel
theorem jd_M_member_11 : decode prog_10_method_14_code 11 = .ok (.invokevirtual 54, 3) := by decide +kernel
theorem jd_M_member_14 : decode prog_10_method_14_code 14 = .ok (.ifCond .eq 5, 3) := by decide +kernel
theorem jd_M_member_17 : decode prog_10_method_14_code 17 = .ok (.iconst (-1), 1) := by decide +kernel
theorem jd_M_member_18 : decode prog_10_method_14_code 18 = .ok (.ireturn, 1) := by decide +kernel
theorem jd_M_member_19 : decode prog_10_method_14_code 19 = .ok (.iload_n 2, 1) := by decide +kernel
theorem jd_M_member_20 : decode prog_10_method_14_code 20 = .ok (.ifCond .eq 8, 3) := by decide +kernel
theorem jd_M_member_23 : decode prog_10_method_14_code 23 = .ok (.iload_n 2, 1) := by decide +kernel
theorem jd_M_member_24 : decode prog_10_method_14_code 24 = .ok (.iconst 2, 1) := by decide +kernel
theorem jd_M_member_25 : decode prog_10_method_14_code 25 = .ok (.if_icmp .ne 12, 3) := by decide +kernel
theorem jd_M_member_28 : decode prog_10_method_14_code 28 = .ok (.aload_n 0, 1) := by decide +kernel
theorem jd_M_member_29 : decode prog_10_method_14_code 29 = .ok (.getfield 13, 3) := by decide +kernel
theorem jd_M_member_32 : decode prog_10_method_14_code 32 = .ok (.iconst 0, 1) := by decide +kernel
theorem jd_M_member_33 : decode prog_10_method_14_code 33 = .ok (.iaload, 1) := by decide +kernel
theorem jd_M_member_34 : decode prog_10_method_14_code 34 = .ok (.ifCond .eq 16, 3) := by decide +kernel
theorem jd_M_member_37 : decode prog_10_method_14_code 37 = .ok (.iload_n 2, 1) := by decide +kernel
theorem jd_M_member_38 : decode prog_10_method_14_code 38 = .ok (.iconst 3, 1) := by decide +kernel
theorem jd_M_member_39 : decode prog_10_method_14_code 39 = .ok (.if_icmp .eq 14, 3) := by decide +kernel
theorem jd_M_member_42 : decode prog_10_method_14_code 42 = .ok (.aload_n 0, 1) := by decide +kernel
theorem jd_M_member_43 : decode prog_10_method_14_code 43 = .ok (.iload_n 2, 1) := by decide +kernel
theorem jd_M_member_44 : decode prog_10_method_14_code 44 = .ok (.invokevirtual 86, 3) := by decide +kernel
theorem jd_M_member_47 : decode prog_10_method_14_code 47 = .ok (.ifCond .ne 6, 3) := by decide +kernel
theorem jd_M_member_50 : decode prog_10_method_14_code 50 = .ok (.bipush (-2), 2) := by decide +kernel
theorem jd_M_member_52 : decode prog_10_method_14_code 52 = .ok (.ireturn, 1) := by decide +kernel
theorem jd_M_member_53 : decode prog_10_method_14_code 53 = .ok (.aload_n 0, 1) := by decide +kernel
theorem jd_M_member_54 : decode prog_10_method_14_code 54 = .ok (.iload_n 1, 1) := by decide +kernel
theorem jd_M_member_55 : decode prog_10_method_14_code 55 = .ok (.iload_n 2, 1) := by decide +kernel
theorem jd_M_member_56 : decode prog_10_method_14_code 56 = .ok (.invokevirtual 89, 3) := by decide +kernel
theorem jd_M_member_59 : decode prog_10_method_14_code 59 = .ok (.ifCond .lt 6, 3) := by decide +kernel
theorem jd_M_member_62 : decode prog_10_method_14_code 62 = .ok (.bipush (-3), 2) := by decide +kernel
theorem jd_M_member_64 : decode prog_10_method_14_code 64 = .ok (.ireturn, 1) := by decide +kernel
theorem jd_M_member_65 : decode prog_10_method_14_code 65 = .ok (.aload_n 0, 1) := by decide +kernel
theorem jd_M_member_66 : decode prog_10_method_14_code 66 = .ok (.getfield 26, 3) := by decide +kernel
theorem jd_M_member_69 : decode prog_10_method_14_code 69 = .ok (.iload_n 1, 1) := by decide +kernel
theorem jd_M_member_70 : decode prog_10_method_14_code 70 = .ok (.iaload, 1) := by decide +kernel
theorem jd_M_member_71 : decode prog_10_method_14_code 71 = .ok (.bipush 10, 2) := by decide +kernel
theorem jd_M_member_73 : decode prog_10_method_14_code 73 = .ok (.if_icmp .ne 6, 3) := by decide +kernel
theorem jd_M_member_76 : decode prog_10_method_14_code 76 = .ok (.bipush (-4), 2) := by decide +kernel
theorem jd_M_member_78 : decode prog_10_method_14_code 78 = .ok (.ireturn, 1) := by decide +kernel
theorem jd_M_member_79 : decode prog_10_method_14_code 79 = .ok (.bipush 10, 2) := by decide +kernel
theorem jd_M_member_81 : decode prog_10_method_14_code 81 = .ok (.iload_n 1, 1) := by decide +kernel
theorem jd_M_member_82 : decode prog_10_method_14_code 82 = .ok (.imul, 1) := by decide +kernel
theorem jd_M_member_83 : decode prog_10_method_14_code 83 = .ok (.aload_n 0, 1) := by decide +kernel
theorem jd_M_member_84 : decode prog_10_method_14_code 84 = .ok (.getfield 26, 3) := by decide +kernel
theorem jd_M_member_87 : decode prog_10_method_14_code 87 = .ok (.iload_n 1, 1) := by decide +kernel
theorem jd_M_member_88 : decode prog_10_method_14_code 88 = .ok (.iaload, 1) := by decide +kernel
theorem jd_M_member_89 : decode prog_10_method_14_code 89 = .ok (.iadd, 1) := by decide +kernel
theorem jd_M_member_90 : decode prog_10_method_14_code 90 = .ok (.istore 4, 2) := by decide +kernel
theorem jd_M_member_92 : decode prog_10_method_14_code 92 = .ok (.aload_n 0, 1) := by decide +kernel
theorem jd_M_member_93 : decode prog_10_method_14_code 93 = .ok (.getfield 36, 3) := by decide +kernel
theorem jd_M_member_96 : decode prog_10_method_14_code 96 = .ok (.iload 4, 2) := by decide +kernel
theorem jd_M_member_98 : decode prog_10_method_14_code 98 = .ok (.iload_n 2, 1) := by decide +kernel
theorem jd_M_member_99 : decode prog_10_method_14_code 99 = .ok (.iastore, 1) := by decide +kernel
theorem jd_M_member_100 : decode prog_10_method_14_code 100 = .ok (.aload_n 0, 1) := by decide +kernel
theorem jd_M_member_101 : decode prog_10_method_14_code 101 = .ok (.getfield 39, 3) := by decide +kernel
theorem jd_M_member_104 : decode prog_10_method_14_code 104 = .ok (.iload 4, 2) := by decide +kernel
theorem jd_M_member_106 : decode prog_10_method_14_code 106 = .ok (.iload_n 3, 1) := by decide +kernel
theorem jd_M_member_107 : decode prog_10_method_14_code 107 = .ok (.ldc 73, 2) := by decide +kernel
theorem jd_M_member_109 : decode prog_10_method_14_code 109 = .ok (.iand, 1) := by decide +kernel
theorem jd_M_member_110 : decode prog_10_method_14_code 110 = .ok (.iastore, 1) := by decide +kernel
theorem jd_M_member_111 : decode prog_10_method_14_code 111 = .ok (.aload_n 0, 1) := by decide +kernel
theorem jd_M_member_112 : decode prog_10_method_14_code 112 = .ok (.iconst 0, 1) := by decide +kernel
theorem jd_M_member_113 : decode prog_10_method_14_code 113 = .ok (.bipush 22, 2) := by decide +kernel
theorem jd_M_member_115 : decode prog_10_method_14_code 115 = .ok (.iload 4, 2) := by decide +kernel
theorem jd_M_member_117 : decode prog_10_method_14_code 117 = .ok (.iadd, 1) := by decide +kernel
theorem jd_M_member_118 : decode prog_10_method_14_code 118 = .ok (.invokevirtual 74, 3) := by decide +kernel
theorem jd_M_member_121 : decode prog_10_method_14_code 121 = .ok (.aload_n 0, 1) := by decide +kernel
theorem jd_M_member_122 : decode prog_10_method_14_code 122 = .ok (.iconst 1, 1) := by decide +kernel
theorem jd_M_member_123 : decode prog_10_method_14_code 123 = .ok (.bipush 62, 2) := by decide +kernel
theorem jd_M_member_125 : decode prog_10_method_14_code 125 = .ok (.iload 4, 2) := by decide +kernel
theorem jd_M_member_127 : decode prog_10_method_14_code 127 = .ok (.iadd, 1) := by decide +kernel
theorem jd_M_member_128 : decode prog_10_method_14_code 128 = .ok (.invokevirtual 74, 3) := by decide +kernel
theorem jd_M_member_131 : decode prog_10_method_14_code 131 = .ok (.aload_n 0, 1) := by decide +kernel
theorem jd_M_member_132 : decode prog_10_method_14_code 132 = .ok (.getfield 26, 3) := by decide +kernel
theorem jd_M_member_135 : decode prog_10_method_14_code 135 = .ok (.iload_n 1, 1) := by decide +kernel
theorem jd_M_member_136 : decode prog_10_method_14_code 136 = .ok (.dup2, 1) := by decide +kernel
theorem jd_M_member_137 : decode prog_10_method_14_code 137 = .ok (.iaload, 1) := by decide +kernel
theorem jd_M_member_138 : decode prog_10_method_14_code 138 = .ok (.iconst 1, 1) := by decide +kernel
theorem jd_M_member_139 : decode prog_10_method_14_code 139 = .ok (.iadd, 1) := by decide +kernel
theorem jd_M_member_140 : decode prog_10_method_14_code 140 = .ok (.iastore, 1) := by decide +kernel
theorem jd_M_member_141 : decode prog_10_method_14_code 141 = .ok (.aload_n 0, 1) := by decide +kernel
theorem jd_M_member_142 : decode prog_10_method_14_code 142 = .ok (.getfield 26, 3) := by decide +kernel
theorem jd_M_member_145 : decode prog_10_method_14_code 145 = .ok (.iload_n 1, 1) := by decide +kernel
theorem jd_M_member_146 : decode prog_10_method_14_code 146 = .ok (.iaload, 1) := by decide +kernel
theorem jd_M_member_147 : decode prog_10_method_14_code 147 = .ok (.ireturn, 1) := by decide +kernel
theorem jd_M_goodShape_0 : decode prog_10_method_10_code 0 = .ok (.aload_n 0, 1) := by decide +kernel
theorem jd_M_goodShape_1 : decode prog_10_method_10_code 1 = .ok (.bipush 24, 2) := by decide +kernel
theorem jd_M_goodShape_3 : decode prog_10_method_10_code 3 = .ok (.putfield 62, 3) := by decide +kernel
theorem jd_M_goodShape_6 : decode prog_10_method_10_code 6 = .ok (.aload_n 0, 1) := by decide +kernel
theorem jd_M_goodShape_7 : decode prog_10_method_10_code 7 = .ok (.bipush 24, 2) := by decide +kernel
theorem jd_M_goodShape_9 : decode prog_10_method_10_code 9 = .ok (.aload_n 0, 1) := by decide +kernel
theorem jd_M_goodShape_10 : decode prog_10_method_10_code 10 = .ok (.getfield 13, 3) := by decide +kernel
theorem jd_M_goodShape_13 : decode prog_10_method_10_code 13 = .ok (.iconst 1, 1) := by decide +kernel
theorem jd_M_goodShape_14 : decode prog_10_method_10_code 14 = .ok (.iaload, 1) := by decide +kernel
theorem jd_M_goodShape_15 : decode prog_10_method_10_code 15 = .ok (.iadd, 1) := by decide +kernel
theorem jd_M_goodShape_16 : decode prog_10_method_10_code 16 = .ok (.putfield 58, 3) := by decide +kernel
theorem jd_M_goodShape_19 : decode prog_10_method_10_code 19 = .ok (.iload_n 1, 1) := by decide +kernel
theorem jd_M_goodShape_20 : decode prog_10_method_10_code 20 = .ok (.ifCond .ne 27, 3) := by decide +kernel
theorem jd_M_goodShape_23 : decode prog_10_method_10_code 23 = .ok (.aload_n 0, 1) := by decide +kernel
theorem jd_M_goodShape_24 : decode prog_10_method_10_code 24 = .ok (.invokevirtual 69, 3) := by decide +kernel
theorem jd_M_goodShape_27 : decode prog_10_method_10_code 27 = .ok (.ifCond .eq 18, 3) := by decide +kernel
theorem jd_M_goodShape_30 : decode prog_10_method_10_code 30 = .ok (.aload_n 0, 1) := by decide +kernel
theorem jd_M_goodShape_31 : decode prog_10_method_10_code 31 = .ok (.getfield 62, 3) := by decide +kernel
theorem jd_M_goodShape_34 : decode prog_10_method_10_code 34 = .ok (.aload_n 0, 1) := by decide +kernel
theorem jd_M_goodShape_35 : decode prog_10_method_10_code 35 = .ok (.getfield 58, 3) := by decide +kernel
theorem jd_M_goodShape_38 : decode prog_10_method_10_code 38 = .ok (.if_icmp .ne 7, 3) := by decide +kernel
theorem jd_M_goodShape_41 : decode prog_10_method_10_code 41 = .ok (.iconst 1, 1) := by decide +kernel
theorem jd_M_goodShape_42 : decode prog_10_method_10_code 42 = .ok (.goto 4, 3) := by decide +kernel
theorem jd_M_goodShape_45 : decode prog_10_method_10_code 45 = .ok (.iconst 0, 1) := by decide +kernel
theorem jd_M_goodShape_46 : decode prog_10_method_10_code 46 = .ok (.ireturn, 1) := by decide +kernel
theorem jd_M_goodShape_47 : decode prog_10_method_10_code 47 = .ok (.aload_n 0, 1) := by decide +kernel
theorem jd_M_goodShape_48 : decode prog_10_method_10_code 48 = .ok (.aload_n 0, 1) := by decide +kernel
theorem jd_M_goodShape_49 : decode prog_10_method_10_code 49 = .ok (.getfield 62, 3) := by decide +kernel
theorem jd_M_goodShape_52 : decode prog_10_method_10_code 52 = .ok (.invokevirtual 65, 3) := by decide +kernel
theorem jd_M_goodShape_55 : decode prog_10_method_10_code 55 = .ok (.bipush 40, 2) := by decide +kernel
theorem jd_M_goodShape_57 : decode prog_10_method_10_code 57 = .ok (.if_icmp .eq 5, 3) := by decide +kernel
theorem jd_M_goodShape_60 : decode prog_10_method_10_code 60 = .ok (.iconst 0, 1) := by decide +kernel
theorem jd_M_goodShape_61 : decode prog_10_method_10_code 61 = .ok (.ireturn, 1) := by decide +kernel
theorem jd_M_goodShape_62 : decode prog_10_method_10_code 62 = .ok (.aload_n 0, 1) := by decide +kernel
theorem jd_M_goodShape_63 : decode prog_10_method_10_code 63 = .ok (.dup, 1) := by decide +kernel
theorem jd_M_goodShape_64 : decode prog_10_method_10_code 64 = .ok (.getfield 62, 3) := by decide +kernel
theorem jd_M_goodShape_67 : decode prog_10_method_10_code 67 = .ok (.iconst 1, 1) := by decide +kernel
theorem jd_M_goodShape_68 : decode prog_10_method_10_code 68 = .ok (.iadd, 1) := by decide +kernel
theorem jd_M_goodShape_69 : decode prog_10_method_10_code 69 = .ok (.putfield 62, 3) := by decide +kernel
theorem jd_M_goodShape_72 : decode prog_10_method_10_code 72 = .ok (.aload_n 0, 1) := by decide +kernel
theorem jd_M_goodShape_73 : decode prog_10_method_10_code 73 = .ok (.getfield 62, 3) := by decide +kernel
theorem jd_M_goodShape_76 : decode prog_10_method_10_code 76 = .ok (.aload_n 0, 1) := by decide +kernel
theorem jd_M_goodShape_77 : decode prog_10_method_10_code 77 = .ok (.getfield 58, 3) := by decide +kernel
theorem jd_M_goodShape_80 : decode prog_10_method_10_code 80 = .ok (.if_icmp .ge 25, 3) := by decide +kernel
theorem jd_M_goodShape_83 : decode prog_10_method_10_code 83 = .ok (.aload_n 0, 1) := by decide +kernel
theorem jd_M_goodShape_84 : decode prog_10_method_10_code 84 = .ok (.aload_n 0, 1) := by decide +kernel
theorem jd_M_goodShape_85 : decode prog_10_method_10_code 85 = .ok (.getfield 62, 3) := by decide +kernel
theorem jd_M_goodShape_88 : decode prog_10_method_10_code 88 = .ok (.invokevirtual 65, 3) := by decide +kernel
theorem jd_M_goodShape_91 : decode prog_10_method_10_code 91 = .ok (.bipush 41, 2) := by decide +kernel
theorem jd_M_goodShape_93 : decode prog_10_method_10_code 93 = .ok (.if_icmp .eq 12, 3) := by decide +kernel
theorem jd_M_goodShape_96 : decode prog_10_method_10_code 96 = .ok (.aload_n 0, 1) := by decide +kernel
theorem jd_M_goodShape_97 : decode prog_10_method_10_code 97 = .ok (.invokevirtual 69, 3) := by decide +kernel
theorem jd_M_goodShape_100 : decode prog_10_method_10_code 100 = .ok (.ifCond .ne (-28), 3) := by decide +kernel
theorem jd_M_goodShape_103 : decode prog_10_method_10_code 103 = .ok (.iconst 0, 1) := by decide +kernel
theorem jd_M_goodShape_104 : decode prog_10_method_10_code 104 = .ok (.ireturn, 1) := by decide +kernel
theorem jd_M_goodShape_105 : decode prog_10_method_10_code 105 = .ok (.aload_n 0, 1) := by decide +kernel
theorem jd_M_goodShape_106 : decode prog_10_method_10_code 106 = .ok (.aload_n 0, 1) := by decide +kernel
theorem jd_M_goodShape_107 : decode prog_10_method_10_code 107 = .ok (.getfield 62, 3) := by decide +kernel
theorem jd_M_goodShape_110 : decode prog_10_method_10_code 110 = .ok (.invokevirtual 65, 3) := by decide +kernel
theorem jd_M_goodShape_113 : decode prog_10_method_10_code 113 = .ok (.bipush 41, 2) := by decide +kernel
theorem jd_M_goodShape_115 : decode prog_10_method_10_code 115 = .ok (.if_icmp .eq 5, 3) := by decide +kernel
theorem jd_M_goodShape_118 : decode prog_10_method_10_code 118 = .ok (.iconst 0, 1) := by decide +kernel
theorem jd_M_goodShape_119 : decode prog_10_method_10_code 119 = .ok (.ireturn, 1) := by decide +kernel
theorem jd_M_goodShape_120 : decode prog_10_method_10_code 120 = .ok (.aload_n 0, 1) := by decide +kernel
theorem jd_M_goodShape_121 : decode prog_10_method_10_code 121 = .ok (.dup, 1) := by decide +kernel
theorem jd_M_goodShape_122 : decode prog_10_method_10_code 122 = .ok (.getfield 62, 3) := by decide +kernel
theorem jd_M_goodShape_125 : decode prog_10_method_10_code 125 = .ok (.iconst 1, 1) := by decide +kernel
theorem jd_M_goodShape_126 : decode prog_10_method_10_code 126 = .ok (.iadd, 1) := by decide +kernel
theorem jd_M_goodShape_127 : decode prog_10_method_10_code 127 = .ok (.putfield 62, 3) := by decide +kernel
theorem jd_M_goodShape_130 : decode prog_10_method_10_code 130 = .ok (.aload_n 0, 1) := by decide +kernel
theorem jd_M_goodShape_131 : decode prog_10_method_10_code 131 = .ok (.aload_n 0, 1) := by decide +kernel
theorem jd_M_goodShape_132 : decode prog_10_method_10_code 132 = .ok (.getfield 62, 3) := by decide +kernel
theorem jd_M_goodShape_135 : decode prog_10_method_10_code 135 = .ok (.invokevirtual 65, 3) := by decide +kernel
theorem jd_M_goodShape_138 : decode prog_10_method_10_code 138 = .ok (.bipush 86, 2) := by decide +kernel
theorem jd_M_goodShape_140 : decode prog_10_method_10_code 140 = .ok (.if_icmp .ne 22, 3) := by decide +kernel
theorem jd_M_goodShape_143 : decode prog_10_method_10_code 143 = .ok (.aload_n 0, 1) := by decide +kernel
theorem jd_M_goodShape_144 : decode prog_10_method_10_code 144 = .ok (.getfield 62, 3) := by decide +kernel
theorem jd_M_goodShape_147 : decode prog_10_method_10_code 147 = .ok (.iconst 1, 1) := by decide +kernel
theorem jd_M_goodShape_148 : decode prog_10_method_10_code 148 = .ok (.iadd, 1) := by decide +kernel
theorem jd_M_goodShape_149 : decode prog_10_method_10_code 149 = .ok (.aload_n 0, 1) := by decide +kernel
theorem jd_M_goodShape_150 : decode prog_10_method_10_code 150 = .ok (.getfield 58, 3) := by decide +kernel
theorem jd_M_goodShape_153 : decode prog_10_method_10_code 153 = .ok (.if_icmp .ne 7, 3) := by decide +kernel
theorem jd_M_goodShape_156 : decode prog_10_method_10_code 156 = .ok (.iconst 1, 1) := by decide +kernel
theorem jd_M_goodShape_157 : decode prog_10_method_10_code 157 = .ok (.goto 4, 3) := by decide +kernel
theorem jd_M_goodShape_160 : decode prog_10_method_10_code 160 = .ok (.iconst 0, 1) := by decide +kernel
theorem jd_M_goodShape_161 : decode prog_10_method_10_code 161 = .ok (.ireturn, 1) := by decide +kernel
theorem jd_M_goodShape_162 : decode prog_10_method_10_code 162 = .ok (.iload_n 1, 1) := by decide +kernel
theorem jd_M_goodShape_163 : decode prog_10_method_10_code 163 = .ok (.iconst 2, 1) := by decide +kernel
theorem jd_M_goodShape_164 : decode prog_10_method_10_code 164 = .ok (.if_icmp .ne 25, 3) := by decide +kernel
theorem jd_M_goodShape_167 : decode prog_10_method_10_code 167 = .ok (.aload_n 0, 1) := by decide +kernel
theorem jd_M_goodShape_168 : decode prog_10_method_10_code 168 = .ok (.invokevirtual 69, 3) := by decide +kernel
theorem jd_M_goodShape_171 : decode prog_10_method_10_code 171 = .ok (.ifCond .eq 18, 3) := by decide +kernel
theorem jd_M_goodShape_174 : decode prog_10_method_10_code 174 = .ok (.aload_n 0, 1) := by decide +kernel
theorem jd_M_goodShape_175 : decode prog_10_method_10_code 175 = .ok (.getfield 62, 3) := by decide +kernel
theorem jd_M_goodShape_178 : decode prog_10_method_10_code 178 = .ok (.aload_n 0, 1) := by decide +kernel
theorem jd_M_goodShape_179 : decode prog_10_method_10_code 179 = .ok (.getfield 58, 3) := by decide +kernel
theorem jd_M_goodShape_182 : decode prog_10_method_10_code 182 = .ok (.if_icmp .ne 7, 3) := by decide +kernel
theorem jd_M_goodShape_185 : decode prog_10_method_10_code 185 = .ok (.iconst 1, 1) := by decide +kernel
theorem jd_M_goodShape_186 : decode prog_10_method_10_code 186 = .ok (.goto 4, 3) := by decide +kernel
theorem jd_M_goodShape_189 : decode prog_10_method_10_code 189 = .ok (.iconst 0, 1) := by decide +kernel
theorem jd_M_goodShape_190 : decode prog_10_method_10_code 190 = .ok (.ireturn, 1) := by decide +kernel
theorem jd_M_passType_0 : decode prog_10_method_9_code 0 = .ok (.iconst 0, 1) := by decide +kernel
theorem jd_M_passType_1 : decode prog_10_method_9_code 1 = .ok (.istore_n 1, 1) := by decide +kernel
theorem jd_M_passType_2 : decode prog_10_method_9_code 2 = .ok (.aload_n 0, 1) := by decide +kernel
theorem jd_M_passType_3 : decode prog_10_method_9_code 3 = .ok (.aload_n 0, 1) := by decide +kernel
theorem jd_M_passType_4 : decode prog_10_method_9_code 4 = .ok (.getfield 62, 3) := by decide +kernel
theorem jd_M_passType_7 : decode prog_10_method_9_code 7 = .ok (.invokevirtual 65, 3) := by decide +kernel
theorem jd_M_passType_10 : decode prog_10_method_9_code 10 = .ok (.bipush 91, 2) := by decide +kernel
theorem jd_M_passType_12 : decode prog_10_method_9_code 12 = .ok (.if_icmp .ne 24, 3) := by decide +kernel
theorem jd_M_passType_15 : decode prog_10_method_9_code 15 = .ok (.iload_n 1, 1) := by decide +kernel
theorem jd_M_passType_16 : decode prog_10_method_9_code 16 = .ok (.iconst 4, 1) := by decide +kernel
theorem jd_M_passType_17 : decode prog_10_method_9_code 17 = .ok (.if_icmp .ge 19, 3) := by decide +kernel
theorem jd_M_passType_20 : decode prog_10_method_9_code 20 = .ok (.aload_n 0, 1) := by decide +kernel
theorem jd_M_passType_21 : decode prog_10_method_9_code 21 = .ok (.dup, 1) := by decide +kernel
theorem jd_M_passType_22 : decode prog_10_method_9_code 22 = .ok (.getfield 62, 3) := by decide +kernel
theorem jd_M_passType_25 : decode prog_10_method_9_code 25 = .ok (.iconst 1, 1) := by decide +kernel
theorem jd_M_passType_26 : decode prog_10_method_9_code 26 = .ok (.iadd, 1) := by decide +kernel
theorem jd_M_passType_27 : decode prog_10_method_9_code 27 = .ok (.putfield 62, 3) := by decide +kernel
theorem jd_M_passType_30 : decode prog_10_method_9_code 30 = .ok (.iinc 1 1, 3) := by decide +kernel
theorem jd_M_passType_33 : decode prog_10_method_9_code 33 = .ok (.goto (-31), 3) := by decide +kernel
theorem jd_M_passType_36 : decode prog_10_method_9_code 36 = .ok (.aload_n 0, 1) := by decide +kernel
theorem jd_M_passType_37 : decode prog_10_method_9_code 37 = .ok (.aload_n 0, 1) := by decide +kernel
theorem jd_M_passType_38 : decode prog_10_method_9_code 38 = .ok (.getfield 62, 3) := by decide +kernel
theorem jd_M_passType_41 : decode prog_10_method_9_code 41 = .ok (.invokevirtual 65, 3) := by decide +kernel
theorem jd_M_passType_44 : decode prog_10_method_9_code 44 = .ok (.istore_n 2, 1) := by decide +kernel
theorem jd_M_passType_45 : decode prog_10_method_9_code 45 = .ok (.aload_n 0, 1) := by decide +kernel
theorem jd_M_passType_46 : decode prog_10_method_9_code 46 = .ok (.dup, 1) := by decide +kernel
theorem jd_M_passType_47 : decode prog_10_method_9_code 47 = .ok (.getfield 62, 3) := by decide +kernel
theorem jd_M_passType_50 : decode prog_10_method_9_code 50 = .ok (.iconst 1, 1) := by decide +kernel
theorem jd_M_passType_51 : decode prog_10_method_9_code 51 = .ok (.iadd, 1) := by decide +kernel
theorem jd_M_passType_52 : decode prog_10_method_9_code 52 = .ok (.putfield 62, 3) := by decide +kernel
theorem jd_M_passType_55 : decode prog_10_method_9_code 55 = .ok (.iload_n 1, 1) := by decide +kernel
theorem jd_M_passType_56 : decode prog_10_method_9_code 56 = .ok (.iconst 3, 1) := by decide +kernel
theorem jd_M_passType_57 : decode prog_10_method_9_code 57 = .ok (.if_icmp .gt 7, 3) := by decide +kernel
theorem jd_M_passType_60 : decode prog_10_method_9_code 60 = .ok (.iload_n 2, 1) := by decide +kernel
theorem jd_M_passType_61 : decode prog_10_method_9_code 61 = .ok (.ifCond .ne 5, 3) := by decide +kernel
theorem jd_M_passType_64 : decode prog_10_method_9_code 64 = .ok (.iconst 0, 1) := by decide +kernel
theorem jd_M_passType_65 : decode prog_10_method_9_code 65 = .ok (.ireturn, 1) := by decide +kernel
theorem jd_M_passType_66 : decode prog_10_method_9_code 66 = .ok (.iload_n 2, 1) := by decide +kernel
theorem jd_M_passType_67 : decode prog_10_method_9_code 67 = .ok (.bipush 66, 2) := by decide +kernel
theorem jd_M_passType_69 : decode prog_10_method_9_code 69 = .ok (.if_icmp .eq 45, 3) := by decide +kernel
theorem jd_M_passType_72 : decode prog_10_method_9_code 72 = .ok (.iload_n 2, 1) := by decide +kernel
theorem jd_M_passType_73 : decode prog_10_method_9_code 73 = .ok (.bipush 67, 2) := by decide +kernel
theorem jd_M_passType_75 : decode prog_10_method_9_code 75 = .ok (.if_icmp .eq 39, 3) := by decide +kernel
theorem jd_M_passType_78 : decode prog_10_method_9_code 78 = .ok (.iload_n 2, 1) := by decide +kernel
theorem jd_M_passType_79 : decode prog_10_method_9_code 79 = .ok (.bipush 68, 2) := by decide +kernel
theorem jd_M_passType_81 : decode prog_10_method_9_code 81 = .ok (.if_icmp .eq 33, 3) := by decide +kernel
theorem jd_M_passType_84 : decode prog_10_method_9_code 84 = .ok (.iload_n 2, 1) := by decide +kernel
theorem jd_M_passType_85 : decode prog_10_method_9_code 85 = .ok (.bipush 70, 2) := by decide +kernel
theorem jd_M_passType_87 : decode prog_10_method_9_code 87 = .ok (.if_icmp .eq 27, 3) := by decide +kernel
theorem jd_M_passType_90 : decode prog_10_method_9_code 90 = .ok (.iload_n 2, 1) := by decide +kernel
theorem jd_M_passType_91 : decode prog_10_method_9_code 91 = .ok (.bipush 73, 2) := by decide +kernel
theorem jd_M_passType_93 : decode prog_10_method_9_code 93 = .ok (.if_icmp .eq 21, 3) := by decide +kernel
theorem jd_M_passType_96 : decode prog_10_method_9_code 96 = .ok (.iload_n 2, 1) := by decide +kernel
theorem jd_M_passType_97 : decode prog_10_method_9_code 97 = .ok (.bipush 74, 2) := by decide +kernel
theorem jd_M_passType_99 : decode prog_10_method_9_code 99 = .ok (.if_icmp .eq 15, 3) := by decide +kernel
theorem jd_M_passType_102 : decode prog_10_method_9_code 102 = .ok (.iload_n 2, 1) := by decide +kernel
theorem jd_M_passType_103 : decode prog_10_method_9_code 103 = .ok (.bipush 83, 2) := by decide +kernel
theorem jd_M_passType_105 : decode prog_10_method_9_code 105 = .ok (.if_icmp .eq 9, 3) := by decide +kernel
theorem jd_M_passType_108 : decode prog_10_method_9_code 108 = .ok (.iload_n 2, 1) := by decide +kernel
theorem jd_M_passType_109 : decode prog_10_method_9_code 109 = .ok (.bipush 90, 2) := by decide +kernel
theorem jd_M_passType_111 : decode prog_10_method_9_code 111 = .ok (.if_icmp .ne 5, 3) := by decide +kernel
theorem jd_M_passType_114 : decode prog_10_method_9_code 114 = .ok (.iconst 1, 1) := by decide +kernel
theorem jd_M_passType_115 : decode prog_10_method_9_code 115 = .ok (.ireturn, 1) := by decide +kernel
theorem jd_M_passType_116 : decode prog_10_method_9_code 116 = .ok (.iload_n 2, 1) := by decide +kernel
theorem jd_M_passType_117 : decode prog_10_method_9_code 117 = .ok (.bipush 76, 2) := by decide +kernel
theorem jd_M_passType_119 : decode prog_10_method_9_code 119 = .ok (.if_icmp .eq 5, 3) := by decide +kernel
theorem jd_M_passType_122 : decode prog_10_method_9_code 122 = .ok (.iconst 0, 1) := by decide +kernel
theorem jd_M_passType_123 : decode prog_10_method_9_code 123 = .ok (.ireturn, 1) := by decide +kernel
theorem jd_M_passType_124 : decode prog_10_method_9_code 124 = .ok (.aload_n 0, 1) := by decide +kernel
theorem jd_M_passType_125 : decode prog_10_method_9_code 125 = .ok (.getfield 62, 3) := by decide +kernel
theorem jd_M_passType_128 : decode prog_10_method_9_code 128 = .ok (.istore_n 3, 1) := by decide +kernel
theorem jd_M_passType_129 : decode prog_10_method_9_code 129 = .ok (.iconst 0, 1) := by decide +kernel
theorem jd_M_passType_130 : decode prog_10_method_9_code 130 = .ok (.istore 4, 2) := by decide +kernel
theorem jd_M_passType_132 : decode prog_10_method_9_code 132 = .ok (.iload 4, 2) := by decide +kernel
theorem jd_M_passType_134 : decode prog_10_method_9_code 134 = .ok (.bipush 24, 2) := by decide +kernel
theorem jd_M_passType_136 : decode prog_10_method_9_code 136 = .ok (.if_icmp .ge 97, 3) := by decide +kernel
theorem jd_M_passType_139 : decode prog_10_method_9_code 139 = .ok (.aload_n 0, 1) := by decide +kernel
theorem jd_M_passType_140 : decode prog_10_method_9_code 140 = .ok (.aload_n 0, 1) := by decide +kernel
theorem jd_M_passType_141 : decode prog_10_method_9_code 141 = .ok (.getfield 62, 3) := by decide +kernel
theorem jd_M_passType_144 : decode prog_10_method_9_code 144 = .ok (.invokevirtual 65, 3) := by decide +kernel
theorem jd_M_passType_147 : decode prog_10_method_9_code 147 = .ok (.istore 5, 2) := by decide +kernel
theorem jd_M_passType_149 : decode prog_10_method_9_code 149 = .ok (.iload 5, 2) := by decide +kernel
theorem jd_M_passType_151 : decode prog_10_method_9_code 151 = .ok (.bipush 59, 2) := by decide +kernel
theorem jd_M_passType_153 : decode prog_10_method_9_code 153 = .ok (.if_icmp .ne 29, 3) := by decide +kernel
theorem jd_M_passType_156 : decode prog_10_method_9_code 156 = .ok (.aload_n 0, 1) := by decide +kernel
theorem jd_M_passType_157 : decode prog_10_method_9_code 157 = .ok (.dup, 1) := by decide +kernel
theorem jd_M_passType_158 : decode prog_10_method_9_code 158 = .ok (.getfield 62, 3) := by decide +kernel
theorem jd_M_passType_161 : decode prog_10_method_9_code 161 = .ok (.iconst 1, 1) := by decide +kernel
theorem jd_M_passType_162 : decode prog_10_method_9_code 162 = .ok (.iadd, 1) := by decide +kernel
theorem jd_M_passType_163 : decode prog_10_method_9_code 163 = .ok (.putfield 62, 3) := by decide +kernel
theorem jd_M_passType_166 : decode prog_10_method_9_code 166 = .ok (.aload_n 0, 1) := by decide +kernel
theorem jd_M_passType_167 : decode prog_10_method_9_code 167 = .ok (.getfield 62, 3) := by decide +kernel
theorem jd_M_passType_170 : decode prog_10_method_9_code 170 = .ok (.iconst 1, 1) := by decide +kernel
theorem jd_M_passType_171 : decode prog_10_method_9_code 171 = .ok (.isub, 1) := by decide +kernel
theorem jd_M_passType_172 : decode prog_10_method_9_code 172 = .ok (.iload_n 3, 1) := by decide +kernel
theorem jd_M_passType_173 : decode prog_10_method_9_code 173 = .ok (.if_icmp .le 7, 3) := by decide +kernel
theorem jd_M_passType_176 : decode prog_10_method_9_code 176 = .ok (.iconst 1, 1) := by decide +kernel
theorem jd_M_passType_177 : decode prog_10_method_9_code 177 = .ok (.goto 4, 3) := by decide +kernel
theorem jd_M_passType_180 : decode prog_10_method_9_code 180 = .ok (.iconst 0, 1) := by decide +kernel
theorem jd_M_passType_181 : decode prog_10_method_9_code 181 = .ok (.ireturn, 1) := by decide +kernel
theorem jd_M_passType_182 : decode prog_10_method_9_code 182 = .ok (.iload 5, 2) := by decide +kernel
theorem jd_M_passType_184 : decode prog_10_method_9_code 184 = .ok (.ifCond .eq 31, 3) := by decide +kernel
theorem jd_M_passType_187 : decode prog_10_method_9_code 187 = .ok (.iload 5, 2) := by decide +kernel
theorem jd_M_passType_189 : decode prog_10_method_9_code 189 = .ok (.bipush 91, 2) := by decide +kernel
theorem jd_M_passType_191 : decode prog_10_method_9_code 191 = .ok (.if_icmp .eq 24, 3) := by decide +kernel
theorem jd_M_passType_194 : decode prog_10_method_9_code 194 = .ok (.iload 5, 2) := by decide +kernel
theorem jd_M_passType_196 : decode prog_10_method_9_code 196 = .ok (.bipush 40, 2) := by decide +kernel
theorem jd_M_passType_198 : decode prog_10_method_9_code 198 = .ok (.if_icmp .eq 17, 3) := by decide +kernel
theorem jd_M_passType_201 : decode prog_10_method_9_code 201 = .ok (.iload 5, 2) := by decide +kernel
theorem jd_M_passType_203 : decode prog_10_method_9_code 203 = .ok (.bipush 41, 2) := by decide +kernel
theorem jd_M_passType_205 : decode prog_10_method_9_code 205 = .ok (.if_icmp .eq 10, 3) := by decide +kernel
theorem jd_M_passType_208 : decode prog_10_method_9_code 208 = .ok (.iload 5, 2) := by decide +kernel
theorem jd_M_passType_210 : decode prog_10_method_9_code 210 = .ok (.bipush 46, 2) := by decide +kernel
theorem jd_M_passType_212 : decode prog_10_method_9_code 212 = .ok (.if_icmp .ne 5, 3) := by decide +kernel
theorem jd_M_passType_215 : decode prog_10_method_9_code 215 = .ok (.iconst 0, 1) := by decide +kernel
theorem jd_M_passType_216 : decode prog_10_method_9_code 216 = .ok (.ireturn, 1) := by decide +kernel
theorem jd_M_passType_217 : decode prog_10_method_9_code 217 = .ok (.aload_n 0, 1) := by decide +kernel
theorem jd_M_passType_218 : decode prog_10_method_9_code 218 = .ok (.dup, 1) := by decide +kernel
theorem jd_M_passType_219 : decode prog_10_method_9_code 219 = .ok (.getfield 62, 3) := by decide +kernel
theorem jd_M_passType_222 : decode prog_10_method_9_code 222 = .ok (.iconst 1, 1) := by decide +kernel
theorem jd_M_passType_223 : decode prog_10_method_9_code 223 = .ok (.iadd, 1) := by decide +kernel
theorem jd_M_passType_224 : decode prog_10_method_9_code 224 = .ok (.putfield 62, 3) := by decide +kernel
theorem jd_M_passType_227 : decode prog_10_method_9_code 227 = .ok (.iinc 4 1, 3) := by decide +kernel
theorem jd_M_passType_230 : decode prog_10_method_9_code 230 = .ok (.goto (-98), 3) := by decide +kernel
theorem jd_M_passType_233 : decode prog_10_method_9_code 233 = .ok (.iconst 0, 1) := by decide +kernel
theorem jd_M_passType_234 : decode prog_10_method_9_code 234 = .ok (.ireturn, 1) := by decide +kernel
theorem jd_M_signAt_0 : decode prog_10_method_8_code 0 = .ok (.iload_n 1, 1) := by decide +kernel
theorem jd_M_signAt_1 : decode prog_10_method_8_code 1 = .ok (.aload_n 0, 1) := by decide +kernel
theorem jd_M_signAt_2 : decode prog_10_method_8_code 2 = .ok (.getfield 58, 3) := by decide +kernel
theorem jd_M_signAt_5 : decode prog_10_method_8_code 5 = .ok (.if_icmp .ge 12, 3) := by decide +kernel
theorem jd_M_signAt_8 : decode prog_10_method_8_code 8 = .ok (.aload_n 0, 1) := by decide +kernel
theorem jd_M_signAt_9 : decode prog_10_method_8_code 9 = .ok (.getfield 7, 3) := by decide +kernel
theorem jd_M_signAt_12 : decode prog_10_method_8_code 12 = .ok (.iload_n 1, 1) := by decide +kernel
theorem jd_M_signAt_13 : decode prog_10_method_8_code 13 = .ok (.iaload, 1) := by decide +kernel
theorem jd_M_signAt_14 : decode prog_10_method_8_code 14 = .ok (.goto 4, 3) := by decide +kernel
theorem jd_M_signAt_17 : decode prog_10_method_8_code 17 = .ok (.iconst 0, 1) := by decide +kernel
theorem jd_M_signAt_18 : decode prog_10_method_8_code 18 = .ok (.ireturn, 1) := by decide +kernel
theorem jd_M_find_0 : decode prog_10_method_13_code 0 = .ok (.bipush 10, 2) := by decide +kernel
theorem jd_M_find_2 : decode prog_10_method_13_code 2 = .ok (.iload_n 1, 1) := by decide +kernel
theorem jd_M_find_3 : decode prog_10_method_13_code 3 = .ok (.imul, 1) := by decide +kernel
theorem jd_M_find_4 : decode prog_10_method_13_code 4 = .ok (.istore_n 3, 1) := by decide +kernel
theorem jd_M_find_5 : decode prog_10_method_13_code 5 = .ok (.iload_n 3, 1) := by decide +kernel
theorem jd_M_find_6 : decode prog_10_method_13_code 6 = .ok (.bipush 10, 2) := by decide +kernel
theorem jd_M_find_8 : decode prog_10_method_13_code 8 = .ok (.iload_n 1, 1) := by decide +kernel
theorem jd_M_find_9 : decode prog_10_method_13_code 9 = .ok (.imul, 1) := by decide +kernel
theorem jd_M_find_10 : decode prog_10_method_13_code 10 = .ok (.aload_n 0, 1) := by decide +kernel
theorem jd_M_find_11 : decode prog_10_method_13_code 11 = .ok (.getfield 26, 3) := by decide +kernel
theorem jd_M_find_14 : decode prog_10_method_13_code 14 = .ok (.iload_n 1, 1) := by decide +kernel
theorem jd_M_find_15 : decode prog_10_method_13_code 15 = .ok (.iaload, 1) := by decide +kernel
theorem jd_M_find_16 : decode prog_10_method_13_code 16 = .ok (.iadd, 1) := by decide +kernel
theorem jd_M_find_17 : decode prog_10_method_13_code 17 = .ok (.if_icmp .ge 88, 3) := by decide +kernel
theorem jd_M_find_20 : decode prog_10_method_13_code 20 = .ok (.iload_n 2, 1) := by decide +kernel
theorem jd_M_find_21 : decode prog_10_method_13_code 21 = .ok (.iconst 1, 1) := by decide +kernel
theorem jd_M_find_22 : decode prog_10_method_13_code 22 = .ok (.if_icmp .eq 20, 3) := by decide +kernel
theorem jd_M_find_25 : decode prog_10_method_13_code 25 = .ok (.iload_n 2, 1) := by decide +kernel
theorem jd_M_find_26 : decode prog_10_method_13_code 26 = .ok (.iconst 3, 1) := by decide +kernel
theorem jd_M_find_27 : decode prog_10_method_13_code 27 = .ok (.if_icmp .eq 15, 3) := by decide +kernel
theorem jd_M_find_30 : decode prog_10_method_13_code 30 = .ok (.aload_n 0, 1) := by decide +kernel
theorem jd_M_find_31 : decode prog_10_method_13_code 31 = .ok (.iconst 0, 1) := by decide +kernel
theorem jd_M_find_32 : decode prog_10_method_13_code 32 = .ok (.bipush 22, 2) := by decide +kernel
theorem jd_M_find_34 : decode prog_10_method_13_code 34 = .ok (.iload_n 3, 1) := by decide +kernel
theorem jd_M_find_35 : decode prog_10_method_13_code 35 = .ok (.iadd, 1) := by decide +kernel
theorem jd_M_find_36 : decode prog_10_method_13_code 36 = .ok (.invokevirtual 82, 3) := by decide +kernel
theorem jd_M_find_39 : decode prog_10_method_13_code 39 = .ok (.ifCond .ne 7, 3) := by decide +kernel
theorem jd_M_find_42 : decode prog_10_method_13_code 42 = .ok (.iconst 1, 1) := by decide +kernel
theorem jd_M_find_43 : decode prog_10_method_13_code 43 = .ok (.goto 4, 3) := by decide +kernel
theorem jd_M_find_46 : decode prog_10_method_13_code 46 = .ok (.iconst 0, 1) := by decide +kernel
theorem jd_M_find_47 : decode prog_10_method_13_code 47 = .ok (.istore 4, 2) := by decide +kernel
theorem jd_M_find_49 : decode prog_10_method_13_code 49 = .ok (.iload_n 2, 1) := by decide +kernel
theorem jd_M_find_50 : decode prog_10_method_13_code 50 = .ok (.ifCond .eq 20, 3) := by decide +kernel
theorem jd_M_find_53 : decode prog_10_method_13_code 53 = .ok (.iload_n 2, 1) := by decide +kernel
theorem jd_M_find_54 : decode prog_10_method_13_code 54 = .ok (.iconst 3, 1) := by decide +kernel
theorem jd_M_find_55 : decode prog_10_method_13_code 55 = .ok (.if_icmp .eq 15, 3) := by decide +kernel
theorem jd_M_find_58 : decode prog_10_method_13_code 58 = .ok (.aload_n 0, 1) := by decide +kernel
theorem jd_M_find_59 : decode prog_10_method_13_code 59 = .ok (.iconst 1, 1) := by decide +kernel
theorem jd_M_find_60 : decode prog_10_method_13_code 60 = .ok (.bipush 62, 2) := by decide +kernel
theorem jd_M_find_62 : decode prog_10_method_13_code 62 = .ok (.iload_n 3, 1) := by decide +kernel
theorem jd_M_find_63 : decode prog_10_method_13_code 63 = .ok (.iadd, 1) := by decide +kernel
theorem jd_M_find_64 : decode prog_10_method_13_code 64 = .ok (.invokevirtual 82, 3) := by decide +kernel
theorem jd_M_find_67 : decode prog_10_method_13_code 67 = .ok (.ifCond .ne 7, 3) := by decide +kernel
theorem jd_M_find_70 : decode prog_10_method_13_code 70 = .ok (.iconst 1, 1) := by decide +kernel
theorem jd_M_find_71 : decode prog_10_method_13_code 71 = .ok (.goto 4, 3) := by decide +kernel
theorem jd_M_find_74 : decode prog_10_method_13_code 74 = .ok (.iconst 0, 1) := by decide +kernel
theorem jd_M_find_75 : decode prog_10_method_13_code 75 = .ok (.istore 5, 2) := by decide +kernel
theorem jd_M_find_77 : decode prog_10_method_13_code 77 = .ok (.aload_n 0, 1) := by decide +kernel
theorem jd_M_find_78 : decode prog_10_method_13_code 78 = .ok (.getfield 36, 3) := by decide +kernel
theorem jd_M_find_81 : decode prog_10_method_13_code 81 = .ok (.iload_n 3, 1) := by decide +kernel
theorem jd_M_find_82 : decode prog_10_method_13_code 82 = .ok (.iaload, 1) := by decide +kernel
theorem jd_M_find_83 : decode prog_10_method_13_code 83 = .ok (.iload_n 2, 1) := by decide +kernel
theorem jd_M_find_84 : decode prog_10_method_13_code 84 = .ok (.if_icmp .ne 15, 3) := by decide +kernel
theorem jd_M_find_87 : decode prog_10_method_13_code 87 = .ok (.iload 4, 2) := by decide +kernel
theorem jd_M_find_89 : decode prog_10_method_13_code 89 = .ok (.ifCond .eq 10, 3) := by decide +kernel
theorem jd_M_find_92 : decode prog_10_method_13_code 92 = .ok (.iload 5, 2) := by decide +kernel
theorem jd_M_find_94 : decode prog_10_method_13_code 94 = .ok (.ifCond .eq 5, 3) := by decide +kernel
theorem jd_M_find_97 : decode prog_10_method_13_code 97 = .ok (.iload_n 3, 1) := by decide +kernel
theorem jd_M_find_98 : decode prog_10_method_13_code 98 = .ok (.ireturn, 1) := by decide +kernel
theorem jd_M_find_99 : decode prog_10_method_13_code 99 = .ok (.iinc 3 1, 3) := by decide +kernel
theorem jd_M_find_102 : decode prog_10_method_13_code 102 = .ok (.goto (-97), 3) := by decide +kernel
theorem jd_M_find_105 : decode prog_10_method_13_code 105 = .ok (.iconst (-1), 1) := by decide +kernel
theorem jd_M_find_106 : decode prog_10_method_13_code 106 = .ok (.ireturn, 1) := by decide +kernel
theorem jd_M_remove_0 : decode prog_10_method_15_code 0 = .ok (.aload_n 0, 1) := by decide +kernel
theorem jd_M_remove_1 : decode prog_10_method_15_code 1 = .ok (.iload_n 1, 1) := by decide +kernel
theorem jd_M_remove_2 : decode prog_10_method_15_code 2 = .ok (.invokevirtual 78, 3) := by decide +kernel
theorem jd_M_remove_5 : decode prog_10_method_15_code 5 = .ok (.ifCond .ne 12, 3) := by decide +kernel
theorem jd_M_remove_8 : decode prog_10_method_15_code 8 = .ok (.aload_n 0, 1) := by decide +kernel
theorem jd_M_remove_9 : decode prog_10_method_15_code 9 = .ok (.iload_n 2, 1) := by decide +kernel
theorem jd_M_remove_10 : decode prog_10_method_15_code 10 = .ok (.iconst 4, 1) := by decide +kernel
theorem jd_M_remove_11 : decode prog_10_method_15_code 11 = .ok (.invokevirtual 54, 3) := by decide +kernel
theorem jd_M_remove_14 : decode prog_10_method_15_code 14 = .ok (.ifCond .eq 5, 3) := by decide +kernel
theorem jd_M_remove_17 : decode prog_10_method_15_code 17 = .ok (.iconst (-1), 1) := by decide +kernel
theorem jd_M_remove_18 : decode prog_10_method_15_code 18 = .ok (.ireturn, 1) := by decide +kernel
theorem jd_M_remove_19 : decode prog_10_method_15_code 19 = .ok (.aload_n 0, 1) := by decide +kernel
theorem jd_M_remove_20 : decode prog_10_method_15_code 20 = .ok (.iload_n 1, 1) := by decide +kernel
theorem jd_M_remove_21 : decode prog_10_method_15_code 21 = .ok (.iload_n 2, 1) := by decide +kernel
theorem jd_M_remove_22 : decode prog_10_method_15_code 22 = .ok (.invokevirtual 89, 3) := by decide +kernel
theorem jd_M_remove_25 : decode prog_10_method_15_code 25 = .ok (.istore_n 3, 1) := by decide +kernel
theorem jd_M_remove_26 : decode prog_10_method_15_code 26 = .ok (.iload_n 3, 1) := by decide +kernel
theorem jd_M_remove_27 : decode prog_10_method_15_code 27 = .ok (.ifCond .ge 6, 3) := by decide +kernel
theorem jd_M_remove_30 : decode prog_10_method_15_code 30 = .ok (.bipush (-2), 2) := by decide +kernel
theorem jd_M_remove_32 : decode prog_10_method_15_code 32 = .ok (.ireturn, 1) := by decide +kernel
theorem jd_M_remove_33 : decode prog_10_method_15_code 33 = .ok (.aload_n 0, 1) := by decide +kernel
theorem jd_M_remove_34 : decode prog_10_method_15_code 34 = .ok (.getfield 26, 3) := by decide +kernel
theorem jd_M_remove_37 : decode prog_10_method_15_code 37 = .ok (.iload_n 1, 1) := by decide +kernel
theorem jd_M_remove_38 : decode prog_10_method_15_code 38 = .ok (.dup2, 1) := by decide +kernel
theorem jd_M_remove_39 : decode prog_10_method_15_code 39 = .ok (.iaload, 1) := by decide +kernel
theorem jd_M_remove_40 : decode prog_10_method_15_code 40 = .ok (.iconst 1, 1) := by decide +kernel
theorem jd_M_remove_41 : decode prog_10_method_15_code 41 = .ok (.isub, 1) := by decide +kernel
theorem jd_M_remove_42 : decode prog_10_method_15_code 42 = .ok (.iastore, 1) := by decide +kernel
theorem jd_M_remove_43 : decode prog_10_method_15_code 43 = .ok (.iload_n 3, 1) := by decide +kernel
theorem jd_M_remove_44 : decode prog_10_method_15_code 44 = .ok (.istore 4, 2) := by decide +kernel
theorem jd_M_remove_46 : decode prog_10_method_15_code 46 = .ok (.iload 4, 2) := by decide +kernel
theorem jd_M_remove_48 : decode prog_10_method_15_code 48 = .ok (.bipush 10, 2) := by decide +kernel
theorem jd_M_remove_50 : decode prog_10_method_15_code 50 = .ok (.iload_n 1, 1) := by decide +kernel
theorem jd_M_remove_51 : decode prog_10_method_15_code 51 = .ok (.imul, 1) := by decide +kernel
theorem jd_M_remove_52 : decode prog_10_method_15_code 52 = .ok (.aload_n 0, 1) := by decide +kernel
theorem jd_M_remove_53 : decode prog_10_method_15_code 53 = .ok (.getfield 26, 3) := by decide +kernel
theorem jd_M_remove_56 : decode prog_10_method_15_code 56 = .ok (.iload_n 1, 1) := by decide +kernel
theorem jd_M_remove_57 : decode prog_10_method_15_code 57 = .ok (.iaload, 1) := by decide +kernel
theorem jd_M_remove_58 : decode prog_10_method_15_code 58 = .ok (.iadd, 1) := by decide +kernel
theorem jd_M_remove_59 : decode prog_10_method_15_code 59 = .ok (.if_icmp .ge 69, 3) := by decide +kernel
theorem jd_M_remove_62 : decode prog_10_method_15_code 62 = .ok (.aload_n 0, 1) := by decide +kernel
theorem jd_M_remove_63 : decode prog_10_method_15_code 63 = .ok (.getfield 36, 3) := by decide +kernel
theorem jd_M_remove_66 : decode prog_10_method_15_code 66 = .ok (.iload 4, 2) := by decide +kernel
theorem jd_M_remove_68 : decode prog_10_method_15_code 68 = .ok (.aload_n 0, 1) := by decide +kernel
theorem jd_M_remove_69 : decode prog_10_method_15_code 69 = .ok (.getfield 36, 3) := by decide +kernel
theorem jd_M_remove_72 : decode prog_10_method_15_code 72 = .ok (.iload 4, 2) := by decide +kernel
theorem jd_M_remove_74 : decode prog_10_method_15_code 74 = .ok (.iconst 1, 1) := by decide +kernel
theorem jd_M_remove_75 : decode prog_10_method_15_code 75 = .ok (.iadd, 1) := by decide +kernel
theorem jd_M_remove_76 : decode prog_10_method_15_code 76 = .ok (.iaload, 1) := by decide +kernel
theorem jd_M_remove_77 : decode prog_10_method_15_code 77 = .ok (.iastore, 1) := by decide +kernel
theorem jd_M_remove_78 : decode prog_10_method_15_code 78 = .ok (.aload_n 0, 1) := by decide +kernel
theorem jd_M_remove_79 : decode prog_10_method_15_code 79 = .ok (.getfield 39, 3) := by decide +kernel
theorem jd_M_remove_82 : decode prog_10_method_15_code 82 = .ok (.iload 4, 2) := by decide +kernel
theorem jd_M_remove_84 : decode prog_10_method_15_code 84 = .ok (.aload_n 0, 1) := by decide +kernel
theorem jd_M_remove_85 : decode prog_10_method_15_code 85 = .ok (.getfield 39, 3) := by decide +kernel
theorem jd_M_remove_88 : decode prog_10_method_15_code 88 = .ok (.iload 4, 2) := by decide +kernel
theorem jd_M_remove_90 : decode prog_10_method_15_code 90 = .ok (.iconst 1, 1) := by decide +kernel
theorem jd_M_remove_91 : decode prog_10_method_15_code 91 = .ok (.iadd, 1) := by decide +kernel
theorem jd_M_remove_92 : decode prog_10_method_15_code 92 = .ok (.iaload, 1) := by decide +kernel
theorem jd_M_remove_93 : decode prog_10_method_15_code 93 = .ok (.iastore, 1) := by decide +kernel
theorem jd_M_remove_94 : decode prog_10_method_15_code 94 = .ok (.aload_n 0, 1) := by decide +kernel
theorem jd_M_remove_95 : decode prog_10_method_15_code 95 = .ok (.bipush 23, 2) := by decide +kernel
theorem jd_M_remove_97 : decode prog_10_method_15_code 97 = .ok (.iload 4, 2) := by decide +kernel
theorem jd_M_remove_99 : decode prog_10_method_15_code 99 = .ok (.iadd, 1) := by decide +kernel
theorem jd_M_remove_100 : decode prog_10_method_15_code 100 = .ok (.bipush 22, 2) := by decide +kernel
theorem jd_M_remove_102 : decode prog_10_method_15_code 102 = .ok (.iload 4, 2) := by decide +kernel
theorem jd_M_remove_104 : decode prog_10_method_15_code 104 = .ok (.iadd, 1) := by decide +kernel
theorem jd_M_remove_105 : decode prog_10_method_15_code 105 = .ok (.invokevirtual 74, 3) := by decide +kernel
theorem jd_M_remove_108 : decode prog_10_method_15_code 108 = .ok (.aload_n 0, 1) := by decide +kernel
theorem jd_M_remove_109 : decode prog_10_method_15_code 109 = .ok (.bipush 63, 2) := by decide +kernel
theorem jd_M_remove_111 : decode prog_10_method_15_code 111 = .ok (.iload 4, 2) := by decide +kernel
theorem jd_M_remove_113 : decode prog_10_method_15_code 113 = .ok (.iadd, 1) := by decide +kernel
theorem jd_M_remove_114 : decode prog_10_method_15_code 114 = .ok (.bipush 62, 2) := by decide +kernel
theorem jd_M_remove_116 : decode prog_10_method_15_code 116 = .ok (.iload 4, 2) := by decide +kernel
theorem jd_M_remove_118 : decode prog_10_method_15_code 118 = .ok (.iadd, 1) := by decide +kernel
theorem jd_M_remove_119 : decode prog_10_method_15_code 119 = .ok (.invokevirtual 74, 3) := by decide +kernel
theorem jd_M_remove_122 : decode prog_10_method_15_code 122 = .ok (.iinc 4 1, 3) := by decide +kernel
theorem jd_M_remove_125 : decode prog_10_method_15_code 125 = .ok (.goto (-79), 3) := by decide +kernel
theorem jd_M_remove_128 : decode prog_10_method_15_code 128 = .ok (.aload_n 0, 1) := by decide +kernel
theorem jd_M_remove_129 : decode prog_10_method_15_code 129 = .ok (.getfield 26, 3) := by decide +kernel
theorem jd_M_remove_132 : decode prog_10_method_15_code 132 = .ok (.iload_n 1, 1) := by decide +kernel
theorem jd_M_remove_133 : decode prog_10_method_15_code 133 = .ok (.iaload, 1) := by decide +kernel
theorem jd_M_remove_134 : decode prog_10_method_15_code 134 = .ok (.ireturn, 1) := by decide +kernel
theorem jd_M_declare_0 : decode prog_10_method_16_code 0 = .ok (.aload_n 0, 1) := by decide +kernel
theorem jd_M_declare_1 : decode prog_10_method_16_code 1 = .ok (.iload_n 1, 1) := by decide +kernel
theorem jd_M_declare_2 : decode prog_10_method_16_code 2 = .ok (.invokevirtual 78, 3) := by decide +kernel
theorem jd_M_declare_5 : decode prog_10_method_16_code 5 = .ok (.ifCond .eq 5, 3) := by decide +kernel
theorem jd_M_declare_8 : decode prog_10_method_16_code 8 = .ok (.iconst (-1), 1) := by decide +kernel
theorem jd_M_declare_9 : decode prog_10_method_16_code 9 = .ok (.ireturn, 1) := by decide +kernel
theorem jd_M_declare_10 : decode prog_10_method_16_code 10 = .ok (.aload_n 0, 1) := by decide +kernel
theorem jd_M_declare_11 : decode prog_10_method_16_code 11 = .ok (.getfield 29, 3) := by decide +kernel
theorem jd_M_declare_14 : decode prog_10_method_16_code 14 = .ok (.iload_n 1, 1) := by decide +kernel
theorem jd_M_declare_15 : decode prog_10_method_16_code 15 = .ok (.iload_n 2, 1) := by decide +kernel
theorem jd_M_declare_16 : decode prog_10_method_16_code 16 = .ok (.bastore, 1) := by decide +kernel
theorem jd_M_declare_17 : decode prog_10_method_16_code 17 = .ok (.aload_n 0, 1) := by decide +kernel
theorem jd_M_declare_18 : decode prog_10_method_16_code 18 = .ok (.getfield 32, 3) := by decide +kernel
theorem jd_M_declare_21 : decode prog_10_method_16_code 21 = .ok (.iload_n 1, 1) := by decide +kernel
theorem jd_M_declare_22 : decode prog_10_method_16_code 22 = .ok (.lload_n 3, 1) := by decide +kernel
theorem jd_M_declare_23 : decode prog_10_method_16_code 23 = .ok (.lastore, 1) := by decide +kernel
theorem jd_M_declare_24 : decode prog_10_method_16_code 24 = .ok (.iconst 0, 1) := by decide +kernel
theorem jd_M_declare_25 : decode prog_10_method_16_code 25 = .ok (.ireturn, 1) := by decide +kernel
theorem jd_M_id_0 : decode prog_10_method_32_code 0 = .ok (.aload_n 0, 1) := by decide +kernel
theorem jd_M_id_1 : decode prog_10_method_32_code 1 = .ok (.iload_n 1, 1) := by decide +kernel
theorem jd_M_id_2 : decode prog_10_method_32_code 2 = .ok (.invokevirtual 78, 3) := by decide +kernel
theorem jd_M_id_5 : decode prog_10_method_32_code 5 = .ok (.ifCond .eq 7, 3) := by decide +kernel
theorem jd_M_id_8 : decode prog_10_method_32_code 8 = .ok (.ldc2_w 151, 3) := by decide +kernel
theorem jd_M_id_11 : decode prog_10_method_32_code 11 = .ok (.lreturn, 1) := by decide +kernel
theorem jd_M_id_12 : decode prog_10_method_32_code 12 = .ok (.aload_n 0, 1) := by decide +kernel
theorem jd_M_id_13 : decode prog_10_method_32_code 13 = .ok (.getfield 20, 3) := by decide +kernel
theorem jd_M_id_16 : decode prog_10_method_32_code 16 = .ok (.iload_n 1, 1) := by decide +kernel
theorem jd_M_id_17 : decode prog_10_method_32_code 17 = .ok (.iaload, 1) := by decide +kernel
theorem jd_M_id_18 : decode prog_10_method_32_code 18 = .ok (.sipush 16384, 3) := by decide +kernel
theorem jd_M_id_21 : decode prog_10_method_32_code 21 = .ok (.iand, 1) := by decide +kernel
theorem jd_M_id_22 : decode prog_10_method_32_code 22 = .ok (.ifCond .eq 5, 3) := by decide +kernel
theorem jd_M_id_25 : decode prog_10_method_32_code 25 = .ok (.lconst 0, 1) := by decide +kernel
theorem jd_M_id_26 : decode prog_10_method_32_code 26 = .ok (.lreturn, 1) := by decide +kernel
theorem jd_M_id_27 : decode prog_10_method_32_code 27 = .ok (.aload_n 0, 1) := by decide +kernel
theorem jd_M_id_28 : decode prog_10_method_32_code 28 = .ok (.getfield 29, 3) := by decide +kernel
theorem jd_M_id_31 : decode prog_10_method_32_code 31 = .ok (.iload_n 1, 1) := by decide +kernel
theorem jd_M_id_32 : decode prog_10_method_32_code 32 = .ok (.baload, 1) := by decide +kernel
theorem jd_M_id_33 : decode prog_10_method_32_code 33 = .ok (.ifCond .eq 10, 3) := by decide +kernel
theorem jd_M_id_36 : decode prog_10_method_32_code 36 = .ok (.aload_n 0, 1) := by decide +kernel
theorem jd_M_id_37 : decode prog_10_method_32_code 37 = .ok (.getfield 32, 3) := by decide +kernel
theorem jd_M_id_40 : decode prog_10_method_32_code 40 = .ok (.iload_n 1, 1) := by decide +kernel
theorem jd_M_id_41 : decode prog_10_method_32_code 41 = .ok (.laload, 1) := by decide +kernel
theorem jd_M_id_42 : decode prog_10_method_32_code 42 = .ok (.lreturn, 1) := by decide +kernel
theorem jd_M_id_43 : decode prog_10_method_32_code 43 = .ok (.aload_n 0, 1) := by decide +kernel
theorem jd_M_id_44 : decode prog_10_method_32_code 44 = .ok (.iload_n 1, 1) := by decide +kernel
theorem jd_M_id_45 : decode prog_10_method_32_code 45 = .ok (.invokevirtual 153, 3) := by decide +kernel
theorem jd_M_id_48 : decode prog_10_method_32_code 48 = .ok (.lconst 0, 1) := by decide +kernel
theorem jd_M_id_49 : decode prog_10_method_32_code 49 = .ok (.lstore_n 2, 1) := by decide +kernel
theorem jd_M_id_50 : decode prog_10_method_32_code 50 = .ok (.bipush 7, 2) := by decide +kernel
theorem jd_M_id_52 : decode prog_10_method_32_code 52 = .ok (.istore 4, 2) := by decide +kernel
theorem jd_M_id_54 : decode prog_10_method_32_code 54 = .ok (.iload 4, 2) := by decide +kernel
theorem jd_M_id_56 : decode prog_10_method_32_code 56 = .ok (.ifCond .lt 40, 3) := by decide +kernel
theorem jd_M_id_59 : decode prog_10_method_32_code 59 = .ok (.lload_n 2, 1) := by decide +kernel
theorem jd_M_id_60 : decode prog_10_method_32_code 60 = .ok (.bipush 8, 2) := by decide +kernel
theorem jd_M_id_62 : decode prog_10_method_32_code 62 = .ok (.lshl, 1) := by decide +kernel
theorem jd_M_id_63 : decode prog_10_method_32_code 63 = .ok (.aload_n 0, 1) := by decide +kernel
theorem jd_M_id_64 : decode prog_10_method_32_code 64 = .ok (.getfield 48, 3) := by decide +kernel
theorem jd_M_id_67 : decode prog_10_method_32_code 67 = .ok (.iload 4, 2) := by decide +kernel
theorem jd_M_id_69 : decode prog_10_method_32_code 69 = .ok (.iconst 4, 1) := by decide +kernel
theorem jd_M_id_70 : decode prog_10_method_32_code 70 = .ok (.idiv, 1) := by decide +kernel
theorem jd_M_id_71 : decode prog_10_method_32_code 71 = .ok (.iaload, 1) := by decide +kernel
theorem jd_M_id_72 : decode prog_10_method_32_code 72 = .ok (.bipush 24, 2) := by decide +kernel
theorem jd_M_id_74 : decode prog_10_method_32_code 74 = .ok (.bipush 8, 2) := by decide +kernel
theorem jd_M_id_76 : decode prog_10_method_32_code 76 = .ok (.iload 4, 2) := by decide +kernel
theorem jd_M_id_78 : decode prog_10_method_32_code 78 = .ok (.iconst 4, 1) := by decide +kernel
theorem jd_M_id_79 : decode prog_10_method_32_code 79 = .ok (.irem, 1) := by decide +kernel
theorem jd_M_id_80 : decode prog_10_method_32_code 80 = .ok (.imul, 1) := by decide +kernel
theorem jd_M_id_81 : decode prog_10_method_32_code 81 = .ok (.isub, 1) := by decide +kernel
theorem jd_M_id_82 : decode prog_10_method_32_code 82 = .ok (.ishr, 1) := by decide +kernel
theorem jd_M_id_83 : decode prog_10_method_32_code 83 = .ok (.sipush 255, 3) := by decide +kernel
theorem jd_M_id_86 : decode prog_10_method_32_code 86 = .ok (.iand, 1) := by decide +kernel
theorem jd_M_id_87 : decode prog_10_method_32_code 87 = .ok (.i2l, 1) := by decide +kernel
theorem jd_M_id_88 : decode prog_10_method_32_code 88 = .ok (.lor, 1) := by decide +kernel
theorem jd_M_id_89 : decode prog_10_method_32_code 89 = .ok (.lstore_n 2, 1) := by decide +kernel
theorem jd_M_id_90 : decode prog_10_method_32_code 90 = .ok (.iinc 4 (-1), 3) := by decide +kernel
theorem jd_M_id_93 : decode prog_10_method_32_code 93 = .ok (.goto (-39), 3) := by decide +kernel
theorem jd_M_id_96 : decode prog_10_method_32_code 96 = .ok (.lload_n 2, 1) := by decide +kernel
theorem jd_M_id_97 : decode prog_10_method_32_code 97 = .ok (.lreturn, 1) := by decide +kernel
theorem jd_M_digest_0 : decode prog_10_method_31_code 0 = .ok (.aload_n 0, 1) := by decide +kernel
theorem jd_M_digest_1 : decode prog_10_method_31_code 1 = .ok (.iload_n 1, 1) := by decide +kernel
theorem jd_M_digest_2 : decode prog_10_method_31_code 2 = .ok (.invokevirtual 140, 3) := by decide +kernel
theorem jd_M_digest_5 : decode prog_10_method_31_code 5 = .ok (.aload_n 0, 1) := by decide +kernel
theorem jd_M_digest_6 : decode prog_10_method_31_code 6 = .ok (.getfield 92, 3) := by decide +kernel
theorem jd_M_digest_9 : decode prog_10_method_31_code 9 = .ok (.istore_n 2, 1) := by decide +kernel
theorem jd_M_digest_10 : decode prog_10_method_31_code 10 = .ok (.aload_n 0, 1) := by decide +kernel
theorem jd_M_digest_11 : decode prog_10_method_31_code 11 = .ok (.sipush 128, 3) := by decide +kernel
theorem jd_M_digest_14 : decode prog_10_method_31_code 14 = .ok (.invokevirtual 95, 3) := by decide +kernel
theorem jd_M_digest_17 : decode prog_10_method_31_code 17 = .ok (.aload_n 0, 1) := by decide +kernel
theorem jd_M_digest_18 : decode prog_10_method_31_code 18 = .ok (.getfield 92, 3) := by decide +kernel
theorem jd_M_digest_21 : decode prog_10_method_31_code 21 = .ok (.bipush 64, 2) := by decide +kernel
theorem jd_M_digest_23 : decode prog_10_method_31_code 23 = .ok (.irem, 1) := by decide +kernel
theorem jd_M_digest_24 : decode prog_10_method_31_code 24 = .ok (.bipush 56, 2) := by decide +kernel
theorem jd_M_digest_26 : decode prog_10_method_31_code 26 = .ok (.if_icmp .eq 11, 3) := by decide +kernel
theorem jd_M_digest_29 : decode prog_10_method_31_code 29 = .ok (.aload_n 0, 1) := by decide +kernel
theorem jd_M_digest_30 : decode prog_10_method_31_code 30 = .ok (.iconst 0, 1) := by decide +kernel
theorem jd_M_digest_31 : decode prog_10_method_31_code 31 = .ok (.invokevirtual 95, 3) := by decide +kernel
theorem jd_M_digest_34 : decode prog_10_method_31_code 34 = .ok (.goto (-17), 3) := by decide +kernel
theorem jd_M_digest_37 : decode prog_10_method_31_code 37 = .ok (.aload_n 0, 1) := by decide +kernel
theorem jd_M_digest_38 : decode prog_10_method_31_code 38 = .ok (.iconst 0, 1) := by decide +kernel
theorem jd_M_digest_39 : decode prog_10_method_31_code 39 = .ok (.invokevirtual 114, 3) := by decide +kernel
theorem jd_M_digest_42 : decode prog_10_method_31_code 42 = .ok (.aload_n 0, 1) := by decide +kernel
theorem jd_M_digest_43 : decode prog_10_method_31_code 43 = .ok (.bipush 8, 2) := by decide +kernel
theorem jd_M_digest_45 : decode prog_10_method_31_code 45 = .ok (.iload_n 2, 1) := by decide +kernel
theorem jd_M_digest_46 : decode prog_10_method_31_code 46 = .ok (.imul, 1) := by decide +kernel
theorem jd_M_digest_47 : decode prog_10_method_31_code 47 = .ok (.invokevirtual 114, 3) := by decide +kernel
theorem jd_M_digest_50 : decode prog_10_method_31_code 50 = .ok (.aload_n 0, 1) := by decide +kernel
theorem jd_M_digest_51 : decode prog_10_method_31_code 51 = .ok (.getfield 48, 3) := by decide +kernel
theorem jd_M_digest_54 : decode prog_10_method_31_code 54 = .ok (.iconst 0, 1) := by decide +kernel
theorem jd_M_digest_55 : decode prog_10_method_31_code 55 = .ok (.ldc 143, 2) := by decide +kernel
theorem jd_M_digest_57 : decode prog_10_method_31_code 57 = .ok (.iastore, 1) := by decide +kernel
theorem jd_M_digest_58 : decode prog_10_method_31_code 58 = .ok (.aload_n 0, 1) := by decide +kernel
theorem jd_M_digest_59 : decode prog_10_method_31_code 59 = .ok (.getfield 48, 3) := by decide +kernel
theorem jd_M_digest_62 : decode prog_10_method_31_code 62 = .ok (.iconst 1, 1) := by decide +kernel
theorem jd_M_digest_63 : decode prog_10_method_31_code 63 = .ok (.ldc 144, 2) := by decide +kernel
theorem jd_M_digest_65 : decode prog_10_method_31_code 65 = .ok (.iastore, 1) := by decide +kernel
theorem jd_M_digest_66 : decode prog_10_method_31_code 66 = .ok (.aload_n 0, 1) := by decide +kernel
theorem jd_M_digest_67 : decode prog_10_method_31_code 67 = .ok (.getfield 48, 3) := by decide +kernel
theorem jd_M_digest_70 : decode prog_10_method_31_code 70 = .ok (.iconst 2, 1) := by decide +kernel
theorem jd_M_digest_71 : decode prog_10_method_31_code 71 = .ok (.ldc 145, 2) := by decide +kernel
theorem jd_M_digest_73 : decode prog_10_method_31_code 73 = .ok (.iastore, 1) := by decide +kernel
theorem jd_M_digest_74 : decode prog_10_method_31_code 74 = .ok (.aload_n 0, 1) := by decide +kernel
theorem jd_M_digest_75 : decode prog_10_method_31_code 75 = .ok (.getfield 48, 3) := by decide +kernel
theorem jd_M_digest_78 : decode prog_10_method_31_code 78 = .ok (.iconst 3, 1) := by decide +kernel
theorem jd_M_digest_79 : decode prog_10_method_31_code 79 = .ok (.ldc 146, 2) := by decide +kernel
theorem jd_M_digest_81 : decode prog_10_method_31_code 81 = .ok (.iastore, 1) := by decide +kernel
theorem jd_M_digest_82 : decode prog_10_method_31_code 82 = .ok (.aload_n 0, 1) := by decide +kernel
theorem jd_M_digest_83 : decode prog_10_method_31_code 83 = .ok (.getfield 48, 3) := by decide +kernel
theorem jd_M_digest_86 : decode prog_10_method_31_code 86 = .ok (.iconst 4, 1) := by decide +kernel
theorem jd_M_digest_87 : decode prog_10_method_31_code 87 = .ok (.ldc 147, 2) := by decide +kernel
theorem jd_M_digest_89 : decode prog_10_method_31_code 89 = .ok (.iastore, 1) := by decide +kernel
theorem jd_M_digest_90 : decode prog_10_method_31_code 90 = .ok (.iconst 0, 1) := by decide +kernel
theorem jd_M_digest_91 : decode prog_10_method_31_code 91 = .ok (.istore_n 3, 1) := by decide +kernel
theorem jd_M_digest_92 : decode prog_10_method_31_code 92 = .ok (.iload_n 3, 1) := by decide +kernel
theorem jd_M_digest_93 : decode prog_10_method_31_code 93 = .ok (.aload_n 0, 1) := by decide +kernel
theorem jd_M_digest_94 : decode prog_10_method_31_code 94 = .ok (.getfield 92, 3) := by decide +kernel
theorem jd_M_digest_97 : decode prog_10_method_31_code 97 = .ok (.if_icmp .ge 14, 3) := by decide +kernel
theorem jd_M_digest_100 : decode prog_10_method_31_code 100 = .ok (.aload_n 0, 1) := by decide +kernel
theorem jd_M_digest_101 : decode prog_10_method_31_code 101 = .ok (.iload_n 3, 1) := by decide +kernel
theorem jd_M_digest_102 : decode prog_10_method_31_code 102 = .ok (.invokevirtual 148, 3) := by decide +kernel
theorem jd_M_digest_105 : decode prog_10_method_31_code 105 = .ok (.iinc 3 64, 3) := by decide +kernel
theorem jd_M_digest_108 : decode prog_10_method_31_code 108 = .ok (.goto (-16), 3) := by decide +kernel
theorem jd_M_digest_111 : decode prog_10_method_31_code 111 = .ok (.aload_n 0, 1) := by decide +kernel
theorem jd_M_digest_112 : decode prog_10_method_31_code 112 = .ok (.iload_n 2, 1) := by decide +kernel
theorem jd_M_digest_113 : decode prog_10_method_31_code 113 = .ok (.putfield 92, 3) := by decide +kernel
theorem jd_M_digest_116 : decode prog_10_method_31_code 116 = .ok (.return_, 1) := by decide +kernel
