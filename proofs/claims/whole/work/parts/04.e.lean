theorem jd_M_build_0 : decode prog_10_method_26_code 0 = .ok (.aload_n 0, 1) := by decide +kernel
theorem jd_M_build_1 : decode prog_10_method_26_code 1 = .ok (.iconst 0, 1) := by decide +kernel
theorem jd_M_build_2 : decode prog_10_method_26_code 2 = .ok (.putfield 92, 3) := by decide +kernel
theorem jd_M_build_5 : decode prog_10_method_26_code 5 = .ok (.aload_n 0, 1) := by decide +kernel
theorem jd_M_build_6 : decode prog_10_method_26_code 6 = .ok (.getfield 45, 3) := by decide +kernel
theorem jd_M_build_9 : decode prog_10_method_26_code 9 = .ok (.iconst 0, 1) := by decide +kernel
theorem jd_M_build_10 : decode prog_10_method_26_code 10 = .ok (.iconst 0, 1) := by decide +kernel
theorem jd_M_build_11 : decode prog_10_method_26_code 11 = .ok (.iastore, 1) := by decide +kernel
theorem jd_M_build_12 : decode prog_10_method_26_code 12 = .ok (.aload_n 0, 1) := by decide +kernel
theorem jd_M_build_13 : decode prog_10_method_26_code 13 = .ok (.iconst 2, 1) := by decide +kernel
theorem jd_M_build_14 : decode prog_10_method_26_code 14 = .ok (.iload_n 1, 1) := by decide +kernel
theorem jd_M_build_15 : decode prog_10_method_26_code 15 = .ok (.iadd, 1) := by decide +kernel
theorem jd_M_build_16 : decode prog_10_method_26_code 16 = .ok (.iconst 0, 1) := by decide +kernel
theorem jd_M_build_17 : decode prog_10_method_26_code 17 = .ok (.invokevirtual 110, 3) := by decide +kernel
theorem jd_M_build_20 : decode prog_10_method_26_code 20 = .ok (.aload_n 0, 1) := by decide +kernel
theorem jd_M_build_21 : decode prog_10_method_26_code 21 = .ok (.getfield 20, 3) := by decide +kernel
theorem jd_M_build_24 : decode prog_10_method_26_code 24 = .ok (.iload_n 1, 1) := by decide +kernel
theorem jd_M_build_25 : decode prog_10_method_26_code 25 = .ok (.iaload, 1) := by decide +kernel
theorem jd_M_build_26 : decode prog_10_method_26_code 26 = .ok (.sipush 1553, 3) := by decide +kernel
theorem jd_M_build_29 : decode prog_10_method_26_code 29 = .ok (.iand, 1) := by decide +kernel
theorem jd_M_build_30 : decode prog_10_method_26_code 30 = .ok (.istore_n 2, 1) := by decide +kernel
theorem jd_M_build_31 : decode prog_10_method_26_code 31 = .ok (.iload_n 2, 1) := by decide +kernel
theorem jd_M_build_32 : decode prog_10_method_26_code 32 = .ok (.sipush 512, 3) := by decide +kernel
theorem jd_M_build_35 : decode prog_10_method_26_code 35 = .ok (.iand, 1) := by decide +kernel
theorem jd_M_build_36 : decode prog_10_method_26_code 36 = .ok (.ifCond .eq 26, 3) := by decide +kernel
theorem jd_M_build_39 : decode prog_10_method_26_code 39 = .ok (.aload_n 0, 1) := by decide +kernel
theorem jd_M_build_40 : decode prog_10_method_26_code 40 = .ok (.iload_n 1, 1) := by decide +kernel
theorem jd_M_build_41 : decode prog_10_method_26_code 41 = .ok (.iconst 2, 1) := by decide +kernel
theorem jd_M_build_42 : decode prog_10_method_26_code 42 = .ok (.invokevirtual 117, 3) := by decide +kernel
theorem jd_M_build_45 : decode prog_10_method_26_code 45 = .ok (.ifCond .le 11, 3) := by decide +kernel
theorem jd_M_build_48 : decode prog_10_method_26_code 48 = .ok (.iload_n 2, 1) := by decide +kernel
theorem jd_M_build_49 : decode prog_10_method_26_code 49 = .ok (.sipush 1024, 3) := by decide +kernel
theorem jd_M_build_52 : decode prog_10_method_26_code 52 = .ok (.ior, 1) := by decide +kernel
theorem jd_M_build_53 : decode prog_10_method_26_code 53 = .ok (.goto 8, 3) := by decide +kernel
theorem jd_M_build_56 : decode prog_10_method_26_code 56 = .ok (.iload_n 2, 1) := by decide +kernel
theorem jd_M_build_57 : decode prog_10_method_26_code 57 = .ok (.sipush (-1025), 3) := by decide +kernel
theorem jd_M_build_60 : decode prog_10_method_26_code 60 = .ok (.iand, 1) := by decide +kernel
theorem jd_M_build_61 : decode prog_10_method_26_code 61 = .ok (.istore_n 2, 1) := by decide +kernel
theorem jd_M_build_62 : decode prog_10_method_26_code 62 = .ok (.aload_n 0, 1) := by decide +kernel
theorem jd_M_build_63 : decode prog_10_method_26_code 63 = .ok (.iload_n 2, 1) := by decide +kernel
theorem jd_M_build_64 : decode prog_10_method_26_code 64 = .ok (.invokevirtual 114, 3) := by decide +kernel
theorem jd_M_build_67 : decode prog_10_method_26_code 67 = .ok (.aload_n 0, 1) := by decide +kernel
theorem jd_M_build_68 : decode prog_10_method_26_code 68 = .ok (.getfield 45, 3) := by decide +kernel
theorem jd_M_build_71 : decode prog_10_method_26_code 71 = .ok (.iconst 1, 1) := by decide +kernel
theorem jd_M_build_72 : decode prog_10_method_26_code 72 = .ok (.aload_n 0, 1) := by decide +kernel
theorem jd_M_build_73 : decode prog_10_method_26_code 73 = .ok (.getfield 92, 3) := by decide +kernel
theorem jd_M_build_76 : decode prog_10_method_26_code 76 = .ok (.iastore, 1) := by decide +kernel
theorem jd_M_build_77 : decode prog_10_method_26_code 77 = .ok (.aload_n 0, 1) := by decide +kernel
theorem jd_M_build_78 : decode prog_10_method_26_code 78 = .ok (.iload_n 1, 1) := by decide +kernel
theorem jd_M_build_79 : decode prog_10_method_26_code 79 = .ok (.iconst (-1), 1) := by decide +kernel
theorem jd_M_build_80 : decode prog_10_method_26_code 80 = .ok (.invokevirtual 120, 3) := by decide +kernel
theorem jd_M_build_83 : decode prog_10_method_26_code 83 = .ok (.istore_n 3, 1) := by decide +kernel
theorem jd_M_build_84 : decode prog_10_method_26_code 84 = .ok (.iconst 0, 1) := by decide +kernel
theorem jd_M_build_85 : decode prog_10_method_26_code 85 = .ok (.istore 4, 2) := by decide +kernel
theorem jd_M_build_87 : decode prog_10_method_26_code 87 = .ok (.iload 4, 2) := by decide +kernel
theorem jd_M_build_89 : decode prog_10_method_26_code 89 = .ok (.iconst 4, 1) := by decide +kernel
theorem jd_M_build_90 : decode prog_10_method_26_code 90 = .ok (.if_icmp .ge 26, 3) := by decide +kernel
theorem jd_M_build_93 : decode prog_10_method_26_code 93 = .ok (.iload_n 3, 1) := by decide +kernel
theorem jd_M_build_94 : decode prog_10_method_26_code 94 = .ok (.ifCond .lt 22, 3) := by decide +kernel
theorem jd_M_build_97 : decode prog_10_method_26_code 97 = .ok (.aload_n 0, 1) := by decide +kernel
theorem jd_M_build_98 : decode prog_10_method_26_code 98 = .ok (.iload_n 3, 1) := by decide +kernel
theorem jd_M_build_99 : decode prog_10_method_26_code 99 = .ok (.iconst 0, 1) := by decide +kernel
theorem jd_M_build_100 : decode prog_10_method_26_code 100 = .ok (.invokevirtual 110, 3) := by decide +kernel
theorem jd_M_build_103 : decode prog_10_method_26_code 103 = .ok (.aload_n 0, 1) := by decide +kernel
theorem jd_M_build_104 : decode prog_10_method_26_code 104 = .ok (.iload_n 1, 1) := by decide +kernel
theorem jd_M_build_105 : decode prog_10_method_26_code 105 = .ok (.iload_n 3, 1) := by decide +kernel
theorem jd_M_build_106 : decode prog_10_method_26_code 106 = .ok (.invokevirtual 120, 3) := by decide +kernel
theorem jd_M_build_109 : decode prog_10_method_26_code 109 = .ok (.istore_n 3, 1) := by decide +kernel
theorem jd_M_build_110 : decode prog_10_method_26_code 110 = .ok (.iinc 4 1, 3) := by decide +kernel
theorem jd_M_build_113 : decode prog_10_method_26_code 113 = .ok (.goto (-26), 3) := by decide +kernel
theorem jd_M_build_116 : decode prog_10_method_26_code 116 = .ok (.aload_n 0, 1) := by decide +kernel
theorem jd_M_build_117 : decode prog_10_method_26_code 117 = .ok (.getfield 45, 3) := by decide +kernel
theorem jd_M_build_120 : decode prog_10_method_26_code 120 = .ok (.iconst 2, 1) := by decide +kernel
theorem jd_M_build_121 : decode prog_10_method_26_code 121 = .ok (.aload_n 0, 1) := by decide +kernel
theorem jd_M_build_122 : decode prog_10_method_26_code 122 = .ok (.getfield 92, 3) := by decide +kernel
theorem jd_M_build_125 : decode prog_10_method_26_code 125 = .ok (.iastore, 1) := by decide +kernel
theorem jd_M_build_126 : decode prog_10_method_26_code 126 = .ok (.aload_n 0, 1) := by decide +kernel
theorem jd_M_build_127 : decode prog_10_method_26_code 127 = .ok (.iload_n 1, 1) := by decide +kernel
theorem jd_M_build_128 : decode prog_10_method_26_code 128 = .ok (.iconst 0, 1) := by decide +kernel
theorem jd_M_build_129 : decode prog_10_method_26_code 129 = .ok (.invokevirtual 123, 3) := by decide +kernel
theorem jd_M_build_132 : decode prog_10_method_26_code 132 = .ok (.aload_n 0, 1) := by decide +kernel
theorem jd_M_build_133 : decode prog_10_method_26_code 133 = .ok (.getfield 45, 3) := by decide +kernel
theorem jd_M_build_136 : decode prog_10_method_26_code 136 = .ok (.iconst 3, 1) := by decide +kernel
theorem jd_M_build_137 : decode prog_10_method_26_code 137 = .ok (.aload_n 0, 1) := by decide +kernel
theorem jd_M_build_138 : decode prog_10_method_26_code 138 = .ok (.getfield 92, 3) := by decide +kernel
theorem jd_M_build_141 : decode prog_10_method_26_code 141 = .ok (.iastore, 1) := by decide +kernel
theorem jd_M_build_142 : decode prog_10_method_26_code 142 = .ok (.aload_n 0, 1) := by decide +kernel
theorem jd_M_build_143 : decode prog_10_method_26_code 143 = .ok (.iload_n 1, 1) := by decide +kernel
theorem jd_M_build_144 : decode prog_10_method_26_code 144 = .ok (.iconst 3, 1) := by decide +kernel
theorem jd_M_build_145 : decode prog_10_method_26_code 145 = .ok (.invokevirtual 117, 3) := by decide +kernel
theorem jd_M_build_148 : decode prog_10_method_26_code 148 = .ok (.ifCond .le 42, 3) := by decide +kernel
theorem jd_M_build_151 : decode prog_10_method_26_code 151 = .ok (.aload_n 0, 1) := by decide +kernel
theorem jd_M_build_152 : decode prog_10_method_26_code 152 = .ok (.iconst 1, 1) := by decide +kernel
theorem jd_M_build_153 : decode prog_10_method_26_code 153 = .ok (.invokevirtual 106, 3) := by decide +kernel
theorem jd_M_build_156 : decode prog_10_method_26_code 156 = .ok (.aload_n 0, 1) := by decide +kernel
theorem jd_M_build_157 : decode prog_10_method_26_code 157 = .ok (.bipush 8, 2) := by decide +kernel
theorem jd_M_build_159 : decode prog_10_method_26_code 159 = .ok (.invokevirtual 114, 3) := by decide +kernel
theorem jd_M_build_162 : decode prog_10_method_26_code 162 = .ok (.aload_n 0, 1) := by decide +kernel
theorem jd_M_build_163 : decode prog_10_method_26_code 163 = .ok (.iconst 0, 1) := by decide +kernel
theorem jd_M_build_164 : decode prog_10_method_26_code 164 = .ok (.invokevirtual 95, 3) := by decide +kernel
theorem jd_M_build_167 : decode prog_10_method_26_code 167 = .ok (.aload_n 0, 1) := by decide +kernel
theorem jd_M_build_168 : decode prog_10_method_26_code 168 = .ok (.iconst 3, 1) := by decide +kernel
theorem jd_M_build_169 : decode prog_10_method_26_code 169 = .ok (.invokevirtual 95, 3) := by decide +kernel
theorem jd_M_build_172 : decode prog_10_method_26_code 172 = .ok (.aload_n 0, 1) := by decide +kernel
theorem jd_M_build_173 : decode prog_10_method_26_code 173 = .ok (.bipush 40, 2) := by decide +kernel
theorem jd_M_build_175 : decode prog_10_method_26_code 175 = .ok (.invokevirtual 95, 3) := by decide +kernel
theorem jd_M_build_178 : decode prog_10_method_26_code 178 = .ok (.aload_n 0, 1) := by decide +kernel
theorem jd_M_build_179 : decode prog_10_method_26_code 179 = .ok (.bipush 41, 2) := by decide +kernel
theorem jd_M_build_181 : decode prog_10_method_26_code 181 = .ok (.invokevirtual 95, 3) := by decide +kernel
theorem jd_M_build_184 : decode prog_10_method_26_code 184 = .ok (.aload_n 0, 1) := by decide +kernel
theorem jd_M_build_185 : decode prog_10_method_26_code 185 = .ok (.bipush 86, 2) := by decide +kernel
theorem jd_M_build_187 : decode prog_10_method_26_code 187 = .ok (.invokevirtual 95, 3) := by decide +kernel
theorem jd_M_build_190 : decode prog_10_method_26_code 190 = .ok (.aload_n 0, 1) := by decide +kernel
theorem jd_M_build_191 : decode prog_10_method_26_code 191 = .ok (.getfield 45, 3) := by decide +kernel
theorem jd_M_build_194 : decode prog_10_method_26_code 194 = .ok (.iconst 4, 1) := by decide +kernel
theorem jd_M_build_195 : decode prog_10_method_26_code 195 = .ok (.aload_n 0, 1) := by decide +kernel
theorem jd_M_build_196 : decode prog_10_method_26_code 196 = .ok (.getfield 92, 3) := by decide +kernel
theorem jd_M_build_199 : decode prog_10_method_26_code 199 = .ok (.iastore, 1) := by decide +kernel
theorem jd_M_build_200 : decode prog_10_method_26_code 200 = .ok (.aload_n 0, 1) := by decide +kernel
theorem jd_M_build_201 : decode prog_10_method_26_code 201 = .ok (.iload_n 1, 1) := by decide +kernel
theorem jd_M_build_202 : decode prog_10_method_26_code 202 = .ok (.iconst 1, 1) := by decide +kernel
theorem jd_M_build_203 : decode prog_10_method_26_code 203 = .ok (.invokevirtual 123, 3) := by decide +kernel
theorem jd_M_build_206 : decode prog_10_method_26_code 206 = .ok (.aload_n 0, 1) := by decide +kernel
theorem jd_M_build_207 : decode prog_10_method_26_code 207 = .ok (.getfield 45, 3) := by decide +kernel
theorem jd_M_build_210 : decode prog_10_method_26_code 210 = .ok (.iconst 5, 1) := by decide +kernel
theorem jd_M_build_211 : decode prog_10_method_26_code 211 = .ok (.aload_n 0, 1) := by decide +kernel
theorem jd_M_build_212 : decode prog_10_method_26_code 212 = .ok (.getfield 92, 3) := by decide +kernel
theorem jd_M_build_215 : decode prog_10_method_26_code 215 = .ok (.iastore, 1) := by decide +kernel
theorem jd_M_build_216 : decode prog_10_method_26_code 216 = .ok (.aload_n 0, 1) := by decide +kernel
theorem jd_M_build_217 : decode prog_10_method_26_code 217 = .ok (.iload_n 1, 1) := by decide +kernel
theorem jd_M_build_218 : decode prog_10_method_26_code 218 = .ok (.iconst 2, 1) := by decide +kernel
theorem jd_M_build_219 : decode prog_10_method_26_code 219 = .ok (.invokevirtual 123, 3) := by decide +kernel
theorem jd_M_build_222 : decode prog_10_method_26_code 222 = .ok (.return_, 1) := by decide +kernel
theorem jd_M_utf_0 : decode prog_10_method_19_code 0 = .ok (.aload_n 0, 1) := by decide +kernel
theorem jd_M_utf_1 : decode prog_10_method_19_code 1 = .ok (.iconst 0, 1) := by decide +kernel
theorem jd_M_utf_2 : decode prog_10_method_19_code 2 = .ok (.invokevirtual 95, 3) := by decide +kernel
theorem jd_M_utf_5 : decode prog_10_method_19_code 5 = .ok (.aload_n 0, 1) := by decide +kernel
theorem jd_M_utf_6 : decode prog_10_method_19_code 6 = .ok (.aload_n 0, 1) := by decide +kernel
theorem jd_M_utf_7 : decode prog_10_method_19_code 7 = .ok (.getfield 13, 3) := by decide +kernel
theorem jd_M_utf_10 : decode prog_10_method_19_code 10 = .ok (.iload_n 1, 1) := by decide +kernel
theorem jd_M_utf_11 : decode prog_10_method_19_code 11 = .ok (.iaload, 1) := by decide +kernel
theorem jd_M_utf_12 : decode prog_10_method_19_code 12 = .ok (.invokevirtual 95, 3) := by decide +kernel
theorem jd_M_utf_15 : decode prog_10_method_19_code 15 = .ok (.iconst 0, 1) := by decide +kernel
theorem jd_M_utf_16 : decode prog_10_method_19_code 16 = .ok (.istore_n 3, 1) := by decide +kernel
theorem jd_M_utf_17 : decode prog_10_method_19_code 17 = .ok (.iload_n 3, 1) := by decide +kernel
theorem jd_M_utf_18 : decode prog_10_method_19_code 18 = .ok (.aload_n 0, 1) := by decide +kernel
theorem jd_M_utf_19 : decode prog_10_method_19_code 19 = .ok (.getfield 13, 3) := by decide +kernel
theorem jd_M_utf_22 : decode prog_10_method_19_code 22 = .ok (.iload_n 1, 1) := by decide +kernel
theorem jd_M_utf_23 : decode prog_10_method_19_code 23 = .ok (.iaload, 1) := by decide +kernel
theorem jd_M_utf_24 : decode prog_10_method_19_code 24 = .ok (.if_icmp .ge 44, 3) := by decide +kernel
theorem jd_M_utf_27 : decode prog_10_method_19_code 27 = .ok (.aload_n 0, 1) := by decide +kernel
theorem jd_M_utf_28 : decode prog_10_method_19_code 28 = .ok (.getfield 7, 3) := by decide +kernel
theorem jd_M_utf_31 : decode prog_10_method_19_code 31 = .ok (.bipush 24, 2) := by decide +kernel
theorem jd_M_utf_33 : decode prog_10_method_19_code 33 = .ok (.iload_n 1, 1) := by decide +kernel
theorem jd_M_utf_34 : decode prog_10_method_19_code 34 = .ok (.imul, 1) := by decide +kernel
theorem jd_M_utf_35 : decode prog_10_method_19_code 35 = .ok (.iload_n 3, 1) := by decide +kernel
theorem jd_M_utf_36 : decode prog_10_method_19_code 36 = .ok (.iadd, 1) := by decide +kernel
theorem jd_M_utf_37 : decode prog_10_method_19_code 37 = .ok (.iaload, 1) := by decide +kernel
theorem jd_M_utf_38 : decode prog_10_method_19_code 38 = .ok (.istore 4, 2) := by decide +kernel
theorem jd_M_utf_40 : decode prog_10_method_19_code 40 = .ok (.aload_n 0, 1) := by decide +kernel
theorem jd_M_utf_41 : decode prog_10_method_19_code 41 = .ok (.iload_n 2, 1) := by decide +kernel
theorem jd_M_utf_42 : decode prog_10_method_19_code 42 = .ok (.ifCond .eq 15, 3) := by decide +kernel
theorem jd_M_utf_45 : decode prog_10_method_19_code 45 = .ok (.iload 4, 2) := by decide +kernel
theorem jd_M_utf_47 : decode prog_10_method_19_code 47 = .ok (.bipush 47, 2) := by decide +kernel
theorem jd_M_utf_49 : decode prog_10_method_19_code 49 = .ok (.if_icmp .ne 8, 3) := by decide +kernel
theorem jd_M_utf_52 : decode prog_10_method_19_code 52 = .ok (.bipush 46, 2) := by decide +kernel
theorem jd_M_utf_54 : decode prog_10_method_19_code 54 = .ok (.goto 5, 3) := by decide +kernel
theorem jd_M_utf_57 : decode prog_10_method_19_code 57 = .ok (.iload 4, 2) := by decide +kernel
theorem jd_M_utf_59 : decode prog_10_method_19_code 59 = .ok (.invokevirtual 95, 3) := by decide +kernel
theorem jd_M_utf_62 : decode prog_10_method_19_code 62 = .ok (.iinc 3 1, 3) := by decide +kernel
theorem jd_M_utf_65 : decode prog_10_method_19_code 65 = .ok (.goto (-48), 3) := by decide +kernel
theorem jd_M_utf_68 : decode prog_10_method_19_code 68 = .ok (.return_, 1) := by decide +kernel
theorem jd_M_put_0 : decode prog_10_method_17_code 0 = .ok (.aload_n 0, 1) := by decide +kernel
theorem jd_M_put_1 : decode prog_10_method_17_code 1 = .ok (.getfield 42, 3) := by decide +kernel
theorem jd_M_put_4 : decode prog_10_method_17_code 4 = .ok (.aload_n 0, 1) := by decide +kernel
theorem jd_M_put_5 : decode prog_10_method_17_code 5 = .ok (.getfield 92, 3) := by decide +kernel
theorem jd_M_put_8 : decode prog_10_method_17_code 8 = .ok (.iload_n 1, 1) := by decide +kernel
theorem jd_M_put_9 : decode prog_10_method_17_code 9 = .ok (.sipush 255, 3) := by decide +kernel
theorem jd_M_put_12 : decode prog_10_method_17_code 12 = .ok (.iand, 1) := by decide +kernel
theorem jd_M_put_13 : decode prog_10_method_17_code 13 = .ok (.iastore, 1) := by decide +kernel
theorem jd_M_put_14 : decode prog_10_method_17_code 14 = .ok (.aload_n 0, 1) := by decide +kernel
theorem jd_M_put_15 : decode prog_10_method_17_code 15 = .ok (.dup, 1) := by decide +kernel
theorem jd_M_put_16 : decode prog_10_method_17_code 16 = .ok (.getfield 92, 3) := by decide +kernel
theorem jd_M_put_19 : decode prog_10_method_17_code 19 = .ok (.iconst 1, 1) := by decide +kernel
theorem jd_M_put_20 : decode prog_10_method_17_code 20 = .ok (.iadd, 1) := by decide +kernel
theorem jd_M_put_21 : decode prog_10_method_17_code 21 = .ok (.putfield 92, 3) := by decide +kernel
theorem jd_M_put_24 : decode prog_10_method_17_code 24 = .ok (.return_, 1) := by decide +kernel
theorem jd_M_counted_0 : decode prog_10_method_24_code 0 = .ok (.iconst 0, 1) := by decide +kernel
theorem jd_M_counted_1 : decode prog_10_method_24_code 1 = .ok (.istore_n 3, 1) := by decide +kernel
theorem jd_M_counted_2 : decode prog_10_method_24_code 2 = .ok (.bipush 10, 2) := by decide +kernel
theorem jd_M_counted_4 : decode prog_10_method_24_code 4 = .ok (.iload_n 1, 1) := by decide +kernel
theorem jd_M_counted_5 : decode prog_10_method_24_code 5 = .ok (.imul, 1) := by decide +kernel
theorem jd_M_counted_6 : decode prog_10_method_24_code 6 = .ok (.istore 4, 2) := by decide +kernel
theorem jd_M_counted_8 : decode prog_10_method_24_code 8 = .ok (.iload 4, 2) := by decide +kernel
theorem jd_M_counted_10 : decode prog_10_method_24_code 10 = .ok (.bipush 10, 2) := by decide +kernel
theorem jd_M_counted_12 : decode prog_10_method_24_code 12 = .ok (.iload_n 1, 1) := by decide +kernel
theorem jd_M_counted_13 : decode prog_10_method_24_code 13 = .ok (.imul, 1) := by decide +kernel
theorem jd_M_counted_14 : decode prog_10_method_24_code 14 = .ok (.aload_n 0, 1) := by decide +kernel
theorem jd_M_counted_15 : decode prog_10_method_24_code 15 = .ok (.getfield 26, 3) := by decide +kernel
theorem jd_M_counted_18 : decode prog_10_method_24_code 18 = .ok (.iload_n 1, 1) := by decide +kernel
theorem jd_M_counted_19 : decode prog_10_method_24_code 19 = .ok (.iaload, 1) := by decide +kernel
theorem jd_M_counted_20 : decode prog_10_method_24_code 20 = .ok (.iadd, 1) := by decide +kernel
theorem jd_M_counted_21 : decode prog_10_method_24_code 21 = .ok (.if_icmp .ge 28, 3) := by decide +kernel
theorem jd_M_counted_24 : decode prog_10_method_24_code 24 = .ok (.iload_n 3, 1) := by decide +kernel
theorem jd_M_counted_25 : decode prog_10_method_24_code 25 = .ok (.aload_n 0, 1) := by decide +kernel
theorem jd_M_counted_26 : decode prog_10_method_24_code 26 = .ok (.getfield 36, 3) := by decide +kernel
theorem jd_M_counted_29 : decode prog_10_method_24_code 29 = .ok (.iload 4, 2) := by decide +kernel
theorem jd_M_counted_31 : decode prog_10_method_24_code 31 = .ok (.iaload, 1) := by decide +kernel
theorem jd_M_counted_32 : decode prog_10_method_24_code 32 = .ok (.iload_n 2, 1) := by decide +kernel
theorem jd_M_counted_33 : decode prog_10_method_24_code 33 = .ok (.if_icmp .ne 7, 3) := by decide +kernel
theorem jd_M_counted_36 : decode prog_10_method_24_code 36 = .ok (.iconst 1, 1) := by decide +kernel
theorem jd_M_counted_37 : decode prog_10_method_24_code 37 = .ok (.goto 4, 3) := by decide +kernel
theorem jd_M_counted_40 : decode prog_10_method_24_code 40 = .ok (.iconst 0, 1) := by decide +kernel
theorem jd_M_counted_41 : decode prog_10_method_24_code 41 = .ok (.iadd, 1) := by decide +kernel
theorem jd_M_counted_42 : decode prog_10_method_24_code 42 = .ok (.istore_n 3, 1) := by decide +kernel
theorem jd_M_counted_43 : decode prog_10_method_24_code 43 = .ok (.iinc 4 1, 3) := by decide +kernel
theorem jd_M_counted_46 : decode prog_10_method_24_code 46 = .ok (.goto (-38), 3) := by decide +kernel
theorem jd_M_counted_49 : decode prog_10_method_24_code 49 = .ok (.iload_n 3, 1) := by decide +kernel
theorem jd_M_counted_50 : decode prog_10_method_24_code 50 = .ok (.ireturn, 1) := by decide +kernel
theorem jd_M_number_0 : decode prog_10_method_18_code 0 = .ok (.bipush 24, 2) := by decide +kernel
theorem jd_M_number_2 : decode prog_10_method_18_code 2 = .ok (.istore_n 2, 1) := by decide +kernel
theorem jd_M_number_3 : decode prog_10_method_18_code 3 = .ok (.iload_n 2, 1) := by decide +kernel
theorem jd_M_number_4 : decode prog_10_method_18_code 4 = .ok (.ifCond .lt 16, 3) := by decide +kernel
theorem jd_M_number_7 : decode prog_10_method_18_code 7 = .ok (.aload_n 0, 1) := by decide +kernel
theorem jd_M_number_8 : decode prog_10_method_18_code 8 = .ok (.iload_n 1, 1) := by decide +kernel
theorem jd_M_number_9 : decode prog_10_method_18_code 9 = .ok (.iload_n 2, 1) := by decide +kernel
theorem jd_M_number_10 : decode prog_10_method_18_code 10 = .ok (.ishr, 1) := by decide +kernel
theorem jd_M_number_11 : decode prog_10_method_18_code 11 = .ok (.invokevirtual 95, 3) := by decide +kernel
theorem jd_M_number_14 : decode prog_10_method_18_code 14 = .ok (.iinc 2 (-8), 3) := by decide +kernel
theorem jd_M_number_17 : decode prog_10_method_18_code 17 = .ok (.goto (-14), 3) := by decide +kernel
theorem jd_M_number_20 : decode prog_10_method_18_code 20 = .ok (.return_, 1) := by decide +kernel
theorem jd_M_nextFace_0 : decode prog_10_method_23_code 0 = .ok (.iconst (-1), 1) := by decide +kernel
theorem jd_M_nextFace_1 : decode prog_10_method_23_code 1 = .ok (.istore_n 3, 1) := by decide +kernel
theorem jd_M_nextFace_2 : decode prog_10_method_23_code 2 = .ok (.bipush 6, 2) := by decide +kernel
theorem jd_M_nextFace_4 : decode prog_10_method_23_code 4 = .ok (.iconst 4, 1) := by decide +kernel
theorem jd_M_nextFace_5 : decode prog_10_method_23_code 5 = .ok (.iload_n 1, 1) := by decide +kernel
theorem jd_M_nextFace_6 : decode prog_10_method_23_code 6 = .ok (.imul, 1) := by decide +kernel
theorem jd_M_nextFace_7 : decode prog_10_method_23_code 7 = .ok (.iadd, 1) := by decide +kernel
theorem jd_M_nextFace_8 : decode prog_10_method_23_code 8 = .ok (.istore 4, 2) := by decide +kernel
theorem jd_M_nextFace_10 : decode prog_10_method_23_code 10 = .ok (.iload 4, 2) := by decide +kernel
theorem jd_M_nextFace_12 : decode prog_10_method_23_code 12 = .ok (.bipush 6, 2) := by decide +kernel
theorem jd_M_nextFace_14 : decode prog_10_method_23_code 14 = .ok (.iconst 4, 1) := by decide +kernel
theorem jd_M_nextFace_15 : decode prog_10_method_23_code 15 = .ok (.iload_n 1, 1) := by decide +kernel
theorem jd_M_nextFace_16 : decode prog_10_method_23_code 16 = .ok (.imul, 1) := by decide +kernel
theorem jd_M_nextFace_17 : decode prog_10_method_23_code 17 = .ok (.iadd, 1) := by decide +kernel
theorem jd_M_nextFace_18 : decode prog_10_method_23_code 18 = .ok (.aload_n 0, 1) := by decide +kernel
theorem jd_M_nextFace_19 : decode prog_10_method_23_code 19 = .ok (.getfield 23, 3) := by decide +kernel
theorem jd_M_nextFace_22 : decode prog_10_method_23_code 22 = .ok (.iload_n 1, 1) := by decide +kernel
theorem jd_M_nextFace_23 : decode prog_10_method_23_code 23 = .ok (.iaload, 1) := by decide +kernel
theorem jd_M_nextFace_24 : decode prog_10_method_23_code 24 = .ok (.iadd, 1) := by decide +kernel
theorem jd_M_nextFace_25 : decode prog_10_method_23_code 25 = .ok (.if_icmp .ge 43, 3) := by decide +kernel
theorem jd_M_nextFace_28 : decode prog_10_method_23_code 28 = .ok (.iload_n 2, 1) := by decide +kernel
theorem jd_M_nextFace_29 : decode prog_10_method_23_code 29 = .ok (.ifCond .lt 16, 3) := by decide +kernel
theorem jd_M_nextFace_32 : decode prog_10_method_23_code 32 = .ok (.aload_n 0, 1) := by decide +kernel
theorem jd_M_nextFace_33 : decode prog_10_method_23_code 33 = .ok (.iload 4, 2) := by decide +kernel
theorem jd_M_nextFace_35 : decode prog_10_method_23_code 35 = .ok (.iload_n 2, 1) := by decide +kernel
theorem jd_M_nextFace_36 : decode prog_10_method_23_code 36 = .ok (.invokevirtual 82, 3) := by decide +kernel
theorem jd_M_nextFace_39 : decode prog_10_method_23_code 39 = .ok (.ifCond .gt 6, 3) := by decide +kernel
theorem jd_M_nextFace_42 : decode prog_10_method_23_code 42 = .ok (.goto 20, 3) := by decide +kernel
theorem jd_M_nextFace_45 : decode prog_10_method_23_code 45 = .ok (.iload_n 3, 1) := by decide +kernel
theorem jd_M_nextFace_46 : decode prog_10_method_23_code 46 = .ok (.ifCond .lt 13, 3) := by decide +kernel
theorem jd_M_nextFace_49 : decode prog_10_method_23_code 49 = .ok (.aload_n 0, 1) := by decide +kernel
theorem jd_M_nextFace_50 : decode prog_10_method_23_code 50 = .ok (.iload 4, 2) := by decide +kernel
theorem jd_M_nextFace_52 : decode prog_10_method_23_code 52 = .ok (.iload_n 3, 1) := by decide +kernel
theorem jd_M_nextFace_53 : decode prog_10_method_23_code 53 = .ok (.invokevirtual 82, 3) := by decide +kernel
theorem jd_M_nextFace_56 : decode prog_10_method_23_code 56 = .ok (.ifCond .ge 6, 3) := by decide +kernel
theorem jd_M_nextFace_59 : decode prog_10_method_23_code 59 = .ok (.iload 4, 2) := by decide +kernel
theorem jd_M_nextFace_61 : decode prog_10_method_23_code 61 = .ok (.istore_n 3, 1) := by decide +kernel
theorem jd_M_nextFace_62 : decode prog_10_method_23_code 62 = .ok (.iinc 4 1, 3) := by decide +kernel
theorem jd_M_nextFace_65 : decode prog_10_method_23_code 65 = .ok (.goto (-55), 3) := by decide +kernel
theorem jd_M_nextFace_68 : decode prog_10_method_23_code 68 = .ok (.iload_n 3, 1) := by decide +kernel
theorem jd_M_nextFace_69 : decode prog_10_method_23_code 69 = .ok (.ireturn, 1) := by decide +kernel
theorem jd_M_writeMembers_0 : decode prog_10_method_25_code 0 = .ok (.aload_n 0, 1) := by decide +kernel
theorem jd_M_writeMembers_1 : decode prog_10_method_25_code 1 = .ok (.iload_n 1, 1) := by decide +kernel
theorem jd_M_writeMembers_2 : decode prog_10_method_25_code 2 = .ok (.iload_n 2, 1) := by decide +kernel
theorem jd_M_writeMembers_3 : decode prog_10_method_25_code 3 = .ok (.iconst (-1), 1) := by decide +kernel
theorem jd_M_writeMembers_4 : decode prog_10_method_25_code 4 = .ok (.invokevirtual 103, 3) := by decide +kernel
theorem jd_M_writeMembers_7 : decode prog_10_method_25_code 7 = .ok (.istore_n 3, 1) := by decide +kernel
theorem jd_M_writeMembers_8 : decode prog_10_method_25_code 8 = .ok (.iconst 0, 1) := by decide +kernel
theorem jd_M_writeMembers_9 : decode prog_10_method_25_code 9 = .ok (.istore 4, 2) := by decide +kernel
theorem jd_M_writeMembers_11 : decode prog_10_method_25_code 11 = .ok (.iload 4, 2) := by decide +kernel
theorem jd_M_writeMembers_13 : decode prog_10_method_25_code 13 = .ok (.bipush 10, 2) := by decide +kernel
theorem jd_M_writeMembers_15 : decode prog_10_method_25_code 15 = .ok (.if_icmp .ge 124, 3) := by decide +kernel
theorem jd_M_writeMembers_18 : decode prog_10_method_25_code 18 = .ok (.iload_n 3, 1) := by decide +kernel
theorem jd_M_writeMembers_19 : decode prog_10_method_25_code 19 = .ok (.ifCond .lt 120, 3) := by decide +kernel
theorem jd_M_writeMembers_22 : decode prog_10_method_25_code 22 = .ok (.aload_n 0, 1) := by decide +kernel
theorem jd_M_writeMembers_23 : decode prog_10_method_25_code 23 = .ok (.getfield 39, 3) := by decide +kernel
theorem jd_M_writeMembers_26 : decode prog_10_method_25_code 26 = .ok (.iload_n 3, 1) := by decide +kernel
theorem jd_M_writeMembers_27 : decode prog_10_method_25_code 27 = .ok (.iaload, 1) := by decide +kernel
theorem jd_M_writeMembers_28 : decode prog_10_method_25_code 28 = .ok (.iconst 2, 1) := by decide +kernel
theorem jd_M_writeMembers_29 : decode prog_10_method_25_code 29 = .ok (.iand, 1) := by decide +kernel
theorem jd_M_writeMembers_30 : decode prog_10_method_25_code 30 = .ok (.ifCond .eq 24, 3) := by decide +kernel
theorem jd_M_writeMembers_33 : decode prog_10_method_25_code 33 = .ok (.iload_n 2, 1) := by decide +kernel
theorem jd_M_writeMembers_34 : decode prog_10_method_25_code 34 = .ok (.ifCond .gt 16, 3) := by decide +kernel
theorem jd_M_writeMembers_37 : decode prog_10_method_25_code 37 = .ok (.aload_n 0, 1) := by decide +kernel
theorem jd_M_writeMembers_38 : decode prog_10_method_25_code 38 = .ok (.getfield 39, 3) := by decide +kernel
theorem jd_M_writeMembers_41 : decode prog_10_method_25_code 41 = .ok (.iload_n 3, 1) := by decide +kernel
theorem jd_M_writeMembers_42 : decode prog_10_method_25_code 42 = .ok (.iaload, 1) := by decide +kernel
theorem jd_M_writeMembers_43 : decode prog_10_method_25_code 43 = .ok (.sipush 136, 3) := by decide +kernel
theorem jd_M_writeMembers_46 : decode prog_10_method_25_code 46 = .ok (.iand, 1) := by decide +kernel
theorem jd_M_writeMembers_47 : decode prog_10_method_25_code 47 = .ok (.ifCond .eq 7, 3) := by decide +kernel
theorem jd_M_writeMembers_50 : decode prog_10_method_25_code 50 = .ok (.iconst 1, 1) := by decide +kernel
theorem jd_M_writeMembers_51 : decode prog_10_method_25_code 51 = .ok (.goto 4, 3) := by decide +kernel
theorem jd_M_writeMembers_54 : decode prog_10_method_25_code 54 = .ok (.iconst 0, 1) := by decide +kernel
theorem jd_M_writeMembers_55 : decode prog_10_method_25_code 55 = .ok (.istore 5, 2) := by decide +kernel
theorem jd_M_writeMembers_57 : decode prog_10_method_25_code 57 = .ok (.iload 5, 2) := by decide +kernel
theorem jd_M_writeMembers_59 : decode prog_10_method_25_code 59 = .ok (.ifCond .ne 66, 3) := by decide +kernel
theorem jd_M_writeMembers_62 : decode prog_10_method_25_code 62 = .ok (.iload_n 2, 1) := by decide +kernel
theorem jd_M_writeMembers_63 : decode prog_10_method_25_code 63 = .ok (.iconst 1, 1) := by decide +kernel
theorem jd_M_writeMembers_64 : decode prog_10_method_25_code 64 = .ok (.if_icmp .ne 11, 3) := by decide +kernel
theorem jd_M_writeMembers_67 : decode prog_10_method_25_code 67 = .ok (.aload_n 0, 1) := by decide +kernel
theorem jd_M_writeMembers_68 : decode prog_10_method_25_code 68 = .ok (.iconst 0, 1) := by decide +kernel
theorem jd_M_writeMembers_69 : decode prog_10_method_25_code 69 = .ok (.invokevirtual 106, 3) := by decide +kernel
theorem jd_M_writeMembers_72 : decode prog_10_method_25_code 72 = .ok (.goto 12, 3) := by decide +kernel
theorem jd_M_writeMembers_75 : decode prog_10_method_25_code 75 = .ok (.aload_n 0, 1) := by decide +kernel
theorem jd_M_writeMembers_76 : decode prog_10_method_25_code 76 = .ok (.bipush 22, 2) := by decide +kernel
theorem jd_M_writeMembers_78 : decode prog_10_method_25_code 78 = .ok (.iload_n 3, 1) := by decide +kernel
theorem jd_M_writeMembers_79 : decode prog_10_method_25_code 79 = .ok (.iadd, 1) := by decide +kernel
theorem jd_M_writeMembers_80 : decode prog_10_method_25_code 80 = .ok (.iconst 0, 1) := by decide +kernel
theorem jd_M_writeMembers_81 : decode prog_10_method_25_code 81 = .ok (.invokevirtual 110, 3) := by decide +kernel
theorem jd_M_writeMembers_84 : decode prog_10_method_25_code 84 = .ok (.aload_n 0, 1) := by decide +kernel
theorem jd_M_writeMembers_85 : decode prog_10_method_25_code 85 = .ok (.aload_n 0, 1) := by decide +kernel
theorem jd_M_writeMembers_86 : decode prog_10_method_25_code 86 = .ok (.getfield 39, 3) := by decide +kernel
theorem jd_M_writeMembers_89 : decode prog_10_method_25_code 89 = .ok (.iload_n 3, 1) := by decide +kernel
theorem jd_M_writeMembers_90 : decode prog_10_method_25_code 90 = .ok (.iaload, 1) := by decide +kernel
theorem jd_M_writeMembers_91 : decode prog_10_method_25_code 91 = .ok (.iload_n 2, 1) := by decide +kernel
theorem jd_M_writeMembers_92 : decode prog_10_method_25_code 92 = .ok (.ifCond .ne 9, 3) := by decide +kernel
theorem jd_M_writeMembers_95 : decode prog_10_method_25_code 95 = .ok (.sipush 223, 3) := by decide +kernel
theorem jd_M_writeMembers_98 : decode prog_10_method_25_code 98 = .ok (.goto 6, 3) := by decide +kernel
theorem jd_M_writeMembers_101 : decode prog_10_method_25_code 101 = .ok (.sipush 3391, 3) := by decide +kernel
theorem jd_M_writeMembers_104 : decode prog_10_method_25_code 104 = .ok (.iand, 1) := by decide +kernel
theorem jd_M_writeMembers_105 : decode prog_10_method_25_code 105 = .ok (.invokevirtual 114, 3) := by decide +kernel
theorem jd_M_writeMembers_108 : decode prog_10_method_25_code 108 = .ok (.aload_n 0, 1) := by decide +kernel
theorem jd_M_writeMembers_109 : decode prog_10_method_25_code 109 = .ok (.bipush 62, 2) := by decide +kernel
theorem jd_M_writeMembers_111 : decode prog_10_method_25_code 111 = .ok (.iload_n 3, 1) := by decide +kernel
theorem jd_M_writeMembers_112 : decode prog_10_method_25_code 112 = .ok (.iadd, 1) := by decide +kernel
theorem jd_M_writeMembers_113 : decode prog_10_method_25_code 113 = .ok (.iload_n 2, 1) := by decide +kernel
theorem jd_M_writeMembers_114 : decode prog_10_method_25_code 114 = .ok (.ifCond .le 7, 3) := by decide +kernel
theorem jd_M_writeMembers_117 : decode prog_10_method_25_code 117 = .ok (.iconst 1, 1) := by decide +kernel
theorem jd_M_writeMembers_118 : decode prog_10_method_25_code 118 = .ok (.goto 4, 3) := by decide +kernel
theorem jd_M_writeMembers_121 : decode prog_10_method_25_code 121 = .ok (.iconst 0, 1) := by decide +kernel
theorem jd_M_writeMembers_122 : decode prog_10_method_25_code 122 = .ok (.invokevirtual 110, 3) := by decide +kernel
theorem jd_M_writeMembers_125 : decode prog_10_method_25_code 125 = .ok (.aload_n 0, 1) := by decide +kernel
theorem jd_M_writeMembers_126 : decode prog_10_method_25_code 126 = .ok (.iload_n 1, 1) := by decide +kernel
theorem jd_M_writeMembers_127 : decode prog_10_method_25_code 127 = .ok (.iload_n 2, 1) := by decide +kernel
theorem jd_M_writeMembers_128 : decode prog_10_method_25_code 128 = .ok (.iload_n 3, 1) := by decide +kernel
theorem jd_M_writeMembers_129 : decode prog_10_method_25_code 129 = .ok (.invokevirtual 103, 3) := by decide +kernel
theorem jd_M_writeMembers_132 : decode prog_10_method_25_code 132 = .ok (.istore_n 3, 1) := by decide +kernel
theorem jd_M_writeMembers_133 : decode prog_10_method_25_code 133 = .ok (.iinc 4 1, 3) := by decide +kernel
theorem jd_M_writeMembers_136 : decode prog_10_method_25_code 136 = .ok (.goto (-125), 3) := by decide +kernel
theorem jd_M_writeMembers_139 : decode prog_10_method_25_code 139 = .ok (.return_, 1) := by decide +kernel
theorem jd_M_following_0 : decode prog_10_method_22_code 0 = .ok (.iconst (-1), 1) := by decide +kernel
theorem jd_M_following_1 : decode prog_10_method_22_code 1 = .ok (.istore 4, 2) := by decide +kernel
theorem jd_M_following_3 : decode prog_10_method_22_code 3 = .ok (.bipush 10, 2) := by decide +kernel
theorem jd_M_following_5 : decode prog_10_method_22_code 5 = .ok (.iload_n 1, 1) := by decide +kernel
theorem jd_M_following_6 : decode prog_10_method_22_code 6 = .ok (.imul, 1) := by decide +kernel
theorem jd_M_following_7 : decode prog_10_method_22_code 7 = .ok (.istore 5, 2) := by decide +kernel
theorem jd_M_following_9 : decode prog_10_method_22_code 9 = .ok (.iload 5, 2) := by decide +kernel
theorem jd_M_following_11 : decode prog_10_method_22_code 11 = .ok (.bipush 10, 2) := by decide +kernel
theorem jd_M_following_13 : decode prog_10_method_22_code 13 = .ok (.iload_n 1, 1) := by decide +kernel
theorem jd_M_following_14 : decode prog_10_method_22_code 14 = .ok (.imul, 1) := by decide +kernel
theorem jd_M_following_15 : decode prog_10_method_22_code 15 = .ok (.aload_n 0, 1) := by decide +kernel
theorem jd_M_following_16 : decode prog_10_method_22_code 16 = .ok (.getfield 26, 3) := by decide +kernel
theorem jd_M_following_19 : decode prog_10_method_22_code 19 = .ok (.iload_n 1, 1) := by decide +kernel
theorem jd_M_following_20 : decode prog_10_method_22_code 20 = .ok (.iaload, 1) := by decide +kernel
theorem jd_M_following_21 : decode prog_10_method_22_code 21 = .ok (.iadd, 1) := by decide +kernel
theorem jd_M_following_22 : decode prog_10_method_22_code 22 = .ok (.if_icmp .ge 59, 3) := by decide +kernel
theorem jd_M_following_25 : decode prog_10_method_22_code 25 = .ok (.aload_n 0, 1) := by decide +kernel
theorem jd_M_following_26 : decode prog_10_method_22_code 26 = .ok (.getfield 36, 3) := by decide +kernel
theorem jd_M_following_29 : decode prog_10_method_22_code 29 = .ok (.iload 5, 2) := by decide +kernel
theorem jd_M_following_31 : decode prog_10_method_22_code 31 = .ok (.iaload, 1) := by decide +kernel
theorem jd_M_following_32 : decode prog_10_method_22_code 32 = .ok (.iload_n 2, 1) := by decide +kernel
theorem jd_M_following_33 : decode prog_10_method_22_code 33 = .ok (.if_icmp .ne 42, 3) := by decide +kernel
theorem jd_M_following_36 : decode prog_10_method_22_code 36 = .ok (.iload_n 3, 1) := by decide +kernel
theorem jd_M_following_37 : decode prog_10_method_22_code 37 = .ok (.ifCond .lt 17, 3) := by decide +kernel
theorem jd_M_following_40 : decode prog_10_method_22_code 40 = .ok (.aload_n 0, 1) := by decide +kernel
theorem jd_M_following_41 : decode prog_10_method_22_code 41 = .ok (.iload 5, 2) := by decide +kernel
theorem jd_M_following_43 : decode prog_10_method_22_code 43 = .ok (.iload_n 3, 1) := by decide +kernel
theorem jd_M_following_44 : decode prog_10_method_22_code 44 = .ok (.iload_n 2, 1) := by decide +kernel
theorem jd_M_following_45 : decode prog_10_method_22_code 45 = .ok (.invokevirtual 99, 3) := by decide +kernel
theorem jd_M_following_48 : decode prog_10_method_22_code 48 = .ok (.ifCond .gt 6, 3) := by decide +kernel
theorem jd_M_following_51 : decode prog_10_method_22_code 51 = .ok (.goto 24, 3) := by decide +kernel
theorem jd_M_following_54 : decode prog_10_method_22_code 54 = .ok (.iload 4, 2) := by decide +kernel
theorem jd_M_following_56 : decode prog_10_method_22_code 56 = .ok (.ifCond .lt 15, 3) := by decide +kernel
theorem jd_M_following_59 : decode prog_10_method_22_code 59 = .ok (.aload_n 0, 1) := by decide +kernel
theorem jd_M_following_60 : decode prog_10_method_22_code 60 = .ok (.iload 5, 2) := by decide +kernel
theorem jd_M_following_62 : decode prog_10_method_22_code 62 = .ok (.iload 4, 2) := by decide +kernel
theorem jd_M_following_64 : decode prog_10_method_22_code 64 = .ok (.iload_n 2, 1) := by decide +kernel
theorem jd_M_following_65 : decode prog_10_method_22_code 65 = .ok (.invokevirtual 99, 3) := by decide +kernel
theorem jd_M_following_68 : decode prog_10_method_22_code 68 = .ok (.ifCond .ge 7, 3) := by decide +kernel
theorem jd_M_following_71 : decode prog_10_method_22_code 71 = .ok (.iload 5, 2) := by decide +kernel
theorem jd_M_following_73 : decode prog_10_method_22_code 73 = .ok (.istore 4, 2) := by decide +kernel
theorem jd_M_following_75 : decode prog_10_method_22_code 75 = .ok (.iinc 5 1, 3) := by decide +kernel
theorem jd_M_following_78 : decode prog_10_method_22_code 78 = .ok (.goto (-69), 3) := by decide +kernel
theorem jd_M_following_81 : decode prog_10_method_22_code 81 = .ok (.iload 4, 2) := by decide +kernel
theorem jd_M_following_83 : decode prog_10_method_22_code 83 = .ok (.ireturn, 1) := by decide +kernel
theorem jd_M_orderOf_0 : decode prog_10_method_21_code 0 = .ok (.iload_n 3, 1) := by decide +kernel
theorem jd_M_orderOf_1 : decode prog_10_method_21_code 1 = .ok (.iconst 1, 1) := by decide +kernel
theorem jd_M_orderOf_2 : decode prog_10_method_21_code 2 = .ok (.if_icmp .ne 16, 3) := by decide +kernel
theorem jd_M_orderOf_5 : decode prog_10_method_21_code 5 = .ok (.aload_n 0, 1) := by decide +kernel
theorem jd_M_orderOf_6 : decode prog_10_method_21_code 6 = .ok (.bipush 62, 2) := by decide +kernel
theorem jd_M_orderOf_8 : decode prog_10_method_21_code 8 = .ok (.iload_n 1, 1) := by decide +kernel
theorem jd_M_orderOf_9 : decode prog_10_method_21_code 9 = .ok (.iadd, 1) := by decide +kernel
theorem jd_M_orderOf_10 : decode prog_10_method_21_code 10 = .ok (.bipush 62, 2) := by decide +kernel
theorem jd_M_orderOf_12 : decode prog_10_method_21_code 12 = .ok (.iload_n 2, 1) := by decide +kernel
theorem jd_M_orderOf_13 : decode prog_10_method_21_code 13 = .ok (.iadd, 1) := by decide +kernel
theorem jd_M_orderOf_14 : decode prog_10_method_21_code 14 = .ok (.invokevirtual 82, 3) := by decide +kernel
theorem jd_M_orderOf_17 : decode prog_10_method_21_code 17 = .ok (.ireturn, 1) := by decide +kernel
theorem jd_M_orderOf_18 : decode prog_10_method_21_code 18 = .ok (.aload_n 0, 1) := by decide +kernel
theorem jd_M_orderOf_19 : decode prog_10_method_21_code 19 = .ok (.bipush 22, 2) := by decide +kernel
theorem jd_M_orderOf_21 : decode prog_10_method_21_code 21 = .ok (.iload_n 1, 1) := by decide +kernel
theorem jd_M_orderOf_22 : decode prog_10_method_21_code 22 = .ok (.iadd, 1) := by decide +kernel
theorem jd_M_orderOf_23 : decode prog_10_method_21_code 23 = .ok (.bipush 22, 2) := by decide +kernel
theorem jd_M_orderOf_25 : decode prog_10_method_21_code 25 = .ok (.iload_n 2, 1) := by decide +kernel
theorem jd_M_orderOf_26 : decode prog_10_method_21_code 26 = .ok (.iadd, 1) := by decide +kernel
theorem jd_M_orderOf_27 : decode prog_10_method_21_code 27 = .ok (.invokevirtual 82, 3) := by decide +kernel
theorem jd_M_orderOf_30 : decode prog_10_method_21_code 30 = .ok (.istore 4, 2) := by decide +kernel
theorem jd_M_orderOf_32 : decode prog_10_method_21_code 32 = .ok (.iload 4, 2) := by decide +kernel
theorem jd_M_orderOf_34 : decode prog_10_method_21_code 34 = .ok (.ifCond .ne 7, 3) := by decide +kernel
theorem jd_M_orderOf_37 : decode prog_10_method_21_code 37 = .ok (.iload_n 3, 1) := by decide +kernel
theorem jd_M_orderOf_38 : decode prog_10_method_21_code 38 = .ok (.ifCond .ne 8, 3) := by decide +kernel
theorem jd_M_orderOf_41 : decode prog_10_method_21_code 41 = .ok (.iload 4, 2) := by decide +kernel
theorem jd_M_orderOf_43 : decode prog_10_method_21_code 43 = .ok (.goto 15, 3) := by decide +kernel
theorem jd_M_orderOf_46 : decode prog_10_method_21_code 46 = .ok (.aload_n 0, 1) := by decide +kernel
theorem jd_M_orderOf_47 : decode prog_10_method_21_code 47 = .ok (.bipush 62, 2) := by decide +kernel
theorem jd_M_orderOf_49 : decode prog_10_method_21_code 49 = .ok (.iload_n 1, 1) := by decide +kernel
theorem jd_M_orderOf_50 : decode prog_10_method_21_code 50 = .ok (.iadd, 1) := by decide +kernel
theorem jd_M_orderOf_51 : decode prog_10_method_21_code 51 = .ok (.bipush 62, 2) := by decide +kernel
theorem jd_M_orderOf_53 : decode prog_10_method_21_code 53 = .ok (.iload_n 2, 1) := by decide +kernel
theorem jd_M_orderOf_54 : decode prog_10_method_21_code 54 = .ok (.iadd, 1) := by decide +kernel
theorem jd_M_orderOf_55 : decode prog_10_method_21_code 55 = .ok (.invokevirtual 82, 3) := by decide +kernel
theorem jd_M_orderOf_58 : decode prog_10_method_21_code 58 = .ok (.ireturn, 1) := by decide +kernel
theorem jd_M_initName_0 : decode prog_10_method_20_code 0 = .ok (.aload_n 0, 1) := by decide +kernel
theorem jd_M_initName_1 : decode prog_10_method_20_code 1 = .ok (.iconst 0, 1) := by decide +kernel
theorem jd_M_initName_2 : decode prog_10_method_20_code 2 = .ok (.invokevirtual 95, 3) := by decide +kernel
theorem jd_M_initName_5 : decode prog_10_method_20_code 5 = .ok (.aload_n 0, 1) := by decide +kernel
theorem jd_M_initName_6 : decode prog_10_method_20_code 6 = .ok (.iload_n 1, 1) := by decide +kernel
theorem jd_M_initName_7 : decode prog_10_method_20_code 7 = .ok (.ifCond .eq 8, 3) := by decide +kernel
theorem jd_M_initName_10 : decode prog_10_method_20_code 10 = .ok (.bipush 8, 2) := by decide +kernel
theorem jd_M_initName_12 : decode prog_10_method_20_code 12 = .ok (.goto 5, 3) := by decide +kernel
theorem jd_M_initName_15 : decode prog_10_method_20_code 15 = .ok (.bipush 6, 2) := by decide +kernel
theorem jd_M_initName_17 : decode prog_10_method_20_code 17 = .ok (.invokevirtual 95, 3) := by decide +kernel
theorem jd_M_initName_20 : decode prog_10_method_20_code 20 = .ok (.aload_n 0, 1) := by decide +kernel
theorem jd_M_initName_21 : decode prog_10_method_20_code 21 = .ok (.bipush 60, 2) := by decide +kernel
theorem jd_M_initName_23 : decode prog_10_method_20_code 23 = .ok (.invokevirtual 95, 3) := by decide +kernel
theorem jd_M_initName_26 : decode prog_10_method_20_code 26 = .ok (.iload_n 1, 1) := by decide +kernel
theorem jd_M_initName_27 : decode prog_10_method_20_code 27 = .ok (.ifCond .eq 15, 3) := by decide +kernel
theorem jd_M_initName_30 : decode prog_10_method_20_code 30 = .ok (.aload_n 0, 1) := by decide +kernel
theorem jd_M_initName_31 : decode prog_10_method_20_code 31 = .ok (.bipush 99, 2) := by decide +kernel
theorem jd_M_initName_33 : decode prog_10_method_20_code 33 = .ok (.invokevirtual 95, 3) := by decide +kernel
theorem jd_M_initName_36 : decode prog_10_method_20_code 36 = .ok (.aload_n 0, 1) := by decide +kernel
theorem jd_M_initName_37 : decode prog_10_method_20_code 37 = .ok (.bipush 108, 2) := by decide +kernel
theorem jd_M_initName_39 : decode prog_10_method_20_code 39 = .ok (.invokevirtual 95, 3) := by decide +kernel
theorem jd_M_initName_42 : decode prog_10_method_20_code 42 = .ok (.aload_n 0, 1) := by decide +kernel
theorem jd_M_initName_43 : decode prog_10_method_20_code 43 = .ok (.bipush 105, 2) := by decide +kernel
theorem jd_M_initName_45 : decode prog_10_method_20_code 45 = .ok (.invokevirtual 95, 3) := by decide +kernel
theorem jd_M_initName_48 : decode prog_10_method_20_code 48 = .ok (.aload_n 0, 1) := by decide +kernel
theorem jd_M_initName_49 : decode prog_10_method_20_code 49 = .ok (.bipush 110, 2) := by decide +kernel
theorem jd_M_initName_51 : decode prog_10_method_20_code 51 = .ok (.invokevirtual 95, 3) := by decide +kernel
theorem jd_M_initName_54 : decode prog_10_method_20_code 54 = .ok (.aload_n 0, 1) := by decide +kernel
theorem jd_M_initName_55 : decode prog_10_method_20_code 55 = .ok (.bipush 105, 2) := by decide +kernel
theorem jd_M_initName_57 : decode prog_10_method_20_code 57 = .ok (.invokevirtual 95, 3) := by decide +kernel
theorem jd_M_initName_60 : decode prog_10_method_20_code 60 = .ok (.aload_n 0, 1) := by decide +kernel
theorem jd_M_initName_61 : decode prog_10_method_20_code 61 = .ok (.bipush 116, 2) := by decide +kernel
theorem jd_M_initName_63 : decode prog_10_method_20_code 63 = .ok (.invokevirtual 95, 3) := by decide +kernel
theorem jd_M_initName_66 : decode prog_10_method_20_code 66 = .ok (.aload_n 0, 1) := by decide +kernel
theorem jd_M_initName_67 : decode prog_10_method_20_code 67 = .ok (.bipush 62, 2) := by decide +kernel
theorem jd_M_initName_69 : decode prog_10_method_20_code 69 = .ok (.invokevirtual 95, 3) := by decide +kernel
theorem jd_M_initName_72 : decode prog_10_method_20_code 72 = .ok (.return_, 1) := by decide +kernel
theorem jd_M_block_0 : decode prog_10_method_30_code 0 = .ok (.iconst 0, 1) := by decide +kernel
theorem jd_M_block_1 : decode prog_10_method_30_code 1 = .ok (.istore_n 2, 1) := by decide +kernel
theorem jd_M_block_2 : decode prog_10_method_30_code 2 = .ok (.iload_n 2, 1) := by decide +kernel
theorem jd_M_block_3 : decode prog_10_method_30_code 3 = .ok (.bipush 80, 2) := by decide +kernel
theorem jd_M_block_5 : decode prog_10_method_30_code 5 = .ok (.if_icmp .ge 115, 3) := by decide +kernel
theorem jd_M_block_8 : decode prog_10_method_30_code 8 = .ok (.iload_n 2, 1) := by decide +kernel
theorem jd_M_block_9 : decode prog_10_method_30_code 9 = .ok (.bipush 16, 2) := by decide +kernel
theorem jd_M_block_11 : decode prog_10_method_30_code 11 = .ok (.if_icmp .ge 54, 3) := by decide +kernel
theorem jd_M_block_14 : decode prog_10_method_30_code 14 = .ok (.aload_n 0, 1) := by decide +kernel
theorem jd_M_block_15 : decode prog_10_method_30_code 15 = .ok (.getfield 51, 3) := by decide +kernel
theorem jd_M_block_18 : decode prog_10_method_30_code 18 = .ok (.iload_n 2, 1) := by decide +kernel
theorem jd_M_block_19 : decode prog_10_method_30_code 19 = .ok (.iconst 0, 1) := by decide +kernel
theorem jd_M_block_20 : decode prog_10_method_30_code 20 = .ok (.iastore, 1) := by decide +kernel
theorem jd_M_block_21 : decode prog_10_method_30_code 21 = .ok (.iconst 0, 1) := by decide +kernel
theorem jd_M_block_22 : decode prog_10_method_30_code 22 = .ok (.istore_n 3, 1) := by decide +kernel
theorem jd_M_block_23 : decode prog_10_method_30_code 23 = .ok (.iload_n 3, 1) := by decide +kernel
theorem jd_M_block_24 : decode prog_10_method_30_code 24 = .ok (.iconst 4, 1) := by decide +kernel
theorem jd_M_block_25 : decode prog_10_method_30_code 25 = .ok (.if_icmp .ge 37, 3) := by decide +kernel
theorem jd_M_block_28 : decode prog_10_method_30_code 28 = .ok (.aload_n 0, 1) := by decide +kernel
theorem jd_M_block_29 : decode prog_10_method_30_code 29 = .ok (.getfield 51, 3) := by decide +kernel
theorem jd_M_block_32 : decode prog_10_method_30_code 32 = .ok (.iload_n 2, 1) := by decide +kernel
theorem jd_M_block_33 : decode prog_10_method_30_code 33 = .ok (.aload_n 0, 1) := by decide +kernel
theorem jd_M_block_34 : decode prog_10_method_30_code 34 = .ok (.getfield 51, 3) := by decide +kernel
theorem jd_M_block_37 : decode prog_10_method_30_code 37 = .ok (.iload_n 2, 1) := by decide +kernel
theorem jd_M_block_38 : decode prog_10_method_30_code 38 = .ok (.iaload, 1) := by decide +kernel
theorem jd_M_block_39 : decode prog_10_method_30_code 39 = .ok (.bipush 8, 2) := by decide +kernel
theorem jd_M_block_41 : decode prog_10_method_30_code 41 = .ok (.ishl, 1) := by decide +kernel
theorem jd_M_block_42 : decode prog_10_method_30_code 42 = .ok (.aload_n 0, 1) := by decide +kernel
theorem jd_M_block_43 : decode prog_10_method_30_code 43 = .ok (.getfield 42, 3) := by decide +kernel
theorem jd_M_block_46 : decode prog_10_method_30_code 46 = .ok (.iload_n 1, 1) := by decide +kernel
theorem jd_M_block_47 : decode prog_10_method_30_code 47 = .ok (.iconst 4, 1) := by decide +kernel
theorem jd_M_block_48 : decode prog_10_method_30_code 48 = .ok (.iload_n 2, 1) := by decide +kernel
theorem jd_M_block_49 : decode prog_10_method_30_code 49 = .ok (.imul, 1) := by decide +kernel
theorem jd_M_block_50 : decode prog_10_method_30_code 50 = .ok (.iadd, 1) := by decide +kernel
theorem jd_M_block_51 : decode prog_10_method_30_code 51 = .ok (.iload_n 3, 1) := by decide +kernel
theorem jd_M_block_52 : decode prog_10_method_30_code 52 = .ok (.iadd, 1) := by decide +kernel
theorem jd_M_block_53 : decode prog_10_method_30_code 53 = .ok (.iaload, 1) := by decide +kernel
theorem jd_M_block_54 : decode prog_10_method_30_code 54 = .ok (.ior, 1) := by decide +kernel
theorem jd_M_block_55 : decode prog_10_method_30_code 55 = .ok (.iastore, 1) := by decide +kernel
theorem jd_M_block_56 : decode prog_10_method_30_code 56 = .ok (.iinc 3 1, 3) := by decide +kernel
theorem jd_M_block_59 : decode prog_10_method_30_code 59 = .ok (.goto (-36), 3) := by decide +kernel
theorem jd_M_block_62 : decode prog_10_method_30_code 62 = .ok (.goto 52, 3) := by decide +kernel
theorem jd_M_block_65 : decode prog_10_method_30_code 65 = .ok (.aload_n 0, 1) := by decide +kernel
theorem jd_M_block_66 : decode prog_10_method_30_code 66 = .ok (.getfield 51, 3) := by decide +kernel
theorem jd_M_block_69 : decode prog_10_method_30_code 69 = .ok (.iload_n 2, 1) := by decide +kernel
theorem jd_M_block_70 : decode prog_10_method_30_code 70 = .ok (.aload_n 0, 1) := by decide +kernel
theorem jd_M_block_71 : decode prog_10_method_30_code 71 = .ok (.aload_n 0, 1) := by decide +kernel
theorem jd_M_block_72 : decode prog_10_method_30_code 72 = .ok (.getfield 51, 3) := by decide +kernel
theorem jd_M_block_75 : decode prog_10_method_30_code 75 = .ok (.iload_n 2, 1) := by decide +kernel
theorem jd_M_block_76 : decode prog_10_method_30_code 76 = .ok (.iconst 3, 1) := by decide +kernel
theorem jd_M_block_77 : decode prog_10_method_30_code 77 = .ok (.isub, 1) := by decide +kernel
theorem jd_M_block_78 : decode prog_10_method_30_code 78 = .ok (.iaload, 1) := by decide +kernel
theorem jd_M_block_79 : decode prog_10_method_30_code 79 = .ok (.aload_n 0, 1) := by decide +kernel
theorem jd_M_block_80 : decode prog_10_method_30_code 80 = .ok (.getfield 51, 3) := by decide +kernel
theorem jd_M_block_83 : decode prog_10_method_30_code 83 = .ok (.iload_n 2, 1) := by decide +kernel
theorem jd_M_block_84 : decode prog_10_method_30_code 84 = .ok (.bipush 8, 2) := by decide +kernel
theorem jd_M_block_86 : decode prog_10_method_30_code 86 = .ok (.isub, 1) := by decide +kernel
theorem jd_M_block_87 : decode prog_10_method_30_code 87 = .ok (.iaload, 1) := by decide +kernel
theorem jd_M_block_88 : decode prog_10_method_30_code 88 = .ok (.ixor, 1) := by decide +kernel
theorem jd_M_block_89 : decode prog_10_method_30_code 89 = .ok (.aload_n 0, 1) := by decide +kernel
theorem jd_M_block_90 : decode prog_10_method_30_code 90 = .ok (.getfield 51, 3) := by decide +kernel
theorem jd_M_block_93 : decode prog_10_method_30_code 93 = .ok (.iload_n 2, 1) := by decide +kernel
theorem jd_M_block_94 : decode prog_10_method_30_code 94 = .ok (.bipush 14, 2) := by decide +kernel
theorem jd_M_block_96 : decode prog_10_method_30_code 96 = .ok (.isub, 1) := by decide +kernel
theorem jd_M_block_97 : decode prog_10_method_30_code 97 = .ok (.iaload, 1) := by decide +kernel
theorem jd_M_block_98 : decode prog_10_method_30_code 98 = .ok (.ixor, 1) := by decide +kernel
theorem jd_M_block_99 : decode prog_10_method_30_code 99 = .ok (.aload_n 0, 1) := by decide +kernel
theorem jd_M_block_100 : decode prog_10_method_30_code 100 = .ok (.getfield 51, 3) := by decide +kernel
theorem jd_M_block_103 : decode prog_10_method_30_code 103 = .ok (.iload_n 2, 1) := by decide +kernel
theorem jd_M_block_104 : decode prog_10_method_30_code 104 = .ok (.bipush 16, 2) := by decide +kernel
theorem jd_M_block_106 : decode prog_10_method_30_code 106 = .ok (.isub, 1) := by decide +kernel
theorem jd_M_block_107 : decode prog_10_method_30_code 107 = .ok (.iaload, 1) := by decide +kernel
theorem jd_M_block_108 : decode prog_10_method_30_code 108 = .ok (.ixor, 1) := by decide +kernel
theorem jd_M_block_109 : decode prog_10_method_30_code 109 = .ok (.iconst 1, 1) := by decide +kernel
theorem jd_M_block_110 : decode prog_10_method_30_code 110 = .ok (.invokevirtual 130, 3) := by decide +kernel
theorem jd_M_block_113 : decode prog_10_method_30_code 113 = .ok (.iastore, 1) := by decide +kernel
theorem jd_M_block_114 : decode prog_10_method_30_code 114 = .ok (.iinc 2 1, 3) := by decide +kernel
theorem jd_M_block_117 : decode prog_10_method_30_code 117 = .ok (.goto (-115), 3) := by decide +kernel
theorem jd_M_block_120 : decode prog_10_method_30_code 120 = .ok (.aload_n 0, 1) := by decide +kernel
theorem jd_M_block_121 : decode prog_10_method_30_code 121 = .ok (.getfield 48, 3) := by decide +kernel
theorem jd_M_block_124 : decode prog_10_method_30_code 124 = .ok (.iconst 0, 1) := by decide +kernel
theorem jd_M_block_125 : decode prog_10_method_30_code 125 = .ok (.iaload, 1) := by decide +kernel
theorem jd_M_block_126 : decode prog_10_method_30_code 126 = .ok (.istore_n 2, 1) := by decide +kernel
theorem jd_M_block_127 : decode prog_10_method_30_code 127 = .ok (.aload_n 0, 1) := by decide +kernel
theorem jd_M_block_128 : decode prog_10_method_30_code 128 = .ok (.getfield 48, 3) := by decide +kernel
theorem jd_M_block_131 : decode prog_10_method_30_code 131 = .ok (.iconst 1, 1) := by decide +kernel
theorem jd_M_block_132 : decode prog_10_method_30_code 132 = .ok (.iaload, 1) := by decide +kernel
theorem jd_M_block_133 : decode prog_10_method_30_code 133 = .ok (.istore_n 3, 1) := by decide +kernel
theorem jd_M_block_134 : decode prog_10_method_30_code 134 = .ok (.aload_n 0, 1) := by decide +kernel
theorem jd_M_block_135 : decode prog_10_method_30_code 135 = .ok (.getfield 48, 3) := by decide +kernel
theorem jd_M_block_138 : decode prog_10_method_30_code 138 = .ok (.iconst 2, 1) := by decide +kernel
theorem jd_M_block_139 : decode prog_10_method_30_code 139 = .ok (.iaload, 1) := by decide +kernel
theorem jd_M_block_140 : decode prog_10_method_30_code 140 = .ok (.istore 4, 2) := by decide +kernel
theorem jd_M_block_142 : decode prog_10_method_30_code 142 = .ok (.aload_n 0, 1) := by decide +kernel
theorem jd_M_block_143 : decode prog_10_method_30_code 143 = .ok (.getfield 48, 3) := by decide +kernel
theorem jd_M_block_146 : decode prog_10_method_30_code 146 = .ok (.iconst 3, 1) := by decide +kernel
theorem jd_M_block_147 : decode prog_10_method_30_code 147 = .ok (.iaload, 1) := by decide +kernel
theorem jd_M_block_148 : decode prog_10_method_30_code 148 = .ok (.istore 5, 2) := by decide +kernel
theorem jd_M_block_150 : decode prog_10_method_30_code 150 = .ok (.aload_n 0, 1) := by decide +kernel
theorem jd_M_block_151 : decode prog_10_method_30_code 151 = .ok (.getfield 48, 3) := by decide +kernel
theorem jd_M_block_154 : decode prog_10_method_30_code 154 = .ok (.iconst 4, 1) := by decide +kernel
theorem jd_M_block_155 : decode prog_10_method_30_code 155 = .ok (.iaload, 1) := by decide +kernel
theorem jd_M_block_156 : decode prog_10_method_30_code 156 = .ok (.istore 6, 2) := by decide +kernel
theorem jd_M_block_158 : decode prog_10_method_30_code 158 = .ok (.iconst 0, 1) := by decide +kernel
theorem jd_M_block_159 : decode prog_10_method_30_code 159 = .ok (.istore 7, 2) := by decide +kernel
theorem jd_M_block_161 : decode prog_10_method_30_code 161 = .ok (.iload 7, 2) := by decide +kernel
theorem jd_M_block_163 : decode prog_10_method_30_code 163 = .ok (.bipush 80, 2) := by decide +kernel
theorem jd_M_block_165 : decode prog_10_method_30_code 165 = .ok (.if_icmp .ge 69, 3) := by decide +kernel
theorem jd_M_block_168 : decode prog_10_method_30_code 168 = .ok (.aload_n 0, 1) := by decide +kernel
theorem jd_M_block_169 : decode prog_10_method_30_code 169 = .ok (.iload_n 2, 1) := by decide +kernel
theorem jd_M_block_170 : decode prog_10_method_30_code 170 = .ok (.iconst 5, 1) := by decide +kernel
theorem jd_M_block_171 : decode prog_10_method_30_code 171 = .ok (.invokevirtual 130, 3) := by decide +kernel
theorem jd_M_block_174 : decode prog_10_method_30_code 174 = .ok (.aload_n 0, 1) := by decide +kernel
theorem jd_M_block_175 : decode prog_10_method_30_code 175 = .ok (.iload 7, 2) := by decide +kernel
theorem jd_M_block_177 : decode prog_10_method_30_code 177 = .ok (.iload_n 3, 1) := by decide +kernel
theorem jd_M_block_178 : decode prog_10_method_30_code 178 = .ok (.iload 4, 2) := by decide +kernel
theorem jd_M_block_180 : decode prog_10_method_30_code 180 = .ok (.iload 5, 2) := by decide +kernel
theorem jd_M_block_182 : decode prog_10_method_30_code 182 = .ok (.invokevirtual 133, 3) := by decide +kernel
theorem jd_M_block_185 : decode prog_10_method_30_code 185 = .ok (.iadd, 1) := by decide +kernel
theorem jd_M_block_186 : decode prog_10_method_30_code 186 = .ok (.iload 6, 2) := by decide +kernel
theorem jd_M_block_188 : decode prog_10_method_30_code 188 = .ok (.iadd, 1) := by decide +kernel
theorem jd_M_block_189 : decode prog_10_method_30_code 189 = .ok (.aload_n 0, 1) := by decide +kernel
theorem jd_M_block_190 : decode prog_10_method_30_code 190 = .ok (.getfield 51, 3) := by decide +kernel
theorem jd_M_block_193 : decode prog_10_method_30_code 193 = .ok (.iload 7, 2) := by decide +kernel
theorem jd_M_block_195 : decode prog_10_method_30_code 195 = .ok (.iaload, 1) := by decide +kernel
theorem jd_M_block_196 : decode prog_10_method_30_code 196 = .ok (.iadd, 1) := by decide +kernel
theorem jd_M_block_197 : decode prog_10_method_30_code 197 = .ok (.aload_n 0, 1) := by decide +kernel
theorem jd_M_block_198 : decode prog_10_method_30_code 198 = .ok (.iload 7, 2) := by decide +kernel
theorem jd_M_block_200 : decode prog_10_method_30_code 200 = .ok (.invokevirtual 137, 3) := by decide +kernel
theorem jd_M_block_203 : decode prog_10_method_30_code 203 = .ok (.iadd, 1) := by decide +kernel
theorem jd_M_block_204 : decode prog_10_method_30_code 204 = .ok (.istore 8, 2) := by decide +kernel
theorem jd_M_block_206 : decode prog_10_method_30_code 206 = .ok (.iload 5, 2) := by decide +kernel
theorem jd_M_block_208 : decode prog_10_method_30_code 208 = .ok (.istore 6, 2) := by decide +kernel
theorem jd_M_block_210 : decode prog_10_method_30_code 210 = .ok (.iload 4, 2) := by decide +kernel
theorem jd_M_block_212 : decode prog_10_method_30_code 212 = .ok (.istore 5, 2) := by decide +kernel
theorem jd_M_block_214 : decode prog_10_method_30_code 214 = .ok (.aload_n 0, 1) := by decide +kernel
theorem jd_M_block_215 : decode prog_10_method_30_code 215 = .ok (.iload_n 3, 1) := by decide +kernel
theorem jd_M_block_216 : decode prog_10_method_30_code 216 = .ok (.bipush 30, 2) := by decide +kernel
theorem jd_M_block_218 : decode prog_10_method_30_code 218 = .ok (.invokevirtual 130, 3) := by decide +kernel
theorem jd_M_block_221 : decode prog_10_method_30_code 221 = .ok (.istore 4, 2) := by decide +kernel
theorem jd_M_block_223 : decode prog_10_method_30_code 223 = .ok (.iload_n 2, 1) := by decide +kernel
theorem jd_M_block_224 : decode prog_10_method_30_code 224 = .ok (.istore_n 3, 1) := by decide +kernel
theorem jd_M_block_225 : decode prog_10_method_30_code 225 = .ok (.iload 8, 2) := by decide +kernel
theorem jd_M_block_227 : decode prog_10_method_30_code 227 = .ok (.istore_n 2, 1) := by decide +kernel
theorem jd_M_block_228 : decode prog_10_method_30_code 228 = .ok (.iinc 7 1, 3) := by decide +kernel
theorem jd_M_block_231 : decode prog_10_method_30_code 231 = .ok (.goto (-70), 3) := by decide +kernel
theorem jd_M_block_234 : decode prog_10_method_30_code 234 = .ok (.aload_n 0, 1) := by decide +kernel
theorem jd_M_block_235 : decode prog_10_method_30_code 235 = .ok (.getfield 48, 3) := by decide +kernel
theorem jd_M_block_238 : decode prog_10_method_30_code 238 = .ok (.iconst 0, 1) := by decide +kernel
theorem jd_M_block_239 : decode prog_10_method_30_code 239 = .ok (.dup2, 1) := by decide +kernel
theorem jd_M_block_240 : decode prog_10_method_30_code 240 = .ok (.iaload, 1) := by decide +kernel
theorem jd_M_block_241 : decode prog_10_method_30_code 241 = .ok (.iload_n 2, 1) := by decide +kernel
theorem jd_M_block_242 : decode prog_10_method_30_code 242 = .ok (.iadd, 1) := by decide +kernel
theorem jd_M_block_243 : decode prog_10_method_30_code 243 = .ok (.iastore, 1) := by decide +kernel
theorem jd_M_block_244 : decode prog_10_method_30_code 244 = .ok (.aload_n 0, 1) := by decide +kernel
theorem jd_M_block_245 : decode prog_10_method_30_code 245 = .ok (.getfield 48, 3) := by decide +kernel
theorem jd_M_block_248 : decode prog_10_method_30_code 248 = .ok (.iconst 1, 1) := by decide +kernel
theorem jd_M_block_249 : decode prog_10_method_30_code 249 = .ok (.dup2, 1) := by decide +kernel
theorem jd_M_block_250 : decode prog_10_method_30_code 250 = .ok (.iaload, 1) := by decide +kernel
theorem jd_M_block_251 : decode prog_10_method_30_code 251 = .ok (.iload_n 3, 1) := by decide +kernel
theorem jd_M_block_252 : decode prog_10_method_30_code 252 = .ok (.iadd, 1) := by decide +kernel
theorem jd_M_block_253 : decode prog_10_method_30_code 253 = .ok (.iastore, 1) := by decide +kernel
theorem jd_M_block_254 : decode prog_10_method_30_code 254 = .ok (.aload_n 0, 1) := by decide +kernel
theorem jd_M_block_255 : decode prog_10_method_30_code 255 = .ok (.getfield 48, 3) := by decide +kernel
theorem jd_M_block_258 : decode prog_10_method_30_code 258 = .ok (.iconst 2, 1) := by decide +kernel
theorem jd_M_block_259 : decode prog_10_method_30_code 259 = .ok (.dup2, 1) := by decide +kernel
theorem jd_M_block_260 : decode prog_10_method_30_code 260 = .ok (.iaload, 1) := by decide +kernel
theorem jd_M_block_261 : decode prog_10_method_30_code 261 = .ok (.iload 4, 2) := by decide +kernel
theorem jd_M_block_263 : decode prog_10_method_30_code 263 = .ok (.iadd, 1) := by decide +kernel
theorem jd_M_block_264 : decode prog_10_method_30_code 264 = .ok (.iastore, 1) := by decide +kernel
theorem jd_M_block_265 : decode prog_10_method_30_code 265 = .ok (.aload_n 0, 1) := by decide +kernel
theorem jd_M_block_266 : decode prog_10_method_30_code 266 = .ok (.getfield 48, 3) := by decide +kernel
theorem jd_M_block_269 : decode prog_10_method_30_code 269 = .ok (.iconst 3, 1) := by decide +kernel
theorem jd_M_block_270 : decode prog_10_method_30_code 270 = .ok (.dup2, 1) := by decide +kernel
theorem jd_M_block_271 : decode prog_10_method_30_code 271 = .ok (.iaload, 1) := by decide +kernel
theorem jd_M_block_272 : decode prog_10_method_30_code 272 = .ok (.iload 5, 2) := by decide +kernel
theorem jd_M_block_274 : decode prog_10_method_30_code 274 = .ok (.iadd, 1) := by decide +kernel
theorem jd_M_block_275 : decode prog_10_method_30_code 275 = .ok (.iastore, 1) := by decide +kernel
theorem jd_M_block_276 : decode prog_10_method_30_code 276 = .ok (.aload_n 0, 1) := by decide +kernel
theorem jd_M_block_277 : decode prog_10_method_30_code 277 = .ok (.getfield 48, 3) := by decide +kernel
theorem jd_M_block_280 : decode prog_10_method_30_code 280 = .ok (.iconst 4, 1) := by decide +kernel
theorem jd_M_block_281 : decode prog_10_method_30_code 281 = .ok (.dup2, 1) := by decide +kernel
theorem jd_M_block_282 : decode prog_10_method_30_code 282 = .ok (.iaload, 1) := by decide +kernel
theorem jd_M_block_283 : decode prog_10_method_30_code 283 = .ok (.iload 6, 2) := by decide +kernel
theorem jd_M_block_285 : decode prog_10_method_30_code 285 = .ok (.iadd, 1) := by decide +kernel
theorem jd_M_block_286 : decode prog_10_method_30_code 286 = .ok (.iastore, 1) := by decide +kernel
theorem jd_M_block_287 : decode prog_10_method_30_code 287 = .ok (.return_, 1) := by decide +kernel
theorem jd_M_turned_0 : decode prog_10_method_27_code 0 = .ok (.iload_n 1, 1) := by decide +kernel
theorem jd_M_turned_1 : decode prog_10_method_27_code 1 = .ok (.iload_n 2, 1) := by decide +kernel
theorem jd_M_turned_2 : decode prog_10_method_27_code 2 = .ok (.ishl, 1) := by decide +kernel
theorem jd_M_turned_3 : decode prog_10_method_27_code 3 = .ok (.iload_n 1, 1) := by decide +kernel
theorem jd_M_turned_4 : decode prog_10_method_27_code 4 = .ok (.bipush 32, 2) := by decide +kernel
theorem jd_M_turned_6 : decode prog_10_method_27_code 6 = .ok (.iload_n 2, 1) := by decide +kernel
theorem jd_M_turned_7 : decode prog_10_method_27_code 7 = .ok (.isub, 1) := by decide +kernel
theorem jd_M_turned_8 : decode prog_10_method_27_code 8 = .ok (.iushr, 1) := by decide +kernel
theorem jd_M_turned_9 : decode prog_10_method_27_code 9 = .ok (.ior, 1) := by decide +kernel
theorem jd_M_turned_10 : decode prog_10_method_27_code 10 = .ok (.ireturn, 1) := by decide +kernel
theorem jd_M_mixed_0 : decode prog_10_method_28_code 0 = .ok (.iload_n 1, 1) := by decide +kernel
theorem jd_M_mixed_1 : decode prog_10_method_28_code 1 = .ok (.bipush 20, 2) := by decide +kernel
theorem jd_M_mixed_3 : decode prog_10_method_28_code 3 = .ok (.if_icmp .ge 14, 3) := by decide +kernel
theorem jd_M_mixed_6 : decode prog_10_method_28_code 6 = .ok (.iload_n 2, 1) := by decide +kernel
theorem jd_M_mixed_7 : decode prog_10_method_28_code 7 = .ok (.iload_n 3, 1) := by decide +kernel
theorem jd_M_mixed_8 : decode prog_10_method_28_code 8 = .ok (.iand, 1) := by decide +kernel
theorem jd_M_mixed_9 : decode prog_10_method_28_code 9 = .ok (.iload_n 2, 1) := by decide +kernel
theorem jd_M_mixed_10 : decode prog_10_method_28_code 10 = .ok (.iconst (-1), 1) := by decide +kernel
theorem jd_M_mixed_11 : decode prog_10_method_28_code 11 = .ok (.ixor, 1) := by decide +kernel
theorem jd_M_mixed_12 : decode prog_10_method_28_code 12 = .ok (.iload 4, 2) := by decide +kernel
theorem jd_M_mixed_14 : decode prog_10_method_28_code 14 = .ok (.iand, 1) := by decide +kernel
theorem jd_M_mixed_15 : decode prog_10_method_28_code 15 = .ok (.ior, 1) := by decide +kernel
theorem jd_M_mixed_16 : decode prog_10_method_28_code 16 = .ok (.ireturn, 1) := by decide +kernel
theorem jd_M_mixed_17 : decode prog_10_method_28_code 17 = .ok (.iload_n 1, 1) := by decide +kernel
theorem jd_M_mixed_18 : decode prog_10_method_28_code 18 = .ok (.bipush 40, 2) := by decide +kernel
theorem jd_M_mixed_20 : decode prog_10_method_28_code 20 = .ok (.if_icmp .lt 9, 3) := by decide +kernel
theorem jd_M_mixed_23 : decode prog_10_method_28_code 23 = .ok (.iload_n 1, 1) := by decide +kernel
theorem jd_M_mixed_24 : decode prog_10_method_28_code 24 = .ok (.bipush 60, 2) := by decide +kernel
theorem jd_M_mixed_26 : decode prog_10_method_28_code 26 = .ok (.if_icmp .lt 10, 3) := by decide +kernel
theorem jd_M_mixed_29 : decode prog_10_method_28_code 29 = .ok (.iload_n 2, 1) := by decide +kernel
theorem jd_M_mixed_30 : decode prog_10_method_28_code 30 = .ok (.iload_n 3, 1) := by decide +kernel
theorem jd_M_mixed_31 : decode prog_10_method_28_code 31 = .ok (.ixor, 1) := by decide +kernel
theorem jd_M_mixed_32 : decode prog_10_method_28_code 32 = .ok (.iload 4, 2) := by decide +kernel
theorem jd_M_mixed_34 : decode prog_10_method_28_code 34 = .ok (.ixor, 1) := by decide +kernel
theorem jd_M_mixed_35 : decode prog_10_method_28_code 35 = .ok (.ireturn, 1) := by decide +kernel
theorem jd_M_mixed_36 : decode prog_10_method_28_code 36 = .ok (.iload_n 2, 1) := by decide +kernel
theorem jd_M_mixed_37 : decode prog_10_method_28_code 37 = .ok (.iload_n 3, 1) := by decide +kernel
theorem jd_M_mixed_38 : decode prog_10_method_28_code 38 = .ok (.iand, 1) := by decide +kernel
theorem jd_M_mixed_39 : decode prog_10_method_28_code 39 = .ok (.iload_n 2, 1) := by decide +kernel
theorem jd_M_mixed_40 : decode prog_10_method_28_code 40 = .ok (.iload 4, 2) := by decide +kernel
theorem jd_M_mixed_42 : decode prog_10_method_28_code 42 = .ok (.iand, 1) := by decide +kernel
theorem jd_M_mixed_43 : decode prog_10_method_28_code 43 = .ok (.ior, 1) := by decide +kernel
theorem jd_M_mixed_44 : decode prog_10_method_28_code 44 = .ok (.iload_n 3, 1) := by decide +kernel
theorem jd_M_mixed_45 : decode prog_10_method_28_code 45 = .ok (.iload 4, 2) := by decide +kernel
theorem jd_M_mixed_47 : decode prog_10_method_28_code 47 = .ok (.iand, 1) := by decide +kernel
theorem jd_M_mixed_48 : decode prog_10_method_28_code 48 = .ok (.ior, 1) := by decide +kernel
theorem jd_M_mixed_49 : decode prog_10_method_28_code 49 = .ok (.ireturn, 1) := by decide +kernel
