theorem dX9_init_0 : decode cX9_init 0 = .ok (.aload_n 0, 1) := by decide +kernel
theorem dX9_init_1 : decode cX9_init 1 = .ok (.invokespecial 1, 3) := by decide +kernel
theorem dX9_init_4 : decode cX9_init 4 = .ok (.aload_n 0, 1) := by decide +kernel
theorem dX9_init_5 : decode cX9_init 5 = .ok (.iconst 4, 1) := by decide +kernel
theorem dX9_init_6 : decode cX9_init 6 = .ok (.newarray .int, 2) := by decide +kernel
theorem dX9_init_8 : decode cX9_init 8 = .ok (.dup, 1) := by decide +kernel
theorem dX9_init_9 : decode cX9_init 9 = .ok (.iconst 0, 1) := by decide +kernel
theorem dX9_init_10 : decode cX9_init 10 = .ok (.bipush (-9), 2) := by decide +kernel
theorem dX9_init_12 : decode cX9_init 12 = .ok (.iastore, 1) := by decide +kernel
theorem dX9_init_13 : decode cX9_init 13 = .ok (.dup, 1) := by decide +kernel
theorem dX9_init_14 : decode cX9_init 14 = .ok (.iconst 1, 1) := by decide +kernel
theorem dX9_init_15 : decode cX9_init 15 = .ok (.bipush (-9), 2) := by decide +kernel
theorem dX9_init_17 : decode cX9_init 17 = .ok (.iastore, 1) := by decide +kernel
theorem dX9_init_18 : decode cX9_init 18 = .ok (.dup, 1) := by decide +kernel
theorem dX9_init_19 : decode cX9_init 19 = .ok (.iconst 2, 1) := by decide +kernel
theorem dX9_init_20 : decode cX9_init 20 = .ok (.bipush (-9), 2) := by decide +kernel
theorem dX9_init_22 : decode cX9_init 22 = .ok (.iastore, 1) := by decide +kernel
theorem dX9_init_23 : decode cX9_init 23 = .ok (.dup, 1) := by decide +kernel
theorem dX9_init_24 : decode cX9_init 24 = .ok (.iconst 3, 1) := by decide +kernel
theorem dX9_init_25 : decode cX9_init 25 = .ok (.bipush (-9), 2) := by decide +kernel
theorem dX9_init_27 : decode cX9_init 27 = .ok (.iastore, 1) := by decide +kernel
theorem dX9_init_28 : decode cX9_init 28 = .ok (.putfield 9, 3) := by decide +kernel
theorem dX9_init_31 : decode cX9_init 31 = .ok (.aload_n 0, 1) := by decide +kernel
theorem dX9_init_32 : decode cX9_init 32 = .ok (.iconst 4, 1) := by decide +kernel
theorem dX9_init_33 : decode cX9_init 33 = .ok (.newarray .int, 2) := by decide +kernel
theorem dX9_init_35 : decode cX9_init 35 = .ok (.putfield 13, 3) := by decide +kernel
theorem dX9_init_38 : decode cX9_init 38 = .ok (.aload_n 0, 1) := by decide +kernel
theorem dX9_init_39 : decode cX9_init 39 = .ok (.sipush 200, 3) := by decide +kernel
theorem dX9_init_42 : decode cX9_init 42 = .ok (.newarray .int, 2) := by decide +kernel
theorem dX9_init_44 : decode cX9_init 44 = .ok (.putfield 16, 3) := by decide +kernel
theorem dX9_init_47 : decode cX9_init 47 = .ok (.aload_n 0, 1) := by decide +kernel
theorem dX9_init_48 : decode cX9_init 48 = .ok (.bipush 6, 2) := by decide +kernel
theorem dX9_init_50 : decode cX9_init 50 = .ok (.newarray .int, 2) := by decide +kernel
theorem dX9_init_52 : decode cX9_init 52 = .ok (.putfield 19, 3) := by decide +kernel
theorem dX9_init_55 : decode cX9_init 55 = .ok (.aload_n 0, 1) := by decide +kernel
theorem dX9_init_56 : decode cX9_init 56 = .ok (.bipush 6, 2) := by decide +kernel
theorem dX9_init_58 : decode cX9_init 58 = .ok (.newarray .int, 2) := by decide +kernel
theorem dX9_init_60 : decode cX9_init 60 = .ok (.putfield 22, 3) := by decide +kernel
theorem dX9_init_63 : decode cX9_init 63 = .ok (.aload_n 0, 1) := by decide +kernel
theorem dX9_init_64 : decode cX9_init 64 = .ok (.bipush 6, 2) := by decide +kernel
theorem dX9_init_66 : decode cX9_init 66 = .ok (.newarray .int, 2) := by decide +kernel
theorem dX9_init_68 : decode cX9_init 68 = .ok (.putfield 25, 3) := by decide +kernel
theorem dX9_init_71 : decode cX9_init 71 = .ok (.aload_n 0, 1) := by decide +kernel
theorem dX9_init_72 : decode cX9_init 72 = .ok (.bipush 6, 2) := by decide +kernel
theorem dX9_init_74 : decode cX9_init 74 = .ok (.newarray .boolean, 2) := by decide +kernel
theorem dX9_init_76 : decode cX9_init 76 = .ok (.putfield 28, 3) := by decide +kernel
theorem dX9_init_79 : decode cX9_init 79 = .ok (.aload_n 0, 1) := by decide +kernel
theorem dX9_init_80 : decode cX9_init 80 = .ok (.bipush 6, 2) := by decide +kernel
theorem dX9_init_82 : decode cX9_init 82 = .ok (.newarray .int, 2) := by decide +kernel
theorem dX9_init_84 : decode cX9_init 84 = .ok (.putfield 32, 3) := by decide +kernel
theorem dX9_init_87 : decode cX9_init 87 = .ok (.aload_n 0, 1) := by decide +kernel
theorem dX9_init_88 : decode cX9_init 88 = .ok (.bipush 6, 2) := by decide +kernel
theorem dX9_init_90 : decode cX9_init 90 = .ok (.newarray .int, 2) := by decide +kernel
theorem dX9_init_92 : decode cX9_init 92 = .ok (.putfield 35, 3) := by decide +kernel
theorem dX9_init_95 : decode cX9_init 95 = .ok (.aload_n 0, 1) := by decide +kernel
theorem dX9_init_96 : decode cX9_init 96 = .ok (.bipush 30, 2) := by decide +kernel
theorem dX9_init_98 : decode cX9_init 98 = .ok (.newarray .int, 2) := by decide +kernel
theorem dX9_init_100 : decode cX9_init 100 = .ok (.putfield 38, 3) := by decide +kernel
theorem dX9_init_103 : decode cX9_init 103 = .ok (.aload_n 0, 1) := by decide +kernel
theorem dX9_init_104 : decode cX9_init 104 = .ok (.bipush 30, 2) := by decide +kernel
theorem dX9_init_106 : decode cX9_init 106 = .ok (.newarray .int, 2) := by decide +kernel
theorem dX9_init_108 : decode cX9_init 108 = .ok (.putfield 41, 3) := by decide +kernel
theorem dX9_init_111 : decode cX9_init 111 = .ok (.aload_n 0, 1) := by decide +kernel
theorem dX9_init_112 : decode cX9_init 112 = .ok (.bipush 30, 2) := by decide +kernel
theorem dX9_init_114 : decode cX9_init 114 = .ok (.newarray .boolean, 2) := by decide +kernel
theorem dX9_init_116 : decode cX9_init 116 = .ok (.putfield 44, 3) := by decide +kernel
theorem dX9_init_119 : decode cX9_init 119 = .ok (.aload_n 0, 1) := by decide +kernel
theorem dX9_init_120 : decode cX9_init 120 = .ok (.bipush 6, 2) := by decide +kernel
theorem dX9_init_122 : decode cX9_init 122 = .ok (.newarray .int, 2) := by decide +kernel
theorem dX9_init_124 : decode cX9_init 124 = .ok (.putfield 47, 3) := by decide +kernel
theorem dX9_init_127 : decode cX9_init 127 = .ok (.aload_n 0, 1) := by decide +kernel
theorem dX9_init_128 : decode cX9_init 128 = .ok (.bipush 6, 2) := by decide +kernel
theorem dX9_init_130 : decode cX9_init 130 = .ok (.newarray .int, 2) := by decide +kernel
theorem dX9_init_132 : decode cX9_init 132 = .ok (.putfield 50, 3) := by decide +kernel
theorem dX9_init_135 : decode cX9_init 135 = .ok (.aload_n 0, 1) := by decide +kernel
theorem dX9_init_136 : decode cX9_init 136 = .ok (.bipush 6, 2) := by decide +kernel
theorem dX9_init_138 : decode cX9_init 138 = .ok (.newarray .int, 2) := by decide +kernel
theorem dX9_init_140 : decode cX9_init 140 = .ok (.putfield 53, 3) := by decide +kernel
theorem dX9_init_143 : decode cX9_init 143 = .ok (.aload_n 0, 1) := by decide +kernel
theorem dX9_init_144 : decode cX9_init 144 = .ok (.bipush 6, 2) := by decide +kernel
theorem dX9_init_146 : decode cX9_init 146 = .ok (.newarray .int, 2) := by decide +kernel
theorem dX9_init_148 : decode cX9_init 148 = .ok (.putfield 56, 3) := by decide +kernel
theorem dX9_init_151 : decode cX9_init 151 = .ok (.aload_n 0, 1) := by decide +kernel
theorem dX9_init_152 : decode cX9_init 152 = .ok (.bipush 6, 2) := by decide +kernel
theorem dX9_init_154 : decode cX9_init 154 = .ok (.newarray .int, 2) := by decide +kernel
theorem dX9_init_156 : decode cX9_init 156 = .ok (.putfield 59, 3) := by decide +kernel
theorem dX9_init_159 : decode cX9_init 159 = .ok (.aload_n 0, 1) := by decide +kernel
theorem dX9_init_160 : decode cX9_init 160 = .ok (.bipush 7, 2) := by decide +kernel
theorem dX9_init_162 : decode cX9_init 162 = .ok (.newarray .int, 2) := by decide +kernel
theorem dX9_init_164 : decode cX9_init 164 = .ok (.putfield 62, 3) := by decide +kernel
theorem dX9_init_167 : decode cX9_init 167 = .ok (.aload_n 0, 1) := by decide +kernel
theorem dX9_init_168 : decode cX9_init 168 = .ok (.bipush 7, 2) := by decide +kernel
theorem dX9_init_170 : decode cX9_init 170 = .ok (.newarray .int, 2) := by decide +kernel
theorem dX9_init_172 : decode cX9_init 172 = .ok (.putfield 65, 3) := by decide +kernel
theorem dX9_init_175 : decode cX9_init 175 = .ok (.aload_n 0, 1) := by decide +kernel
theorem dX9_init_176 : decode cX9_init 176 = .ok (.bipush 6, 2) := by decide +kernel
theorem dX9_init_178 : decode cX9_init 178 = .ok (.newarray .int, 2) := by decide +kernel
theorem dX9_init_180 : decode cX9_init 180 = .ok (.putfield 68, 3) := by decide +kernel
theorem dX9_init_183 : decode cX9_init 183 = .ok (.aload_n 0, 1) := by decide +kernel
theorem dX9_init_184 : decode cX9_init 184 = .ok (.bipush 6, 2) := by decide +kernel
theorem dX9_init_186 : decode cX9_init 186 = .ok (.newarray .int, 2) := by decide +kernel
theorem dX9_init_188 : decode cX9_init 188 = .ok (.putfield 71, 3) := by decide +kernel
theorem dX9_init_191 : decode cX9_init 191 = .ok (.aload_n 0, 1) := by decide +kernel
theorem dX9_init_192 : decode cX9_init 192 = .ok (.bipush 6, 2) := by decide +kernel
theorem dX9_init_194 : decode cX9_init 194 = .ok (.newarray .int, 2) := by decide +kernel
theorem dX9_init_196 : decode cX9_init 196 = .ok (.putfield 74, 3) := by decide +kernel
theorem dX9_init_199 : decode cX9_init 199 = .ok (.aload_n 0, 1) := by decide +kernel
theorem dX9_init_200 : decode cX9_init 200 = .ok (.iconst 4, 1) := by decide +kernel
theorem dX9_init_201 : decode cX9_init 201 = .ok (.newarray .int, 2) := by decide +kernel
theorem dX9_init_203 : decode cX9_init 203 = .ok (.putfield 77, 3) := by decide +kernel
theorem dX9_init_206 : decode cX9_init 206 = .ok (.aload_n 0, 1) := by decide +kernel
theorem dX9_init_207 : decode cX9_init 207 = .ok (.bipush (-9), 2) := by decide +kernel
theorem dX9_init_209 : decode cX9_init 209 = .ok (.putfield 80, 3) := by decide +kernel
theorem dX9_init_212 : decode cX9_init 212 = .ok (.aload_n 0, 1) := by decide +kernel
theorem dX9_init_213 : decode cX9_init 213 = .ok (.bipush 30, 2) := by decide +kernel
theorem dX9_init_215 : decode cX9_init 215 = .ok (.newarray .int, 2) := by decide +kernel
theorem dX9_init_217 : decode cX9_init 217 = .ok (.putfield 84, 3) := by decide +kernel
theorem dX9_init_220 : decode cX9_init 220 = .ok (.aload_n 0, 1) := by decide +kernel
theorem dX9_init_221 : decode cX9_init 221 = .ok (.bipush 8, 2) := by decide +kernel
theorem dX9_init_223 : decode cX9_init 223 = .ok (.newarray .int, 2) := by decide +kernel
theorem dX9_init_225 : decode cX9_init 225 = .ok (.putfield 87, 3) := by decide +kernel
theorem dX9_init_228 : decode cX9_init 228 = .ok (.aload_n 0, 1) := by decide +kernel
theorem dX9_init_229 : decode cX9_init 229 = .ok (.bipush 8, 2) := by decide +kernel
theorem dX9_init_231 : decode cX9_init 231 = .ok (.newarray .int, 2) := by decide +kernel
theorem dX9_init_233 : decode cX9_init 233 = .ok (.putfield 90, 3) := by decide +kernel
theorem dX9_init_236 : decode cX9_init 236 = .ok (.aload_n 0, 1) := by decide +kernel
theorem dX9_init_237 : decode cX9_init 237 = .ok (.bipush 8, 2) := by decide +kernel
theorem dX9_init_239 : decode cX9_init 239 = .ok (.newarray .boolean, 2) := by decide +kernel
theorem dX9_init_241 : decode cX9_init 241 = .ok (.putfield 93, 3) := by decide +kernel
theorem dX9_init_244 : decode cX9_init 244 = .ok (.return_, 1) := by decide +kernel
theorem dX9_fails_0 : decode cX9_fails 0 = .ok (.aload_n 0, 1) := by decide +kernel
theorem dX9_fails_1 : decode cX9_fails 1 = .ok (.iload_n 1, 1) := by decide +kernel
theorem dX9_fails_2 : decode cX9_fails 2 = .ok (.putfield 96, 3) := by decide +kernel
theorem dX9_fails_5 : decode cX9_fails 5 = .ok (.bipush (-10), 2) := by decide +kernel
theorem dX9_fails_7 : decode cX9_fails 7 = .ok (.iload_n 1, 1) := by decide +kernel
theorem dX9_fails_8 : decode cX9_fails 8 = .ok (.isub, 1) := by decide +kernel
theorem dX9_fails_9 : decode cX9_fails 9 = .ok (.ireturn, 1) := by decide +kernel
theorem dX9_lost_0 : decode cX9_lost 0 = .ok (.aload_n 0, 1) := by decide +kernel
theorem dX9_lost_1 : decode cX9_lost 1 = .ok (.iload_n 1, 1) := by decide +kernel
theorem dX9_lost_2 : decode cX9_lost 2 = .ok (.putfield 96, 3) := by decide +kernel
theorem dX9_lost_5 : decode cX9_lost 5 = .ok (.ldc2_w 99, 3) := by decide +kernel
theorem dX9_lost_8 : decode cX9_lost 8 = .ok (.lreturn, 1) := by decide +kernel
theorem dX9_within_0 : decode cX9_within 0 = .ok (.iload_n 0, 1) := by decide +kernel
theorem dX9_within_1 : decode cX9_within 1 = .ok (.iload_n 1, 1) := by decide +kernel
theorem dX9_within_2 : decode cX9_within 2 = .ok (.if_icmp .lt 12, 3) := by decide +kernel
theorem dX9_within_5 : decode cX9_within 5 = .ok (.iload_n 0, 1) := by decide +kernel
theorem dX9_within_6 : decode cX9_within 6 = .ok (.iload_n 2, 1) := by decide +kernel
theorem dX9_within_7 : decode cX9_within 7 = .ok (.if_icmp .gt 7, 3) := by decide +kernel
theorem dX9_within_10 : decode cX9_within 10 = .ok (.iconst 1, 1) := by decide +kernel
theorem dX9_within_11 : decode cX9_within 11 = .ok (.goto 4, 3) := by decide +kernel
theorem dX9_within_14 : decode cX9_within 14 = .ok (.iconst 0, 1) := by decide +kernel
theorem dX9_within_15 : decode cX9_within 15 = .ok (.ireturn, 1) := by decide +kernel
theorem dX9_isSheet_0 : decode cX9_isSheet 0 = .ok (.iload_n 0, 1) := by decide +kernel
theorem dX9_isSheet_1 : decode cX9_isSheet 1 = .ok (.iconst 0, 1) := by decide +kernel
theorem dX9_isSheet_2 : decode cX9_isSheet 2 = .ok (.iconst 3, 1) := by decide +kernel
theorem dX9_isSheet_3 : decode cX9_isSheet 3 = .ok (.invokestatic 101, 3) := by decide +kernel
theorem dX9_isSheet_6 : decode cX9_isSheet 6 = .ok (.ireturn, 1) := by decide +kernel
theorem dX9_isSort_0 : decode cX9_isSort 0 = .ok (.iload_n 0, 1) := by decide +kernel
theorem dX9_isSort_1 : decode cX9_isSort 1 = .ok (.iconst 0, 1) := by decide +kernel
theorem dX9_isSort_2 : decode cX9_isSort 2 = .ok (.iconst 2, 1) := by decide +kernel
theorem dX9_isSort_3 : decode cX9_isSort 3 = .ok (.invokestatic 101, 3) := by decide +kernel
theorem dX9_isSort_6 : decode cX9_isSort 6 = .ok (.ireturn, 1) := by decide +kernel
theorem dX9_against_0 : decode cX9_against 0 = .ok (.aload_n 0, 1) := by decide +kernel
theorem dX9_against_1 : decode cX9_against 1 = .ok (.getfield 9, 3) := by decide +kernel
theorem dX9_against_4 : decode cX9_against 4 = .ok (.iload_n 1, 1) := by decide +kernel
theorem dX9_against_5 : decode cX9_against 5 = .ok (.iaload, 1) := by decide +kernel
theorem dX9_against_6 : decode cX9_against 6 = .ok (.bipush (-9), 2) := by decide +kernel
theorem dX9_against_8 : decode cX9_against 8 = .ok (.if_icmp .eq 15, 3) := by decide +kernel
theorem dX9_against_11 : decode cX9_against 11 = .ok (.aload_n 0, 1) := by decide +kernel
theorem dX9_against_12 : decode cX9_against 12 = .ok (.getfield 9, 3) := by decide +kernel
theorem dX9_against_15 : decode cX9_against 15 = .ok (.iload_n 1, 1) := by decide +kernel
theorem dX9_against_16 : decode cX9_against 16 = .ok (.iaload, 1) := by decide +kernel
theorem dX9_against_17 : decode cX9_against 17 = .ok (.iload_n 2, 1) := by decide +kernel
theorem dX9_against_18 : decode cX9_against 18 = .ok (.if_icmp .eq 5, 3) := by decide +kernel
theorem dX9_against_21 : decode cX9_against 21 = .ok (.iconst 2, 1) := by decide +kernel
theorem dX9_against_22 : decode cX9_against 22 = .ok (.ireturn, 1) := by decide +kernel
theorem dX9_against_23 : decode cX9_against 23 = .ok (.aload_n 0, 1) := by decide +kernel
theorem dX9_against_24 : decode cX9_against 24 = .ok (.getfield 9, 3) := by decide +kernel
theorem dX9_against_27 : decode cX9_against 27 = .ok (.iload_n 1, 1) := by decide +kernel
theorem dX9_against_28 : decode cX9_against 28 = .ok (.iaload, 1) := by decide +kernel
theorem dX9_against_29 : decode cX9_against 29 = .ok (.bipush (-9), 2) := by decide +kernel
theorem dX9_against_31 : decode cX9_against 31 = .ok (.if_icmp .ne 5, 3) := by decide +kernel
theorem dX9_against_34 : decode cX9_against 34 = .ok (.iconst 1, 1) := by decide +kernel
theorem dX9_against_35 : decode cX9_against 35 = .ok (.ireturn, 1) := by decide +kernel
theorem dX9_against_36 : decode cX9_against 36 = .ok (.iload 4, 2) := by decide +kernel
theorem dX9_against_38 : decode cX9_against 38 = .ok (.ifCond .ge 5, 3) := by decide +kernel
theorem dX9_against_41 : decode cX9_against 41 = .ok (.iconst 4, 1) := by decide +kernel
theorem dX9_against_42 : decode cX9_against 42 = .ok (.ireturn, 1) := by decide +kernel
theorem dX9_against_43 : decode cX9_against 43 = .ok (.iload_n 3, 1) := by decide +kernel
theorem dX9_against_44 : decode cX9_against 44 = .ok (.ifCond .lt 26, 3) := by decide +kernel
theorem dX9_against_47 : decode cX9_against 47 = .ok (.iload_n 3, 1) := by decide +kernel
theorem dX9_against_48 : decode cX9_against 48 = .ok (.aload_n 0, 1) := by decide +kernel
theorem dX9_against_49 : decode cX9_against 49 = .ok (.getfield 13, 3) := by decide +kernel
theorem dX9_against_52 : decode cX9_against 52 = .ok (.iload_n 1, 1) := by decide +kernel
theorem dX9_against_53 : decode cX9_against 53 = .ok (.iaload, 1) := by decide +kernel
theorem dX9_against_54 : decode cX9_against 54 = .ok (.if_icmp .gt 16, 3) := by decide +kernel
theorem dX9_against_57 : decode cX9_against 57 = .ok (.iload 4, 2) := by decide +kernel
theorem dX9_against_59 : decode cX9_against 59 = .ok (.aload_n 0, 1) := by decide +kernel
theorem dX9_against_60 : decode cX9_against 60 = .ok (.getfield 13, 3) := by decide +kernel
theorem dX9_against_63 : decode cX9_against 63 = .ok (.iload_n 1, 1) := by decide +kernel
theorem dX9_against_64 : decode cX9_against 64 = .ok (.iaload, 1) := by decide +kernel
theorem dX9_against_65 : decode cX9_against 65 = .ok (.iload_n 3, 1) := by decide +kernel
theorem dX9_against_66 : decode cX9_against 66 = .ok (.isub, 1) := by decide +kernel
theorem dX9_against_67 : decode cX9_against 67 = .ok (.if_icmp .le 7, 3) := by decide +kernel
theorem dX9_against_70 : decode cX9_against 70 = .ok (.iconst 3, 1) := by decide +kernel
theorem dX9_against_71 : decode cX9_against 71 = .ok (.goto 4, 3) := by decide +kernel
theorem dX9_against_74 : decode cX9_against 74 = .ok (.iconst 0, 1) := by decide +kernel
theorem dX9_against_75 : decode cX9_against 75 = .ok (.ireturn, 1) := by decide +kernel
theorem dX9_isTree_0 : decode cX9_isTree 0 = .ok (.iload_n 1, 1) := by decide +kernel
theorem dX9_isTree_1 : decode cX9_isTree 1 = .ok (.ifCond .lt 15, 3) := by decide +kernel
theorem dX9_isTree_4 : decode cX9_isTree 4 = .ok (.iload_n 1, 1) := by decide +kernel
theorem dX9_isTree_5 : decode cX9_isTree 5 = .ok (.aload_n 0, 1) := by decide +kernel
theorem dX9_isTree_6 : decode cX9_isTree 6 = .ok (.getfield 105, 3) := by decide +kernel
theorem dX9_isTree_9 : decode cX9_isTree 9 = .ok (.if_icmp .ge 7, 3) := by decide +kernel
theorem dX9_isTree_12 : decode cX9_isTree 12 = .ok (.iconst 1, 1) := by decide +kernel
theorem dX9_isTree_13 : decode cX9_isTree 13 = .ok (.goto 4, 3) := by decide +kernel
theorem dX9_isTree_16 : decode cX9_isTree 16 = .ok (.iconst 0, 1) := by decide +kernel
theorem dX9_isTree_17 : decode cX9_isTree 17 = .ok (.ireturn, 1) := by decide +kernel
theorem dX9_isPrisoner_0 : decode cX9_isPrisoner 0 = .ok (.iload_n 1, 1) := by decide +kernel
theorem dX9_isPrisoner_1 : decode cX9_isPrisoner 1 = .ok (.ifCond .lt 15, 3) := by decide +kernel
theorem dX9_isPrisoner_4 : decode cX9_isPrisoner 4 = .ok (.iload_n 1, 1) := by decide +kernel
theorem dX9_isPrisoner_5 : decode cX9_isPrisoner 5 = .ok (.aload_n 0, 1) := by decide +kernel
theorem dX9_isPrisoner_6 : decode cX9_isPrisoner 6 = .ok (.getfield 108, 3) := by decide +kernel
theorem dX9_isPrisoner_9 : decode cX9_isPrisoner 9 = .ok (.if_icmp .ge 7, 3) := by decide +kernel
theorem dX9_isPrisoner_12 : decode cX9_isPrisoner 12 = .ok (.iconst 1, 1) := by decide +kernel
theorem dX9_isPrisoner_13 : decode cX9_isPrisoner 13 = .ok (.goto 4, 3) := by decide +kernel
theorem dX9_isPrisoner_16 : decode cX9_isPrisoner 16 = .ok (.iconst 0, 1) := by decide +kernel
theorem dX9_isPrisoner_17 : decode cX9_isPrisoner 17 = .ok (.ireturn, 1) := by decide +kernel
theorem dX9_isDay_0 : decode cX9_isDay 0 = .ok (.iload_n 0, 1) := by decide +kernel
theorem dX9_isDay_1 : decode cX9_isDay 1 = .ok (.iconst 0, 1) := by decide +kernel
theorem dX9_isDay_2 : decode cX9_isDay 2 = .ok (.bipush 29, 2) := by decide +kernel
theorem dX9_isDay_4 : decode cX9_isDay 4 = .ok (.invokestatic 101, 3) := by decide +kernel
theorem dX9_isDay_7 : decode cX9_isDay 7 = .ok (.ireturn, 1) := by decide +kernel
theorem dX9_digit_0 : decode cX9_digit 0 = .ok (.aload_n 0, 1) := by decide +kernel
theorem dX9_digit_1 : decode cX9_digit 1 = .ok (.getfield 111, 3) := by decide +kernel
theorem dX9_digit_4 : decode cX9_digit 4 = .ok (.iload_n 1, 1) := by decide +kernel
theorem dX9_digit_5 : decode cX9_digit 5 = .ok (.if_icmp .ge 26, 3) := by decide +kernel
theorem dX9_digit_8 : decode cX9_digit 8 = .ok (.aload_n 0, 1) := by decide +kernel
theorem dX9_digit_9 : decode cX9_digit 9 = .ok (.getfield 16, 3) := by decide +kernel
theorem dX9_digit_12 : decode cX9_digit 12 = .ok (.aload_n 0, 1) := by decide +kernel
theorem dX9_digit_13 : decode cX9_digit 13 = .ok (.getfield 111, 3) := by decide +kernel
theorem dX9_digit_16 : decode cX9_digit 16 = .ok (.iaload, 1) := by decide +kernel
theorem dX9_digit_17 : decode cX9_digit 17 = .ok (.bipush 48, 2) := by decide +kernel
theorem dX9_digit_19 : decode cX9_digit 19 = .ok (.iload_n 2, 1) := by decide +kernel
theorem dX9_digit_20 : decode cX9_digit 20 = .ok (.iadd, 1) := by decide +kernel
theorem dX9_digit_21 : decode cX9_digit 21 = .ok (.bipush 48, 2) := by decide +kernel
theorem dX9_digit_23 : decode cX9_digit 23 = .ok (.iload_n 3, 1) := by decide +kernel
theorem dX9_digit_24 : decode cX9_digit 24 = .ok (.iadd, 1) := by decide +kernel
theorem dX9_digit_25 : decode cX9_digit 25 = .ok (.invokestatic 101, 3) := by decide +kernel
theorem dX9_digit_28 : decode cX9_digit 28 = .ok (.ifCond .ne 6, 3) := by decide +kernel
theorem dX9_digit_31 : decode cX9_digit 31 = .ok (.bipush (-9), 2) := by decide +kernel
theorem dX9_digit_33 : decode cX9_digit 33 = .ok (.ireturn, 1) := by decide +kernel
theorem dX9_digit_34 : decode cX9_digit 34 = .ok (.aload_n 0, 1) := by decide +kernel
theorem dX9_digit_35 : decode cX9_digit 35 = .ok (.dup, 1) := by decide +kernel
theorem dX9_digit_36 : decode cX9_digit 36 = .ok (.getfield 111, 3) := by decide +kernel
theorem dX9_digit_39 : decode cX9_digit 39 = .ok (.iconst 1, 1) := by decide +kernel
theorem dX9_digit_40 : decode cX9_digit 40 = .ok (.iadd, 1) := by decide +kernel
theorem dX9_digit_41 : decode cX9_digit 41 = .ok (.putfield 111, 3) := by decide +kernel
theorem dX9_digit_44 : decode cX9_digit 44 = .ok (.aload_n 0, 1) := by decide +kernel
theorem dX9_digit_45 : decode cX9_digit 45 = .ok (.getfield 16, 3) := by decide +kernel
theorem dX9_digit_48 : decode cX9_digit 48 = .ok (.aload_n 0, 1) := by decide +kernel
theorem dX9_digit_49 : decode cX9_digit 49 = .ok (.getfield 111, 3) := by decide +kernel
theorem dX9_digit_52 : decode cX9_digit 52 = .ok (.iconst 1, 1) := by decide +kernel
theorem dX9_digit_53 : decode cX9_digit 53 = .ok (.isub, 1) := by decide +kernel
theorem dX9_digit_54 : decode cX9_digit 54 = .ok (.iaload, 1) := by decide +kernel
theorem dX9_digit_55 : decode cX9_digit 55 = .ok (.bipush 48, 2) := by decide +kernel
theorem dX9_digit_57 : decode cX9_digit 57 = .ok (.isub, 1) := by decide +kernel
theorem dX9_digit_58 : decode cX9_digit 58 = .ok (.ireturn, 1) := by decide +kernel
theorem dX9_orchard_0 : decode cX9_orchard 0 = .ok (.aload_n 0, 1) := by decide +kernel
theorem dX9_orchard_1 : decode cX9_orchard 1 = .ok (.iconst 0, 1) := by decide +kernel
theorem dX9_orchard_2 : decode cX9_orchard 2 = .ok (.putfield 96, 3) := by decide +kernel
theorem dX9_orchard_5 : decode cX9_orchard 5 = .ok (.iload_n 1, 1) := by decide +kernel
theorem dX9_orchard_6 : decode cX9_orchard 6 = .ok (.invokestatic 114, 3) := by decide +kernel
theorem dX9_orchard_9 : decode cX9_orchard 9 = .ok (.ifCond .ne 5, 3) := by decide +kernel
theorem dX9_orchard_12 : decode cX9_orchard 12 = .ok (.iconst (-1), 1) := by decide +kernel
theorem dX9_orchard_13 : decode cX9_orchard 13 = .ok (.ireturn, 1) := by decide +kernel
theorem dX9_orchard_14 : decode cX9_orchard 14 = .ok (.iload_n 2, 1) := by decide +kernel
theorem dX9_orchard_15 : decode cX9_orchard 15 = .ok (.invokestatic 118, 3) := by decide +kernel
theorem dX9_orchard_18 : decode cX9_orchard 18 = .ok (.ifCond .ne 6, 3) := by decide +kernel
theorem dX9_orchard_21 : decode cX9_orchard 21 = .ok (.bipush (-2), 2) := by decide +kernel
theorem dX9_orchard_23 : decode cX9_orchard 23 = .ok (.ireturn, 1) := by decide +kernel
theorem dX9_orchard_24 : decode cX9_orchard 24 = .ok (.aload_n 0, 1) := by decide +kernel
theorem dX9_orchard_25 : decode cX9_orchard 25 = .ok (.iload_n 1, 1) := by decide +kernel
theorem dX9_orchard_26 : decode cX9_orchard 26 = .ok (.iload_n 2, 1) := by decide +kernel
theorem dX9_orchard_27 : decode cX9_orchard 27 = .ok (.iload_n 3, 1) := by decide +kernel
theorem dX9_orchard_28 : decode cX9_orchard 28 = .ok (.iload 4, 2) := by decide +kernel
theorem dX9_orchard_30 : decode cX9_orchard 30 = .ok (.invokevirtual 121, 3) := by decide +kernel
theorem dX9_orchard_33 : decode cX9_orchard 33 = .ok (.istore 5, 2) := by decide +kernel
theorem dX9_orchard_35 : decode cX9_orchard 35 = .ok (.iload 5, 2) := by decide +kernel
theorem dX9_orchard_37 : decode cX9_orchard 37 = .ok (.ifCond .eq 10, 3) := by decide +kernel
theorem dX9_orchard_40 : decode cX9_orchard 40 = .ok (.aload_n 0, 1) := by decide +kernel
theorem dX9_orchard_41 : decode cX9_orchard 41 = .ok (.iload 5, 2) := by decide +kernel
theorem dX9_orchard_43 : decode cX9_orchard 43 = .ok (.invokevirtual 125, 3) := by decide +kernel
theorem dX9_orchard_46 : decode cX9_orchard 46 = .ok (.ireturn, 1) := by decide +kernel
theorem dX9_orchard_47 : decode cX9_orchard 47 = .ok (.bipush 50, 2) := by decide +kernel
theorem dX9_orchard_49 : decode cX9_orchard 49 = .ok (.iload_n 1, 1) := by decide +kernel
theorem dX9_orchard_50 : decode cX9_orchard 50 = .ok (.imul, 1) := by decide +kernel
theorem dX9_orchard_51 : decode cX9_orchard 51 = .ok (.iload_n 3, 1) := by decide +kernel
theorem dX9_orchard_52 : decode cX9_orchard 52 = .ok (.iadd, 1) := by decide +kernel
theorem dX9_orchard_53 : decode cX9_orchard 53 = .ok (.istore 6, 2) := by decide +kernel
theorem dX9_orchard_55 : decode cX9_orchard 55 = .ok (.aload_n 0, 1) := by decide +kernel
theorem dX9_orchard_56 : decode cX9_orchard 56 = .ok (.iload 6, 2) := by decide +kernel
theorem dX9_orchard_58 : decode cX9_orchard 58 = .ok (.putfield 111, 3) := by decide +kernel
theorem dX9_orchard_61 : decode cX9_orchard 61 = .ok (.aload_n 0, 1) := by decide +kernel
theorem dX9_orchard_62 : decode cX9_orchard 62 = .ok (.iload 6, 2) := by decide +kernel
theorem dX9_orchard_64 : decode cX9_orchard 64 = .ok (.iload 4, 2) := by decide +kernel
theorem dX9_orchard_66 : decode cX9_orchard 66 = .ok (.iadd, 1) := by decide +kernel
theorem dX9_orchard_67 : decode cX9_orchard 67 = .ok (.invokevirtual 129, 3) := by decide +kernel
theorem dX9_orchard_70 : decode cX9_orchard 70 = .ok (.ifCond .ne 14, 3) := by decide +kernel
theorem dX9_orchard_73 : decode cX9_orchard 73 = .ok (.bipush (-100), 2) := by decide +kernel
theorem dX9_orchard_75 : decode cX9_orchard 75 = .ok (.aload_n 0, 1) := by decide +kernel
theorem dX9_orchard_76 : decode cX9_orchard 76 = .ok (.getfield 111, 3) := by decide +kernel
theorem dX9_orchard_79 : decode cX9_orchard 79 = .ok (.iload 6, 2) := by decide +kernel
theorem dX9_orchard_81 : decode cX9_orchard 81 = .ok (.isub, 1) := by decide +kernel
theorem dX9_orchard_82 : decode cX9_orchard 82 = .ok (.isub, 1) := by decide +kernel
theorem dX9_orchard_83 : decode cX9_orchard 83 = .ok (.ireturn, 1) := by decide +kernel
theorem dX9_orchard_84 : decode cX9_orchard 84 = .ok (.aload_n 0, 1) := by decide +kernel
theorem dX9_orchard_85 : decode cX9_orchard 85 = .ok (.aload_n 0, 1) := by decide +kernel
theorem dX9_orchard_86 : decode cX9_orchard 86 = .ok (.getfield 132, 3) := by decide +kernel
theorem dX9_orchard_89 : decode cX9_orchard 89 = .ok (.putfield 105, 3) := by decide +kernel
theorem dX9_orchard_92 : decode cX9_orchard 92 = .ok (.aload_n 0, 1) := by decide +kernel
theorem dX9_orchard_93 : decode cX9_orchard 93 = .ok (.aload_n 0, 1) := by decide +kernel
theorem dX9_orchard_94 : decode cX9_orchard 94 = .ok (.getfield 135, 3) := by decide +kernel
theorem dX9_orchard_97 : decode cX9_orchard 97 = .ok (.putfield 108, 3) := by decide +kernel
theorem dX9_orchard_100 : decode cX9_orchard 100 = .ok (.iconst 0, 1) := by decide +kernel
theorem dX9_orchard_101 : decode cX9_orchard 101 = .ok (.istore 7, 2) := by decide +kernel
theorem dX9_orchard_103 : decode cX9_orchard 103 = .ok (.iload 7, 2) := by decide +kernel
theorem dX9_orchard_105 : decode cX9_orchard 105 = .ok (.aload_n 0, 1) := by decide +kernel
theorem dX9_orchard_106 : decode cX9_orchard 106 = .ok (.getfield 105, 3) := by decide +kernel
theorem dX9_orchard_109 : decode cX9_orchard 109 = .ok (.if_icmp .ge 59, 3) := by decide +kernel
theorem dX9_orchard_112 : decode cX9_orchard 112 = .ok (.aload_n 0, 1) := by decide +kernel
theorem dX9_orchard_113 : decode cX9_orchard 113 = .ok (.getfield 19, 3) := by decide +kernel
theorem dX9_orchard_116 : decode cX9_orchard 116 = .ok (.iload 7, 2) := by decide +kernel
theorem dX9_orchard_118 : decode cX9_orchard 118 = .ok (.aload_n 0, 1) := by decide +kernel
theorem dX9_orchard_119 : decode cX9_orchard 119 = .ok (.getfield 47, 3) := by decide +kernel
theorem dX9_orchard_122 : decode cX9_orchard 122 = .ok (.iload 7, 2) := by decide +kernel
theorem dX9_orchard_124 : decode cX9_orchard 124 = .ok (.iaload, 1) := by decide +kernel
theorem dX9_orchard_125 : decode cX9_orchard 125 = .ok (.iastore, 1) := by decide +kernel
theorem dX9_orchard_126 : decode cX9_orchard 126 = .ok (.aload_n 0, 1) := by decide +kernel
theorem dX9_orchard_127 : decode cX9_orchard 127 = .ok (.getfield 22, 3) := by decide +kernel
theorem dX9_orchard_130 : decode cX9_orchard 130 = .ok (.iload 7, 2) := by decide +kernel
theorem dX9_orchard_132 : decode cX9_orchard 132 = .ok (.aload_n 0, 1) := by decide +kernel
theorem dX9_orchard_133 : decode cX9_orchard 133 = .ok (.getfield 50, 3) := by decide +kernel
theorem dX9_orchard_136 : decode cX9_orchard 136 = .ok (.iload 7, 2) := by decide +kernel
theorem dX9_orchard_138 : decode cX9_orchard 138 = .ok (.iaload, 1) := by decide +kernel
theorem dX9_orchard_139 : decode cX9_orchard 139 = .ok (.iastore, 1) := by decide +kernel
theorem dX9_orchard_140 : decode cX9_orchard 140 = .ok (.aload_n 0, 1) := by decide +kernel
theorem dX9_orchard_141 : decode cX9_orchard 141 = .ok (.getfield 25, 3) := by decide +kernel
theorem dX9_orchard_144 : decode cX9_orchard 144 = .ok (.iload 7, 2) := by decide +kernel
theorem dX9_orchard_146 : decode cX9_orchard 146 = .ok (.aload_n 0, 1) := by decide +kernel
theorem dX9_orchard_147 : decode cX9_orchard 147 = .ok (.getfield 53, 3) := by decide +kernel
theorem dX9_orchard_150 : decode cX9_orchard 150 = .ok (.iload 7, 2) := by decide +kernel
theorem dX9_orchard_152 : decode cX9_orchard 152 = .ok (.iaload, 1) := by decide +kernel
theorem dX9_orchard_153 : decode cX9_orchard 153 = .ok (.iastore, 1) := by decide +kernel
theorem dX9_orchard_154 : decode cX9_orchard 154 = .ok (.aload_n 0, 1) := by decide +kernel
theorem dX9_orchard_155 : decode cX9_orchard 155 = .ok (.getfield 28, 3) := by decide +kernel
theorem dX9_orchard_158 : decode cX9_orchard 158 = .ok (.iload 7, 2) := by decide +kernel
theorem dX9_orchard_160 : decode cX9_orchard 160 = .ok (.iconst 0, 1) := by decide +kernel
theorem dX9_orchard_161 : decode cX9_orchard 161 = .ok (.bastore, 1) := by decide +kernel
theorem dX9_orchard_162 : decode cX9_orchard 162 = .ok (.iinc 7 1, 3) := by decide +kernel
theorem dX9_orchard_165 : decode cX9_orchard 165 = .ok (.goto (-62), 3) := by decide +kernel
theorem dX9_orchard_168 : decode cX9_orchard 168 = .ok (.iconst 0, 1) := by decide +kernel
theorem dX9_orchard_169 : decode cX9_orchard 169 = .ok (.istore 7, 2) := by decide +kernel
theorem dX9_orchard_171 : decode cX9_orchard 171 = .ok (.iload 7, 2) := by decide +kernel
theorem dX9_orchard_173 : decode cX9_orchard 173 = .ok (.aload_n 0, 1) := by decide +kernel
theorem dX9_orchard_174 : decode cX9_orchard 174 = .ok (.getfield 108, 3) := by decide +kernel
theorem dX9_orchard_177 : decode cX9_orchard 177 = .ok (.if_icmp .ge 37, 3) := by decide +kernel
theorem dX9_orchard_180 : decode cX9_orchard 180 = .ok (.aload_n 0, 1) := by decide +kernel
theorem dX9_orchard_181 : decode cX9_orchard 181 = .ok (.getfield 32, 3) := by decide +kernel
theorem dX9_orchard_184 : decode cX9_orchard 184 = .ok (.iload 7, 2) := by decide +kernel
theorem dX9_orchard_186 : decode cX9_orchard 186 = .ok (.aload_n 0, 1) := by decide +kernel
theorem dX9_orchard_187 : decode cX9_orchard 187 = .ok (.getfield 56, 3) := by decide +kernel
theorem dX9_orchard_190 : decode cX9_orchard 190 = .ok (.iload 7, 2) := by decide +kernel
theorem dX9_orchard_192 : decode cX9_orchard 192 = .ok (.iaload, 1) := by decide +kernel
theorem dX9_orchard_193 : decode cX9_orchard 193 = .ok (.iastore, 1) := by decide +kernel
theorem dX9_orchard_194 : decode cX9_orchard 194 = .ok (.aload_n 0, 1) := by decide +kernel
theorem dX9_orchard_195 : decode cX9_orchard 195 = .ok (.getfield 35, 3) := by decide +kernel
theorem dX9_orchard_198 : decode cX9_orchard 198 = .ok (.iload 7, 2) := by decide +kernel
theorem dX9_orchard_200 : decode cX9_orchard 200 = .ok (.aload_n 0, 1) := by decide +kernel
theorem dX9_orchard_201 : decode cX9_orchard 201 = .ok (.getfield 59, 3) := by decide +kernel
theorem dX9_orchard_204 : decode cX9_orchard 204 = .ok (.iload 7, 2) := by decide +kernel
theorem dX9_orchard_206 : decode cX9_orchard 206 = .ok (.iaload, 1) := by decide +kernel
theorem dX9_orchard_207 : decode cX9_orchard 207 = .ok (.iastore, 1) := by decide +kernel
theorem dX9_orchard_208 : decode cX9_orchard 208 = .ok (.iinc 7 1, 3) := by decide +kernel
theorem dX9_orchard_211 : decode cX9_orchard 211 = .ok (.goto (-40), 3) := by decide +kernel
theorem dX9_orchard_214 : decode cX9_orchard 214 = .ok (.iconst 0, 1) := by decide +kernel
theorem dX9_orchard_215 : decode cX9_orchard 215 = .ok (.istore 7, 2) := by decide +kernel
theorem dX9_orchard_217 : decode cX9_orchard 217 = .ok (.iload 7, 2) := by decide +kernel
theorem dX9_orchard_219 : decode cX9_orchard 219 = .ok (.bipush 30, 2) := by decide +kernel
theorem dX9_orchard_221 : decode cX9_orchard 221 = .ok (.if_icmp .ge 34, 3) := by decide +kernel
theorem dX9_orchard_224 : decode cX9_orchard 224 = .ok (.aload_n 0, 1) := by decide +kernel
theorem dX9_orchard_225 : decode cX9_orchard 225 = .ok (.getfield 38, 3) := by decide +kernel
theorem dX9_orchard_228 : decode cX9_orchard 228 = .ok (.iload 7, 2) := by decide +kernel
theorem dX9_orchard_230 : decode cX9_orchard 230 = .ok (.iconst 0, 1) := by decide +kernel
theorem dX9_orchard_231 : decode cX9_orchard 231 = .ok (.iastore, 1) := by decide +kernel
theorem dX9_orchard_232 : decode cX9_orchard 232 = .ok (.aload_n 0, 1) := by decide +kernel
theorem dX9_orchard_233 : decode cX9_orchard 233 = .ok (.getfield 41, 3) := by decide +kernel
theorem dX9_orchard_236 : decode cX9_orchard 236 = .ok (.iload 7, 2) := by decide +kernel
theorem dX9_orchard_238 : decode cX9_orchard 238 = .ok (.bipush (-9), 2) := by decide +kernel
theorem dX9_orchard_240 : decode cX9_orchard 240 = .ok (.iastore, 1) := by decide +kernel
theorem dX9_orchard_241 : decode cX9_orchard 241 = .ok (.aload_n 0, 1) := by decide +kernel
theorem dX9_orchard_242 : decode cX9_orchard 242 = .ok (.getfield 44, 3) := by decide +kernel
theorem dX9_orchard_245 : decode cX9_orchard 245 = .ok (.iload 7, 2) := by decide +kernel
theorem dX9_orchard_247 : decode cX9_orchard 247 = .ok (.iconst 0, 1) := by decide +kernel
theorem dX9_orchard_248 : decode cX9_orchard 248 = .ok (.bastore, 1) := by decide +kernel
theorem dX9_orchard_249 : decode cX9_orchard 249 = .ok (.iinc 7 1, 3) := by decide +kernel
theorem dX9_orchard_252 : decode cX9_orchard 252 = .ok (.goto (-35), 3) := by decide +kernel
theorem dX9_orchard_255 : decode cX9_orchard 255 = .ok (.aload_n 0, 1) := by decide +kernel
theorem dX9_orchard_256 : decode cX9_orchard 256 = .ok (.iconst 0, 1) := by decide +kernel
theorem dX9_orchard_257 : decode cX9_orchard 257 = .ok (.putfield 138, 3) := by decide +kernel
theorem dX9_orchard_260 : decode cX9_orchard 260 = .ok (.aload_n 0, 1) := by decide +kernel
theorem dX9_orchard_261 : decode cX9_orchard 261 = .ok (.iconst 0, 1) := by decide +kernel
theorem dX9_orchard_262 : decode cX9_orchard 262 = .ok (.putfield 141, 3) := by decide +kernel
theorem dX9_orchard_265 : decode cX9_orchard 265 = .ok (.aload_n 0, 1) := by decide +kernel
theorem dX9_orchard_266 : decode cX9_orchard 266 = .ok (.getfield 105, 3) := by decide +kernel
theorem dX9_orchard_269 : decode cX9_orchard 269 = .ok (.ireturn, 1) := by decide +kernel
theorem dX9_readOrchard_0 : decode cX9_readOrchard 0 = .ok (.aload_n 0, 1) := by decide +kernel
theorem dX9_readOrchard_1 : decode cX9_readOrchard 1 = .ok (.getfield 111, 3) := by decide +kernel
theorem dX9_readOrchard_4 : decode cX9_readOrchard 4 = .ok (.iload_n 1, 1) := by decide +kernel
theorem dX9_readOrchard_5 : decode cX9_readOrchard 5 = .ok (.if_icmp .ge 17, 3) := by decide +kernel
theorem dX9_readOrchard_8 : decode cX9_readOrchard 8 = .ok (.aload_n 0, 1) := by decide +kernel
theorem dX9_readOrchard_9 : decode cX9_readOrchard 9 = .ok (.getfield 16, 3) := by decide +kernel
theorem dX9_readOrchard_12 : decode cX9_readOrchard 12 = .ok (.aload_n 0, 1) := by decide +kernel
theorem dX9_readOrchard_13 : decode cX9_readOrchard 13 = .ok (.getfield 111, 3) := by decide +kernel
theorem dX9_readOrchard_16 : decode cX9_readOrchard 16 = .ok (.iaload, 1) := by decide +kernel
theorem dX9_readOrchard_17 : decode cX9_readOrchard 17 = .ok (.bipush 107, 2) := by decide +kernel
theorem dX9_readOrchard_19 : decode cX9_readOrchard 19 = .ok (.if_icmp .eq 5, 3) := by decide +kernel
theorem dX9_readOrchard_22 : decode cX9_readOrchard 22 = .ok (.iconst 0, 1) := by decide +kernel
theorem dX9_readOrchard_23 : decode cX9_readOrchard 23 = .ok (.ireturn, 1) := by decide +kernel
theorem dX9_readOrchard_24 : decode cX9_readOrchard 24 = .ok (.aload_n 0, 1) := by decide +kernel
theorem dX9_readOrchard_25 : decode cX9_readOrchard 25 = .ok (.dup, 1) := by decide +kernel
theorem dX9_readOrchard_26 : decode cX9_readOrchard 26 = .ok (.getfield 111, 3) := by decide +kernel
theorem dX9_readOrchard_29 : decode cX9_readOrchard 29 = .ok (.iconst 1, 1) := by decide +kernel
theorem dX9_readOrchard_30 : decode cX9_readOrchard 30 = .ok (.iadd, 1) := by decide +kernel
theorem dX9_readOrchard_31 : decode cX9_readOrchard 31 = .ok (.putfield 111, 3) := by decide +kernel
theorem dX9_readOrchard_34 : decode cX9_readOrchard 34 = .ok (.aload_n 0, 1) := by decide +kernel
theorem dX9_readOrchard_35 : decode cX9_readOrchard 35 = .ok (.iconst 0, 1) := by decide +kernel
theorem dX9_readOrchard_36 : decode cX9_readOrchard 36 = .ok (.putfield 132, 3) := by decide +kernel
theorem dX9_readOrchard_39 : decode cX9_readOrchard 39 = .ok (.aload_n 0, 1) := by decide +kernel
theorem dX9_readOrchard_40 : decode cX9_readOrchard 40 = .ok (.getfield 132, 3) := by decide +kernel
theorem dX9_readOrchard_43 : decode cX9_readOrchard 43 = .ok (.ifCond .eq 25, 3) := by decide +kernel
theorem dX9_readOrchard_46 : decode cX9_readOrchard 46 = .ok (.aload_n 0, 1) := by decide +kernel
theorem dX9_readOrchard_47 : decode cX9_readOrchard 47 = .ok (.getfield 111, 3) := by decide +kernel
theorem dX9_readOrchard_50 : decode cX9_readOrchard 50 = .ok (.iload_n 1, 1) := by decide +kernel
theorem dX9_readOrchard_51 : decode cX9_readOrchard 51 = .ok (.if_icmp .ge 49, 3) := by decide +kernel
theorem dX9_readOrchard_54 : decode cX9_readOrchard 54 = .ok (.aload_n 0, 1) := by decide +kernel
theorem dX9_readOrchard_55 : decode cX9_readOrchard 55 = .ok (.getfield 16, 3) := by decide +kernel
theorem dX9_readOrchard_58 : decode cX9_readOrchard 58 = .ok (.aload_n 0, 1) := by decide +kernel
theorem dX9_readOrchard_59 : decode cX9_readOrchard 59 = .ok (.getfield 111, 3) := by decide +kernel
theorem dX9_readOrchard_62 : decode cX9_readOrchard 62 = .ok (.iaload, 1) := by decide +kernel
theorem dX9_readOrchard_63 : decode cX9_readOrchard 63 = .ok (.bipush 59, 2) := by decide +kernel
theorem dX9_readOrchard_65 : decode cX9_readOrchard 65 = .ok (.if_icmp .eq 35, 3) := by decide +kernel
theorem dX9_readOrchard_68 : decode cX9_readOrchard 68 = .ok (.aload_n 0, 1) := by decide +kernel
theorem dX9_readOrchard_69 : decode cX9_readOrchard 69 = .ok (.getfield 132, 3) := by decide +kernel
theorem dX9_readOrchard_72 : decode cX9_readOrchard 72 = .ok (.bipush 6, 2) := by decide +kernel
theorem dX9_readOrchard_74 : decode cX9_readOrchard 74 = .ok (.if_icmp .eq 11, 3) := by decide +kernel
theorem dX9_readOrchard_77 : decode cX9_readOrchard 77 = .ok (.aload_n 0, 1) := by decide +kernel
theorem dX9_readOrchard_78 : decode cX9_readOrchard 78 = .ok (.iload_n 1, 1) := by decide +kernel
theorem dX9_readOrchard_79 : decode cX9_readOrchard 79 = .ok (.invokevirtual 144, 3) := by decide +kernel
theorem dX9_readOrchard_82 : decode cX9_readOrchard 82 = .ok (.ifCond .ne 5, 3) := by decide +kernel
theorem dX9_readOrchard_85 : decode cX9_readOrchard 85 = .ok (.iconst 0, 1) := by decide +kernel
theorem dX9_readOrchard_86 : decode cX9_readOrchard 86 = .ok (.ireturn, 1) := by decide +kernel
theorem dX9_readOrchard_87 : decode cX9_readOrchard 87 = .ok (.aload_n 0, 1) := by decide +kernel
theorem dX9_readOrchard_88 : decode cX9_readOrchard 88 = .ok (.dup, 1) := by decide +kernel
theorem dX9_readOrchard_89 : decode cX9_readOrchard 89 = .ok (.getfield 132, 3) := by decide +kernel
theorem dX9_readOrchard_92 : decode cX9_readOrchard 92 = .ok (.iconst 1, 1) := by decide +kernel
theorem dX9_readOrchard_93 : decode cX9_readOrchard 93 = .ok (.iadd, 1) := by decide +kernel
theorem dX9_readOrchard_94 : decode cX9_readOrchard 94 = .ok (.putfield 132, 3) := by decide +kernel
theorem dX9_readOrchard_97 : decode cX9_readOrchard 97 = .ok (.goto (-58), 3) := by decide +kernel
theorem dX9_readOrchard_100 : decode cX9_readOrchard 100 = .ok (.aload_n 0, 1) := by decide +kernel
theorem dX9_readOrchard_101 : decode cX9_readOrchard 101 = .ok (.iconst 0, 1) := by decide +kernel
theorem dX9_readOrchard_102 : decode cX9_readOrchard 102 = .ok (.putfield 135, 3) := by decide +kernel
theorem dX9_readOrchard_105 : decode cX9_readOrchard 105 = .ok (.aload_n 0, 1) := by decide +kernel
theorem dX9_readOrchard_106 : decode cX9_readOrchard 106 = .ok (.getfield 135, 3) := by decide +kernel
theorem dX9_readOrchard_109 : decode cX9_readOrchard 109 = .ok (.ifCond .eq 11, 3) := by decide +kernel
theorem dX9_readOrchard_112 : decode cX9_readOrchard 112 = .ok (.aload_n 0, 1) := by decide +kernel
theorem dX9_readOrchard_113 : decode cX9_readOrchard 113 = .ok (.getfield 111, 3) := by decide +kernel
theorem dX9_readOrchard_116 : decode cX9_readOrchard 116 = .ok (.iload_n 1, 1) := by decide +kernel
theorem dX9_readOrchard_117 : decode cX9_readOrchard 117 = .ok (.if_icmp .ge 69, 3) := by decide +kernel
theorem dX9_readOrchard_120 : decode cX9_readOrchard 120 = .ok (.aload_n 0, 1) := by decide +kernel
theorem dX9_readOrchard_121 : decode cX9_readOrchard 121 = .ok (.getfield 135, 3) := by decide +kernel
theorem dX9_readOrchard_124 : decode cX9_readOrchard 124 = .ok (.bipush 6, 2) := by decide +kernel
theorem dX9_readOrchard_126 : decode cX9_readOrchard 126 = .ok (.if_icmp .eq 25, 3) := by decide +kernel
theorem dX9_readOrchard_129 : decode cX9_readOrchard 129 = .ok (.aload_n 0, 1) := by decide +kernel
theorem dX9_readOrchard_130 : decode cX9_readOrchard 130 = .ok (.getfield 111, 3) := by decide +kernel
theorem dX9_readOrchard_133 : decode cX9_readOrchard 133 = .ok (.iload_n 1, 1) := by decide +kernel
theorem dX9_readOrchard_134 : decode cX9_readOrchard 134 = .ok (.if_icmp .ge 17, 3) := by decide +kernel
theorem dX9_readOrchard_137 : decode cX9_readOrchard 137 = .ok (.aload_n 0, 1) := by decide +kernel
theorem dX9_readOrchard_138 : decode cX9_readOrchard 138 = .ok (.getfield 16, 3) := by decide +kernel
theorem dX9_readOrchard_141 : decode cX9_readOrchard 141 = .ok (.aload_n 0, 1) := by decide +kernel
theorem dX9_readOrchard_142 : decode cX9_readOrchard 142 = .ok (.getfield 111, 3) := by decide +kernel
theorem dX9_readOrchard_145 : decode cX9_readOrchard 145 = .ok (.iaload, 1) := by decide +kernel
theorem dX9_readOrchard_146 : decode cX9_readOrchard 146 = .ok (.bipush 59, 2) := by decide +kernel
theorem dX9_readOrchard_148 : decode cX9_readOrchard 148 = .ok (.if_icmp .eq 5, 3) := by decide +kernel
theorem dX9_readOrchard_151 : decode cX9_readOrchard 151 = .ok (.iconst 0, 1) := by decide +kernel
theorem dX9_readOrchard_152 : decode cX9_readOrchard 152 = .ok (.ireturn, 1) := by decide +kernel
theorem dX9_readOrchard_153 : decode cX9_readOrchard 153 = .ok (.aload_n 0, 1) := by decide +kernel
theorem dX9_readOrchard_154 : decode cX9_readOrchard 154 = .ok (.dup, 1) := by decide +kernel
theorem dX9_readOrchard_155 : decode cX9_readOrchard 155 = .ok (.getfield 111, 3) := by decide +kernel
theorem dX9_readOrchard_158 : decode cX9_readOrchard 158 = .ok (.iconst 1, 1) := by decide +kernel
theorem dX9_readOrchard_159 : decode cX9_readOrchard 159 = .ok (.iadd, 1) := by decide +kernel
theorem dX9_readOrchard_160 : decode cX9_readOrchard 160 = .ok (.putfield 111, 3) := by decide +kernel
theorem dX9_readOrchard_163 : decode cX9_readOrchard 163 = .ok (.aload_n 0, 1) := by decide +kernel
theorem dX9_readOrchard_164 : decode cX9_readOrchard 164 = .ok (.iload_n 1, 1) := by decide +kernel
theorem dX9_readOrchard_165 : decode cX9_readOrchard 165 = .ok (.invokevirtual 147, 3) := by decide +kernel
theorem dX9_readOrchard_168 : decode cX9_readOrchard 168 = .ok (.ifCond .ne 5, 3) := by decide +kernel
theorem dX9_readOrchard_171 : decode cX9_readOrchard 171 = .ok (.iconst 0, 1) := by decide +kernel
theorem dX9_readOrchard_172 : decode cX9_readOrchard 172 = .ok (.ireturn, 1) := by decide +kernel
theorem dX9_readOrchard_173 : decode cX9_readOrchard 173 = .ok (.aload_n 0, 1) := by decide +kernel
theorem dX9_readOrchard_174 : decode cX9_readOrchard 174 = .ok (.dup, 1) := by decide +kernel
theorem dX9_readOrchard_175 : decode cX9_readOrchard 175 = .ok (.getfield 135, 3) := by decide +kernel
theorem dX9_readOrchard_178 : decode cX9_readOrchard 178 = .ok (.iconst 1, 1) := by decide +kernel
theorem dX9_readOrchard_179 : decode cX9_readOrchard 179 = .ok (.iadd, 1) := by decide +kernel
theorem dX9_readOrchard_180 : decode cX9_readOrchard 180 = .ok (.putfield 135, 3) := by decide +kernel
theorem dX9_readOrchard_183 : decode cX9_readOrchard 183 = .ok (.goto (-78), 3) := by decide +kernel
theorem dX9_readOrchard_186 : decode cX9_readOrchard 186 = .ok (.iconst 1, 1) := by decide +kernel
theorem dX9_readOrchard_187 : decode cX9_readOrchard 187 = .ok (.ireturn, 1) := by decide +kernel
theorem dX9_readTree_0 : decode cX9_readTree 0 = .ok (.aload_n 0, 1) := by decide +kernel
theorem dX9_readTree_1 : decode cX9_readTree 1 = .ok (.getfield 111, 3) := by decide +kernel
theorem dX9_readTree_4 : decode cX9_readTree 4 = .ok (.iload_n 1, 1) := by decide +kernel
theorem dX9_readTree_5 : decode cX9_readTree 5 = .ok (.if_icmp .ge 15, 3) := by decide +kernel
theorem dX9_readTree_8 : decode cX9_readTree 8 = .ok (.aload_n 0, 1) := by decide +kernel
theorem dX9_readTree_9 : decode cX9_readTree 9 = .ok (.getfield 16, 3) := by decide +kernel
theorem dX9_readTree_12 : decode cX9_readTree 12 = .ok (.aload_n 0, 1) := by decide +kernel
theorem dX9_readTree_13 : decode cX9_readTree 13 = .ok (.getfield 111, 3) := by decide +kernel
theorem dX9_readTree_16 : decode cX9_readTree 16 = .ok (.iaload, 1) := by decide +kernel
theorem dX9_readTree_17 : decode cX9_readTree 17 = .ok (.goto 4, 3) := by decide +kernel
theorem dX9_readTree_20 : decode cX9_readTree 20 = .ok (.iconst 0, 1) := by decide +kernel
theorem dX9_readTree_21 : decode cX9_readTree 21 = .ok (.istore_n 2, 1) := by decide +kernel
theorem dX9_readTree_22 : decode cX9_readTree 22 = .ok (.aload_n 0, 1) := by decide +kernel
theorem dX9_readTree_23 : decode cX9_readTree 23 = .ok (.getfield 47, 3) := by decide +kernel
theorem dX9_readTree_26 : decode cX9_readTree 26 = .ok (.aload_n 0, 1) := by decide +kernel
theorem dX9_readTree_27 : decode cX9_readTree 27 = .ok (.getfield 132, 3) := by decide +kernel
theorem dX9_readTree_30 : decode cX9_readTree 30 = .ok (.iload_n 2, 1) := by decide +kernel
theorem dX9_readTree_31 : decode cX9_readTree 31 = .ok (.bipush 116, 2) := by decide +kernel
theorem dX9_readTree_33 : decode cX9_readTree 33 = .ok (.if_icmp .ne 7, 3) := by decide +kernel
theorem dX9_readTree_36 : decode cX9_readTree 36 = .ok (.iconst 0, 1) := by decide +kernel
theorem dX9_readTree_37 : decode cX9_readTree 37 = .ok (.goto 25, 3) := by decide +kernel
theorem dX9_readTree_40 : decode cX9_readTree 40 = .ok (.iload_n 2, 1) := by decide +kernel
theorem dX9_readTree_41 : decode cX9_readTree 41 = .ok (.bipush 103, 2) := by decide +kernel
theorem dX9_readTree_43 : decode cX9_readTree 43 = .ok (.if_icmp .ne 7, 3) := by decide +kernel
theorem dX9_readTree_46 : decode cX9_readTree 46 = .ok (.iconst 1, 1) := by decide +kernel
theorem dX9_readTree_47 : decode cX9_readTree 47 = .ok (.goto 15, 3) := by decide +kernel
theorem dX9_readTree_50 : decode cX9_readTree 50 = .ok (.iload_n 2, 1) := by decide +kernel
theorem dX9_readTree_51 : decode cX9_readTree 51 = .ok (.bipush 111, 2) := by decide +kernel
theorem dX9_readTree_53 : decode cX9_readTree 53 = .ok (.if_icmp .ne 7, 3) := by decide +kernel
theorem dX9_readTree_56 : decode cX9_readTree 56 = .ok (.iconst 2, 1) := by decide +kernel
theorem dX9_readTree_57 : decode cX9_readTree 57 = .ok (.goto 5, 3) := by decide +kernel
theorem dX9_readTree_60 : decode cX9_readTree 60 = .ok (.bipush (-9), 2) := by decide +kernel
theorem dX9_readTree_62 : decode cX9_readTree 62 = .ok (.iastore, 1) := by decide +kernel
theorem dX9_readTree_63 : decode cX9_readTree 63 = .ok (.aload_n 0, 1) := by decide +kernel
theorem dX9_readTree_64 : decode cX9_readTree 64 = .ok (.getfield 47, 3) := by decide +kernel
theorem dX9_readTree_67 : decode cX9_readTree 67 = .ok (.aload_n 0, 1) := by decide +kernel
theorem dX9_readTree_68 : decode cX9_readTree 68 = .ok (.getfield 132, 3) := by decide +kernel
theorem dX9_readTree_71 : decode cX9_readTree 71 = .ok (.iaload, 1) := by decide +kernel
theorem dX9_readTree_72 : decode cX9_readTree 72 = .ok (.bipush (-9), 2) := by decide +kernel
theorem dX9_readTree_74 : decode cX9_readTree 74 = .ok (.if_icmp .ne 5, 3) := by decide +kernel
theorem dX9_readTree_77 : decode cX9_readTree 77 = .ok (.iconst 0, 1) := by decide +kernel
theorem dX9_readTree_78 : decode cX9_readTree 78 = .ok (.ireturn, 1) := by decide +kernel
theorem dX9_readTree_79 : decode cX9_readTree 79 = .ok (.aload_n 0, 1) := by decide +kernel
theorem dX9_readTree_80 : decode cX9_readTree 80 = .ok (.dup, 1) := by decide +kernel
theorem dX9_readTree_81 : decode cX9_readTree 81 = .ok (.getfield 111, 3) := by decide +kernel
theorem dX9_readTree_84 : decode cX9_readTree 84 = .ok (.iconst 1, 1) := by decide +kernel
theorem dX9_readTree_85 : decode cX9_readTree 85 = .ok (.iadd, 1) := by decide +kernel
theorem dX9_readTree_86 : decode cX9_readTree 86 = .ok (.putfield 111, 3) := by decide +kernel
theorem dX9_readTree_89 : decode cX9_readTree 89 = .ok (.aload_n 0, 1) := by decide +kernel
theorem dX9_readTree_90 : decode cX9_readTree 90 = .ok (.getfield 50, 3) := by decide +kernel
theorem dX9_readTree_93 : decode cX9_readTree 93 = .ok (.aload_n 0, 1) := by decide +kernel
theorem dX9_readTree_94 : decode cX9_readTree 94 = .ok (.getfield 132, 3) := by decide +kernel
theorem dX9_readTree_97 : decode cX9_readTree 97 = .ok (.aload_n 0, 1) := by decide +kernel
theorem dX9_readTree_98 : decode cX9_readTree 98 = .ok (.iload_n 1, 1) := by decide +kernel
theorem dX9_readTree_99 : decode cX9_readTree 99 = .ok (.iconst 0, 1) := by decide +kernel
theorem dX9_readTree_100 : decode cX9_readTree 100 = .ok (.iconst 5, 1) := by decide +kernel
theorem dX9_readTree_101 : decode cX9_readTree 101 = .ok (.invokevirtual 149, 3) := by decide +kernel
theorem dX9_readTree_104 : decode cX9_readTree 104 = .ok (.iastore, 1) := by decide +kernel
theorem dX9_readTree_105 : decode cX9_readTree 105 = .ok (.aload_n 0, 1) := by decide +kernel
theorem dX9_readTree_106 : decode cX9_readTree 106 = .ok (.getfield 50, 3) := by decide +kernel
theorem dX9_readTree_109 : decode cX9_readTree 109 = .ok (.aload_n 0, 1) := by decide +kernel
theorem dX9_readTree_110 : decode cX9_readTree 110 = .ok (.getfield 132, 3) := by decide +kernel
theorem dX9_readTree_113 : decode cX9_readTree 113 = .ok (.iaload, 1) := by decide +kernel
theorem dX9_readTree_114 : decode cX9_readTree 114 = .ok (.bipush (-9), 2) := by decide +kernel
theorem dX9_readTree_116 : decode cX9_readTree 116 = .ok (.if_icmp .ne 5, 3) := by decide +kernel
theorem dX9_readTree_119 : decode cX9_readTree 119 = .ok (.iconst 0, 1) := by decide +kernel
theorem dX9_readTree_120 : decode cX9_readTree 120 = .ok (.ireturn, 1) := by decide +kernel
theorem dX9_readTree_121 : decode cX9_readTree 121 = .ok (.aload_n 0, 1) := by decide +kernel
theorem dX9_readTree_122 : decode cX9_readTree 122 = .ok (.getfield 53, 3) := by decide +kernel
theorem dX9_readTree_125 : decode cX9_readTree 125 = .ok (.aload_n 0, 1) := by decide +kernel
theorem dX9_readTree_126 : decode cX9_readTree 126 = .ok (.getfield 132, 3) := by decide +kernel
theorem dX9_readTree_129 : decode cX9_readTree 129 = .ok (.aload_n 0, 1) := by decide +kernel
theorem dX9_readTree_130 : decode cX9_readTree 130 = .ok (.iload_n 1, 1) := by decide +kernel
theorem dX9_readTree_131 : decode cX9_readTree 131 = .ok (.iconst 1, 1) := by decide +kernel
theorem dX9_readTree_132 : decode cX9_readTree 132 = .ok (.bipush 9, 2) := by decide +kernel
theorem dX9_readTree_134 : decode cX9_readTree 134 = .ok (.invokevirtual 149, 3) := by decide +kernel
theorem dX9_readTree_137 : decode cX9_readTree 137 = .ok (.iastore, 1) := by decide +kernel
theorem dX9_readTree_138 : decode cX9_readTree 138 = .ok (.aload_n 0, 1) := by decide +kernel
theorem dX9_readTree_139 : decode cX9_readTree 139 = .ok (.getfield 53, 3) := by decide +kernel
theorem dX9_readTree_142 : decode cX9_readTree 142 = .ok (.aload_n 0, 1) := by decide +kernel
theorem dX9_readTree_143 : decode cX9_readTree 143 = .ok (.getfield 132, 3) := by decide +kernel
theorem dX9_readTree_146 : decode cX9_readTree 146 = .ok (.iaload, 1) := by decide +kernel
theorem dX9_readTree_147 : decode cX9_readTree 147 = .ok (.bipush (-9), 2) := by decide +kernel
theorem dX9_readTree_149 : decode cX9_readTree 149 = .ok (.if_icmp .eq 7, 3) := by decide +kernel
theorem dX9_readTree_152 : decode cX9_readTree 152 = .ok (.iconst 1, 1) := by decide +kernel
theorem dX9_readTree_153 : decode cX9_readTree 153 = .ok (.goto 4, 3) := by decide +kernel
theorem dX9_readTree_156 : decode cX9_readTree 156 = .ok (.iconst 0, 1) := by decide +kernel
theorem dX9_readTree_157 : decode cX9_readTree 157 = .ok (.ireturn, 1) := by decide +kernel
theorem dX9_readPrisoner_0 : decode cX9_readPrisoner 0 = .ok (.aload_n 0, 1) := by decide +kernel
theorem dX9_readPrisoner_1 : decode cX9_readPrisoner 1 = .ok (.getfield 56, 3) := by decide +kernel
theorem dX9_readPrisoner_4 : decode cX9_readPrisoner 4 = .ok (.aload_n 0, 1) := by decide +kernel
theorem dX9_readPrisoner_5 : decode cX9_readPrisoner 5 = .ok (.getfield 135, 3) := by decide +kernel
theorem dX9_readPrisoner_8 : decode cX9_readPrisoner 8 = .ok (.aload_n 0, 1) := by decide +kernel
theorem dX9_readPrisoner_9 : decode cX9_readPrisoner 9 = .ok (.iload_n 1, 1) := by decide +kernel
theorem dX9_readPrisoner_10 : decode cX9_readPrisoner 10 = .ok (.iconst 0, 1) := by decide +kernel
theorem dX9_readPrisoner_11 : decode cX9_readPrisoner 11 = .ok (.iconst 5, 1) := by decide +kernel
theorem dX9_readPrisoner_12 : decode cX9_readPrisoner 12 = .ok (.invokevirtual 149, 3) := by decide +kernel
theorem dX9_readPrisoner_15 : decode cX9_readPrisoner 15 = .ok (.iastore, 1) := by decide +kernel
theorem dX9_readPrisoner_16 : decode cX9_readPrisoner 16 = .ok (.aload_n 0, 1) := by decide +kernel
theorem dX9_readPrisoner_17 : decode cX9_readPrisoner 17 = .ok (.getfield 56, 3) := by decide +kernel
theorem dX9_readPrisoner_20 : decode cX9_readPrisoner 20 = .ok (.aload_n 0, 1) := by decide +kernel
theorem dX9_readPrisoner_21 : decode cX9_readPrisoner 21 = .ok (.getfield 135, 3) := by decide +kernel
theorem dX9_readPrisoner_24 : decode cX9_readPrisoner 24 = .ok (.iaload, 1) := by decide +kernel
theorem dX9_readPrisoner_25 : decode cX9_readPrisoner 25 = .ok (.bipush (-9), 2) := by decide +kernel
theorem dX9_readPrisoner_27 : decode cX9_readPrisoner 27 = .ok (.if_icmp .ne 5, 3) := by decide +kernel
theorem dX9_readPrisoner_30 : decode cX9_readPrisoner 30 = .ok (.iconst 0, 1) := by decide +kernel
theorem dX9_readPrisoner_31 : decode cX9_readPrisoner 31 = .ok (.ireturn, 1) := by decide +kernel
theorem dX9_readPrisoner_32 : decode cX9_readPrisoner 32 = .ok (.aload_n 0, 1) := by decide +kernel
theorem dX9_readPrisoner_33 : decode cX9_readPrisoner 33 = .ok (.iload_n 1, 1) := by decide +kernel
theorem dX9_readPrisoner_34 : decode cX9_readPrisoner 34 = .ok (.iconst 0, 1) := by decide +kernel
theorem dX9_readPrisoner_35 : decode cX9_readPrisoner 35 = .ok (.iconst 2, 1) := by decide +kernel
theorem dX9_readPrisoner_36 : decode cX9_readPrisoner 36 = .ok (.invokevirtual 149, 3) := by decide +kernel
theorem dX9_readPrisoner_39 : decode cX9_readPrisoner 39 = .ok (.istore_n 2, 1) := by decide +kernel
theorem dX9_readPrisoner_40 : decode cX9_readPrisoner 40 = .ok (.iload_n 2, 1) := by decide +kernel
theorem dX9_readPrisoner_41 : decode cX9_readPrisoner 41 = .ok (.bipush (-9), 2) := by decide +kernel
theorem dX9_readPrisoner_43 : decode cX9_readPrisoner 43 = .ok (.if_icmp .ne 5, 3) := by decide +kernel
theorem dX9_readPrisoner_46 : decode cX9_readPrisoner 46 = .ok (.iconst 0, 1) := by decide +kernel
theorem dX9_readPrisoner_47 : decode cX9_readPrisoner 47 = .ok (.ireturn, 1) := by decide +kernel
theorem dX9_readPrisoner_48 : decode cX9_readPrisoner 48 = .ok (.aload_n 0, 1) := by decide +kernel
theorem dX9_readPrisoner_49 : decode cX9_readPrisoner 49 = .ok (.iload_n 1, 1) := by decide +kernel
theorem dX9_readPrisoner_50 : decode cX9_readPrisoner 50 = .ok (.iconst 0, 1) := by decide +kernel
theorem dX9_readPrisoner_51 : decode cX9_readPrisoner 51 = .ok (.bipush 9, 2) := by decide +kernel
theorem dX9_readPrisoner_53 : decode cX9_readPrisoner 53 = .ok (.invokevirtual 149, 3) := by decide +kernel
theorem dX9_readPrisoner_56 : decode cX9_readPrisoner 56 = .ok (.istore_n 3, 1) := by decide +kernel
theorem dX9_readPrisoner_57 : decode cX9_readPrisoner 57 = .ok (.aload_n 0, 1) := by decide +kernel
theorem dX9_readPrisoner_58 : decode cX9_readPrisoner 58 = .ok (.getfield 59, 3) := by decide +kernel
theorem dX9_readPrisoner_61 : decode cX9_readPrisoner 61 = .ok (.aload_n 0, 1) := by decide +kernel
theorem dX9_readPrisoner_62 : decode cX9_readPrisoner 62 = .ok (.getfield 135, 3) := by decide +kernel
theorem dX9_readPrisoner_65 : decode cX9_readPrisoner 65 = .ok (.bipush 10, 2) := by decide +kernel
theorem dX9_readPrisoner_67 : decode cX9_readPrisoner 67 = .ok (.iload_n 2, 1) := by decide +kernel
theorem dX9_readPrisoner_68 : decode cX9_readPrisoner 68 = .ok (.imul, 1) := by decide +kernel
theorem dX9_readPrisoner_69 : decode cX9_readPrisoner 69 = .ok (.iload_n 3, 1) := by decide +kernel
theorem dX9_readPrisoner_70 : decode cX9_readPrisoner 70 = .ok (.iadd, 1) := by decide +kernel
theorem dX9_readPrisoner_71 : decode cX9_readPrisoner 71 = .ok (.iastore, 1) := by decide +kernel
theorem dX9_readPrisoner_72 : decode cX9_readPrisoner 72 = .ok (.iload_n 3, 1) := by decide +kernel
theorem dX9_readPrisoner_73 : decode cX9_readPrisoner 73 = .ok (.bipush (-9), 2) := by decide +kernel
theorem dX9_readPrisoner_75 : decode cX9_readPrisoner 75 = .ok (.if_icmp .eq 7, 3) := by decide +kernel
theorem dX9_readPrisoner_78 : decode cX9_readPrisoner 78 = .ok (.iconst 1, 1) := by decide +kernel
theorem dX9_readPrisoner_79 : decode cX9_readPrisoner 79 = .ok (.goto 4, 3) := by decide +kernel
theorem dX9_readPrisoner_82 : decode cX9_readPrisoner 82 = .ok (.iconst 0, 1) := by decide +kernel
theorem dX9_readPrisoner_83 : decode cX9_readPrisoner 83 = .ok (.ireturn, 1) := by decide +kernel
theorem dX9_wants_0 : decode cX9_wants 0 = .ok (.aload_n 0, 1) := by decide +kernel
theorem dX9_wants_1 : decode cX9_wants 1 = .ok (.getfield 19, 3) := by decide +kernel
theorem dX9_wants_4 : decode cX9_wants 4 = .ok (.iload_n 1, 1) := by decide +kernel
theorem dX9_wants_5 : decode cX9_wants 5 = .ok (.iaload, 1) := by decide +kernel
theorem dX9_wants_6 : decode cX9_wants 6 = .ok (.ifCond .ne 12, 3) := by decide +kernel
theorem dX9_wants_9 : decode cX9_wants 9 = .ok (.aload_n 0, 1) := by decide +kernel
theorem dX9_wants_10 : decode cX9_wants 10 = .ok (.getfield 25, 3) := by decide +kernel
theorem dX9_wants_13 : decode cX9_wants 13 = .ok (.iload_n 1, 1) := by decide +kernel
theorem dX9_wants_14 : decode cX9_wants 14 = .ok (.iaload, 1) := by decide +kernel
theorem dX9_wants_15 : decode cX9_wants 15 = .ok (.goto 34, 3) := by decide +kernel
theorem dX9_wants_18 : decode cX9_wants 18 = .ok (.aload_n 0, 1) := by decide +kernel
theorem dX9_wants_19 : decode cX9_wants 19 = .ok (.getfield 19, 3) := by decide +kernel
theorem dX9_wants_22 : decode cX9_wants 22 = .ok (.iload_n 1, 1) := by decide +kernel
theorem dX9_wants_23 : decode cX9_wants 23 = .ok (.iaload, 1) := by decide +kernel
theorem dX9_wants_24 : decode cX9_wants 24 = .ok (.iconst 1, 1) := by decide +kernel
theorem dX9_wants_25 : decode cX9_wants 25 = .ok (.if_icmp .ne 14, 3) := by decide +kernel
theorem dX9_wants_28 : decode cX9_wants 28 = .ok (.aload_n 0, 1) := by decide +kernel
theorem dX9_wants_29 : decode cX9_wants 29 = .ok (.getfield 25, 3) := by decide +kernel
theorem dX9_wants_32 : decode cX9_wants 32 = .ok (.iload_n 1, 1) := by decide +kernel
theorem dX9_wants_33 : decode cX9_wants 33 = .ok (.iaload, 1) := by decide +kernel
theorem dX9_wants_34 : decode cX9_wants 34 = .ok (.iconst 1, 1) := by decide +kernel
theorem dX9_wants_35 : decode cX9_wants 35 = .ok (.iadd, 1) := by decide +kernel
theorem dX9_wants_36 : decode cX9_wants 36 = .ok (.goto 13, 3) := by decide +kernel
theorem dX9_wants_39 : decode cX9_wants 39 = .ok (.iconst 2, 1) := by decide +kernel
theorem dX9_wants_40 : decode cX9_wants 40 = .ok (.aload_n 0, 1) := by decide +kernel
theorem dX9_wants_41 : decode cX9_wants 41 = .ok (.getfield 25, 3) := by decide +kernel
theorem dX9_wants_44 : decode cX9_wants 44 = .ok (.iload_n 1, 1) := by decide +kernel
theorem dX9_wants_45 : decode cX9_wants 45 = .ok (.iaload, 1) := by decide +kernel
theorem dX9_wants_46 : decode cX9_wants 46 = .ok (.imul, 1) := by decide +kernel
theorem dX9_wants_47 : decode cX9_wants 47 = .ok (.iconst 2, 1) := by decide +kernel
theorem dX9_wants_48 : decode cX9_wants 48 = .ok (.iadd, 1) := by decide +kernel
theorem dX9_wants_49 : decode cX9_wants 49 = .ok (.ireturn, 1) := by decide +kernel
theorem dX9_opens_0 : decode cX9_opens 0 = .ok (.aload_n 0, 1) := by decide +kernel
theorem dX9_opens_1 : decode cX9_opens 1 = .ok (.getfield 19, 3) := by decide +kernel
theorem dX9_opens_4 : decode cX9_opens 4 = .ok (.iload_n 1, 1) := by decide +kernel
theorem dX9_opens_5 : decode cX9_opens 5 = .ok (.iaload, 1) := by decide +kernel
theorem dX9_opens_6 : decode cX9_opens 6 = .ok (.iconst 2, 1) := by decide +kernel
theorem dX9_opens_7 : decode cX9_opens 7 = .ok (.if_icmp .ne 6, 3) := by decide +kernel
theorem dX9_opens_10 : decode cX9_opens 10 = .ok (.bipush 63, 2) := by decide +kernel
theorem dX9_opens_12 : decode cX9_opens 12 = .ok (.ireturn, 1) := by decide +kernel
theorem dX9_opens_13 : decode cX9_opens 13 = .ok (.aload_n 0, 1) := by decide +kernel
theorem dX9_opens_14 : decode cX9_opens 14 = .ok (.getfield 19, 3) := by decide +kernel
theorem dX9_opens_17 : decode cX9_opens 17 = .ok (.iload_n 1, 1) := by decide +kernel
theorem dX9_opens_18 : decode cX9_opens 18 = .ok (.iaload, 1) := by decide +kernel
theorem dX9_opens_19 : decode cX9_opens 19 = .ok (.ifCond .ne 14, 3) := by decide +kernel
theorem dX9_opens_22 : decode cX9_opens 22 = .ok (.iconst 1, 1) := by decide +kernel
theorem dX9_opens_23 : decode cX9_opens 23 = .ok (.aload_n 0, 1) := by decide +kernel
theorem dX9_opens_24 : decode cX9_opens 24 = .ok (.getfield 22, 3) := by decide +kernel
theorem dX9_opens_27 : decode cX9_opens 27 = .ok (.iload_n 1, 1) := by decide +kernel
theorem dX9_opens_28 : decode cX9_opens 28 = .ok (.iaload, 1) := by decide +kernel
theorem dX9_opens_29 : decode cX9_opens 29 = .ok (.ishl, 1) := by decide +kernel
theorem dX9_opens_30 : decode cX9_opens 30 = .ok (.goto 25, 3) := by decide +kernel
theorem dX9_opens_33 : decode cX9_opens 33 = .ok (.iconst 1, 1) := by decide +kernel
theorem dX9_opens_34 : decode cX9_opens 34 = .ok (.aload_n 0, 1) := by decide +kernel
theorem dX9_opens_35 : decode cX9_opens 35 = .ok (.getfield 22, 3) := by decide +kernel
theorem dX9_opens_38 : decode cX9_opens 38 = .ok (.iload_n 1, 1) := by decide +kernel
theorem dX9_opens_39 : decode cX9_opens 39 = .ok (.iaload, 1) := by decide +kernel
theorem dX9_opens_40 : decode cX9_opens 40 = .ok (.ishl, 1) := by decide +kernel
theorem dX9_opens_41 : decode cX9_opens 41 = .ok (.iconst 1, 1) := by decide +kernel
theorem dX9_opens_42 : decode cX9_opens 42 = .ok (.aload_n 0, 1) := by decide +kernel
theorem dX9_opens_43 : decode cX9_opens 43 = .ok (.getfield 22, 3) := by decide +kernel
theorem dX9_opens_46 : decode cX9_opens 46 = .ok (.iload_n 1, 1) := by decide +kernel
theorem dX9_opens_47 : decode cX9_opens 47 = .ok (.iaload, 1) := by decide +kernel
theorem dX9_opens_48 : decode cX9_opens 48 = .ok (.iconst 1, 1) := by decide +kernel
theorem dX9_opens_49 : decode cX9_opens 49 = .ok (.iadd, 1) := by decide +kernel
theorem dX9_opens_50 : decode cX9_opens 50 = .ok (.bipush 6, 2) := by decide +kernel
theorem dX9_opens_52 : decode cX9_opens 52 = .ok (.irem, 1) := by decide +kernel
theorem dX9_opens_53 : decode cX9_opens 53 = .ok (.ishl, 1) := by decide +kernel
theorem dX9_opens_54 : decode cX9_opens 54 = .ok (.ior, 1) := by decide +kernel
theorem dX9_opens_55 : decode cX9_opens 55 = .ok (.ireturn, 1) := by decide +kernel
theorem dX9_ofTree_0 : decode cX9_ofTree 0 = .ok (.aload_n 0, 1) := by decide +kernel
theorem dX9_ofTree_1 : decode cX9_ofTree 1 = .ok (.iload_n 1, 1) := by decide +kernel
theorem dX9_ofTree_2 : decode cX9_ofTree 2 = .ok (.invokevirtual 153, 3) := by decide +kernel
theorem dX9_ofTree_5 : decode cX9_ofTree 5 = .ok (.ifCond .ne 5, 3) := by decide +kernel
theorem dX9_ofTree_8 : decode cX9_ofTree 8 = .ok (.iconst (-1), 1) := by decide +kernel
theorem dX9_ofTree_9 : decode cX9_ofTree 9 = .ok (.ireturn, 1) := by decide +kernel
theorem dX9_ofTree_10 : decode cX9_ofTree 10 = .ok (.iload_n 2, 1) := by decide +kernel
theorem dX9_ofTree_11 : decode cX9_ofTree 11 = .ok (.tableswitch 85 0 5 #[37, 44, 51, 58, 64, 70], 37) := by decide +kernel
theorem dX9_ofTree_48 : decode cX9_ofTree 48 = .ok (.aload_n 0, 1) := by decide +kernel
theorem dX9_ofTree_49 : decode cX9_ofTree 49 = .ok (.getfield 19, 3) := by decide +kernel
theorem dX9_ofTree_52 : decode cX9_ofTree 52 = .ok (.iload_n 1, 1) := by decide +kernel
theorem dX9_ofTree_53 : decode cX9_ofTree 53 = .ok (.iaload, 1) := by decide +kernel
theorem dX9_ofTree_54 : decode cX9_ofTree 54 = .ok (.ireturn, 1) := by decide +kernel
theorem dX9_ofTree_55 : decode cX9_ofTree 55 = .ok (.aload_n 0, 1) := by decide +kernel
theorem dX9_ofTree_56 : decode cX9_ofTree 56 = .ok (.getfield 22, 3) := by decide +kernel
theorem dX9_ofTree_59 : decode cX9_ofTree 59 = .ok (.iload_n 1, 1) := by decide +kernel
theorem dX9_ofTree_60 : decode cX9_ofTree 60 = .ok (.iaload, 1) := by decide +kernel
theorem dX9_ofTree_61 : decode cX9_ofTree 61 = .ok (.ireturn, 1) := by decide +kernel
theorem dX9_ofTree_62 : decode cX9_ofTree 62 = .ok (.aload_n 0, 1) := by decide +kernel
theorem dX9_ofTree_63 : decode cX9_ofTree 63 = .ok (.getfield 25, 3) := by decide +kernel
theorem dX9_ofTree_66 : decode cX9_ofTree 66 = .ok (.iload_n 1, 1) := by decide +kernel
theorem dX9_ofTree_67 : decode cX9_ofTree 67 = .ok (.iaload, 1) := by decide +kernel
theorem dX9_ofTree_68 : decode cX9_ofTree 68 = .ok (.ireturn, 1) := by decide +kernel
theorem dX9_ofTree_69 : decode cX9_ofTree 69 = .ok (.aload_n 0, 1) := by decide +kernel
theorem dX9_ofTree_70 : decode cX9_ofTree 70 = .ok (.iload_n 1, 1) := by decide +kernel
theorem dX9_ofTree_71 : decode cX9_ofTree 71 = .ok (.invokevirtual 156, 3) := by decide +kernel
theorem dX9_ofTree_74 : decode cX9_ofTree 74 = .ok (.ireturn, 1) := by decide +kernel
theorem dX9_ofTree_75 : decode cX9_ofTree 75 = .ok (.aload_n 0, 1) := by decide +kernel
theorem dX9_ofTree_76 : decode cX9_ofTree 76 = .ok (.iload_n 1, 1) := by decide +kernel
theorem dX9_ofTree_77 : decode cX9_ofTree 77 = .ok (.invokevirtual 159, 3) := by decide +kernel
theorem dX9_ofTree_80 : decode cX9_ofTree 80 = .ok (.ireturn, 1) := by decide +kernel
theorem dX9_ofTree_81 : decode cX9_ofTree 81 = .ok (.aload_n 0, 1) := by decide +kernel
theorem dX9_ofTree_82 : decode cX9_ofTree 82 = .ok (.getfield 28, 3) := by decide +kernel
theorem dX9_ofTree_85 : decode cX9_ofTree 85 = .ok (.iload_n 1, 1) := by decide +kernel
theorem dX9_ofTree_86 : decode cX9_ofTree 86 = .ok (.baload, 1) := by decide +kernel
theorem dX9_ofTree_87 : decode cX9_ofTree 87 = .ok (.ifCond .eq 7, 3) := by decide +kernel
theorem dX9_ofTree_90 : decode cX9_ofTree 90 = .ok (.iconst 1, 1) := by decide +kernel
theorem dX9_ofTree_91 : decode cX9_ofTree 91 = .ok (.goto 4, 3) := by decide +kernel
theorem dX9_ofTree_94 : decode cX9_ofTree 94 = .ok (.iconst 0, 1) := by decide +kernel
theorem dX9_ofTree_95 : decode cX9_ofTree 95 = .ok (.ireturn, 1) := by decide +kernel
theorem dX9_ofTree_96 : decode cX9_ofTree 96 = .ok (.bipush (-2), 2) := by decide +kernel
theorem dX9_ofTree_98 : decode cX9_ofTree 98 = .ok (.ireturn, 1) := by decide +kernel
theorem dX9_ofPrisoner_0 : decode cX9_ofPrisoner 0 = .ok (.aload_n 0, 1) := by decide +kernel
theorem dX9_ofPrisoner_1 : decode cX9_ofPrisoner 1 = .ok (.iload_n 1, 1) := by decide +kernel
theorem dX9_ofPrisoner_2 : decode cX9_ofPrisoner 2 = .ok (.invokevirtual 162, 3) := by decide +kernel
theorem dX9_ofPrisoner_5 : decode cX9_ofPrisoner 5 = .ok (.ifCond .ne 5, 3) := by decide +kernel
theorem dX9_ofPrisoner_8 : decode cX9_ofPrisoner 8 = .ok (.iconst (-1), 1) := by decide +kernel
theorem dX9_ofPrisoner_9 : decode cX9_ofPrisoner 9 = .ok (.ireturn, 1) := by decide +kernel
theorem dX9_ofPrisoner_10 : decode cX9_ofPrisoner 10 = .ok (.iload_n 2, 1) := by decide +kernel
theorem dX9_ofPrisoner_11 : decode cX9_ofPrisoner 11 = .ok (.ifCond .ne 12, 3) := by decide +kernel
theorem dX9_ofPrisoner_14 : decode cX9_ofPrisoner 14 = .ok (.aload_n 0, 1) := by decide +kernel
theorem dX9_ofPrisoner_15 : decode cX9_ofPrisoner 15 = .ok (.getfield 32, 3) := by decide +kernel
theorem dX9_ofPrisoner_18 : decode cX9_ofPrisoner 18 = .ok (.iload_n 1, 1) := by decide +kernel
theorem dX9_ofPrisoner_19 : decode cX9_ofPrisoner 19 = .ok (.iaload, 1) := by decide +kernel
theorem dX9_ofPrisoner_20 : decode cX9_ofPrisoner 20 = .ok (.goto 19, 3) := by decide +kernel
theorem dX9_ofPrisoner_23 : decode cX9_ofPrisoner 23 = .ok (.iload_n 2, 1) := by decide +kernel
theorem dX9_ofPrisoner_24 : decode cX9_ofPrisoner 24 = .ok (.iconst 1, 1) := by decide +kernel
theorem dX9_ofPrisoner_25 : decode cX9_ofPrisoner 25 = .ok (.if_icmp .ne 12, 3) := by decide +kernel
theorem dX9_ofPrisoner_28 : decode cX9_ofPrisoner 28 = .ok (.aload_n 0, 1) := by decide +kernel
theorem dX9_ofPrisoner_29 : decode cX9_ofPrisoner 29 = .ok (.getfield 35, 3) := by decide +kernel
theorem dX9_ofPrisoner_32 : decode cX9_ofPrisoner 32 = .ok (.iload_n 1, 1) := by decide +kernel
theorem dX9_ofPrisoner_33 : decode cX9_ofPrisoner 33 = .ok (.iaload, 1) := by decide +kernel
theorem dX9_ofPrisoner_34 : decode cX9_ofPrisoner 34 = .ok (.goto 5, 3) := by decide +kernel
theorem dX9_ofPrisoner_37 : decode cX9_ofPrisoner 37 = .ok (.bipush (-2), 2) := by decide +kernel
theorem dX9_ofPrisoner_39 : decode cX9_ofPrisoner 39 = .ok (.ireturn, 1) := by decide +kernel
theorem dX9_rain_0 : decode cX9_rain 0 = .ok (.iload_n 1, 1) := by decide +kernel
theorem dX9_rain_1 : decode cX9_rain 1 = .ok (.invokestatic 165, 3) := by decide +kernel
theorem dX9_rain_4 : decode cX9_rain 4 = .ok (.ifCond .ne 5, 3) := by decide +kernel
theorem dX9_rain_7 : decode cX9_rain 7 = .ok (.iconst (-1), 1) := by decide +kernel
theorem dX9_rain_8 : decode cX9_rain 8 = .ok (.ireturn, 1) := by decide +kernel
theorem dX9_rain_9 : decode cX9_rain 9 = .ok (.iload_n 2, 1) := by decide +kernel
theorem dX9_rain_10 : decode cX9_rain 10 = .ok (.iconst 0, 1) := by decide +kernel
theorem dX9_rain_11 : decode cX9_rain 11 = .ok (.bipush 9, 2) := by decide +kernel
theorem dX9_rain_13 : decode cX9_rain 13 = .ok (.invokestatic 101, 3) := by decide +kernel
theorem dX9_rain_16 : decode cX9_rain 16 = .ok (.ifCond .ne 6, 3) := by decide +kernel
theorem dX9_rain_19 : decode cX9_rain 19 = .ok (.bipush (-2), 2) := by decide +kernel
theorem dX9_rain_21 : decode cX9_rain 21 = .ok (.ireturn, 1) := by decide +kernel
theorem dX9_rain_22 : decode cX9_rain 22 = .ok (.aload_n 0, 1) := by decide +kernel
theorem dX9_rain_23 : decode cX9_rain 23 = .ok (.getfield 105, 3) := by decide +kernel
theorem dX9_rain_26 : decode cX9_rain 26 = .ok (.ifCond .ne 6, 3) := by decide +kernel
theorem dX9_rain_29 : decode cX9_rain 29 = .ok (.bipush (-3), 2) := by decide +kernel
theorem dX9_rain_31 : decode cX9_rain 31 = .ok (.ireturn, 1) := by decide +kernel
theorem dX9_rain_32 : decode cX9_rain 32 = .ok (.aload_n 0, 1) := by decide +kernel
theorem dX9_rain_33 : decode cX9_rain 33 = .ok (.getfield 38, 3) := by decide +kernel
theorem dX9_rain_36 : decode cX9_rain 36 = .ok (.iload_n 1, 1) := by decide +kernel
theorem dX9_rain_37 : decode cX9_rain 37 = .ok (.iaload, 1) := by decide +kernel
theorem dX9_rain_38 : decode cX9_rain 38 = .ok (.istore_n 3, 1) := by decide +kernel
theorem dX9_rain_39 : decode cX9_rain 39 = .ok (.aload_n 0, 1) := by decide +kernel
theorem dX9_rain_40 : decode cX9_rain 40 = .ok (.getfield 38, 3) := by decide +kernel
theorem dX9_rain_43 : decode cX9_rain 43 = .ok (.iload_n 1, 1) := by decide +kernel
theorem dX9_rain_44 : decode cX9_rain 44 = .ok (.iload_n 2, 1) := by decide +kernel
theorem dX9_rain_45 : decode cX9_rain 45 = .ok (.iastore, 1) := by decide +kernel
theorem dX9_rain_46 : decode cX9_rain 46 = .ok (.iload_n 3, 1) := by decide +kernel
theorem dX9_rain_47 : decode cX9_rain 47 = .ok (.ireturn, 1) := by decide +kernel
theorem dX9_water_0 : decode cX9_water 0 = .ok (.iload_n 1, 1) := by decide +kernel
theorem dX9_water_1 : decode cX9_water 1 = .ok (.invokestatic 165, 3) := by decide +kernel
theorem dX9_water_4 : decode cX9_water 4 = .ok (.ifCond .eq 24, 3) := by decide +kernel
theorem dX9_water_7 : decode cX9_water 7 = .ok (.aload_n 0, 1) := by decide +kernel
theorem dX9_water_8 : decode cX9_water 8 = .ok (.getfield 105, 3) := by decide +kernel
theorem dX9_water_11 : decode cX9_water 11 = .ok (.ifCond .le 19, 3) := by decide +kernel
theorem dX9_water_14 : decode cX9_water 14 = .ok (.iload_n 2, 1) := by decide +kernel
theorem dX9_water_15 : decode cX9_water 15 = .ok (.bipush (-9), 2) := by decide +kernel
theorem dX9_water_17 : decode cX9_water 17 = .ok (.if_icmp .eq 13, 3) := by decide +kernel
theorem dX9_water_20 : decode cX9_water 20 = .ok (.aload_n 0, 1) := by decide +kernel
theorem dX9_water_21 : decode cX9_water 21 = .ok (.iload_n 2, 1) := by decide +kernel
theorem dX9_water_22 : decode cX9_water 22 = .ok (.invokevirtual 153, 3) := by decide +kernel
theorem dX9_water_25 : decode cX9_water 25 = .ok (.ifCond .ne 5, 3) := by decide +kernel
theorem dX9_water_28 : decode cX9_water 28 = .ok (.iconst (-1), 1) := by decide +kernel
theorem dX9_water_29 : decode cX9_water 29 = .ok (.ireturn, 1) := by decide +kernel
theorem dX9_water_30 : decode cX9_water 30 = .ok (.aload_n 0, 1) := by decide +kernel
theorem dX9_water_31 : decode cX9_water 31 = .ok (.getfield 105, 3) := by decide +kernel
theorem dX9_water_34 : decode cX9_water 34 = .ok (.ifCond .ne 16, 3) := by decide +kernel
theorem dX9_water_37 : decode cX9_water 37 = .ok (.iload_n 2, 1) := by decide +kernel
theorem dX9_water_38 : decode cX9_water 38 = .ok (.bipush (-9), 2) := by decide +kernel
theorem dX9_water_40 : decode cX9_water 40 = .ok (.if_icmp .ne 8, 3) := by decide +kernel
theorem dX9_water_43 : decode cX9_water 43 = .ok (.bipush (-3), 2) := by decide +kernel
theorem dX9_water_45 : decode cX9_water 45 = .ok (.goto 4, 3) := by decide +kernel
theorem dX9_water_48 : decode cX9_water 48 = .ok (.iconst (-1), 1) := by decide +kernel
theorem dX9_water_49 : decode cX9_water 49 = .ok (.ireturn, 1) := by decide +kernel
theorem dX9_water_50 : decode cX9_water 50 = .ok (.aload_n 0, 1) := by decide +kernel
theorem dX9_water_51 : decode cX9_water 51 = .ok (.getfield 41, 3) := by decide +kernel
theorem dX9_water_54 : decode cX9_water 54 = .ok (.iload_n 1, 1) := by decide +kernel
theorem dX9_water_55 : decode cX9_water 55 = .ok (.iaload, 1) := by decide +kernel
theorem dX9_water_56 : decode cX9_water 56 = .ok (.istore_n 3, 1) := by decide +kernel
theorem dX9_water_57 : decode cX9_water 57 = .ok (.aload_n 0, 1) := by decide +kernel
theorem dX9_water_58 : decode cX9_water 58 = .ok (.getfield 41, 3) := by decide +kernel
theorem dX9_water_61 : decode cX9_water 61 = .ok (.iload_n 1, 1) := by decide +kernel
theorem dX9_water_62 : decode cX9_water 62 = .ok (.iload_n 2, 1) := by decide +kernel
theorem dX9_water_63 : decode cX9_water 63 = .ok (.iastore, 1) := by decide +kernel
theorem dX9_water_64 : decode cX9_water 64 = .ok (.iload_n 3, 1) := by decide +kernel
theorem dX9_water_65 : decode cX9_water 65 = .ok (.ireturn, 1) := by decide +kernel
theorem dX9_frost_0 : decode cX9_frost 0 = .ok (.iload_n 1, 1) := by decide +kernel
theorem dX9_frost_1 : decode cX9_frost 1 = .ok (.invokestatic 165, 3) := by decide +kernel
theorem dX9_frost_4 : decode cX9_frost 4 = .ok (.ifCond .ne 5, 3) := by decide +kernel
theorem dX9_frost_7 : decode cX9_frost 7 = .ok (.iconst (-1), 1) := by decide +kernel
theorem dX9_frost_8 : decode cX9_frost 8 = .ok (.ireturn, 1) := by decide +kernel
theorem dX9_frost_9 : decode cX9_frost 9 = .ok (.aload_n 0, 1) := by decide +kernel
theorem dX9_frost_10 : decode cX9_frost 10 = .ok (.getfield 105, 3) := by decide +kernel
theorem dX9_frost_13 : decode cX9_frost 13 = .ok (.ifCond .ne 6, 3) := by decide +kernel
theorem dX9_frost_16 : decode cX9_frost 16 = .ok (.bipush (-3), 2) := by decide +kernel
theorem dX9_frost_18 : decode cX9_frost 18 = .ok (.ireturn, 1) := by decide +kernel
theorem dX9_frost_19 : decode cX9_frost 19 = .ok (.aload_n 0, 1) := by decide +kernel
theorem dX9_frost_20 : decode cX9_frost 20 = .ok (.getfield 44, 3) := by decide +kernel
theorem dX9_frost_23 : decode cX9_frost 23 = .ok (.iload_n 1, 1) := by decide +kernel
theorem dX9_frost_24 : decode cX9_frost 24 = .ok (.baload, 1) := by decide +kernel
theorem dX9_frost_25 : decode cX9_frost 25 = .ok (.istore_n 3, 1) := by decide +kernel
theorem dX9_frost_26 : decode cX9_frost 26 = .ok (.aload_n 0, 1) := by decide +kernel
theorem dX9_frost_27 : decode cX9_frost 27 = .ok (.getfield 44, 3) := by decide +kernel
theorem dX9_frost_30 : decode cX9_frost 30 = .ok (.iload_n 1, 1) := by decide +kernel
theorem dX9_frost_31 : decode cX9_frost 31 = .ok (.iload_n 2, 1) := by decide +kernel
theorem dX9_frost_32 : decode cX9_frost 32 = .ok (.bastore, 1) := by decide +kernel
theorem dX9_frost_33 : decode cX9_frost 33 = .ok (.iload_n 3, 1) := by decide +kernel
theorem dX9_frost_34 : decode cX9_frost 34 = .ok (.iload_n 2, 1) := by decide +kernel
theorem dX9_frost_35 : decode cX9_frost 35 = .ok (.if_icmp .ne 7, 3) := by decide +kernel
theorem dX9_frost_38 : decode cX9_frost 38 = .ok (.iconst 0, 1) := by decide +kernel
theorem dX9_frost_39 : decode cX9_frost 39 = .ok (.goto 4, 3) := by decide +kernel
theorem dX9_frost_42 : decode cX9_frost 42 = .ok (.iconst 1, 1) := by decide +kernel
theorem dX9_frost_43 : decode cX9_frost 43 = .ok (.ireturn, 1) := by decide +kernel
theorem dX9_crow_0 : decode cX9_crow 0 = .ok (.iload_n 1, 1) := by decide +kernel
theorem dX9_crow_1 : decode cX9_crow 1 = .ok (.invokestatic 165, 3) := by decide +kernel
theorem dX9_crow_4 : decode cX9_crow 4 = .ok (.ifCond .eq 11, 3) := by decide +kernel
theorem dX9_crow_7 : decode cX9_crow 7 = .ok (.aload_n 0, 1) := by decide +kernel
theorem dX9_crow_8 : decode cX9_crow 8 = .ok (.iload_n 2, 1) := by decide +kernel
theorem dX9_crow_9 : decode cX9_crow 9 = .ok (.invokevirtual 153, 3) := by decide +kernel
theorem dX9_crow_12 : decode cX9_crow 12 = .ok (.ifCond .ne 5, 3) := by decide +kernel
theorem dX9_crow_15 : decode cX9_crow 15 = .ok (.iconst (-1), 1) := by decide +kernel
theorem dX9_crow_16 : decode cX9_crow 16 = .ok (.ireturn, 1) := by decide +kernel
theorem dX9_crow_17 : decode cX9_crow 17 = .ok (.aload_n 0, 1) := by decide +kernel
theorem dX9_crow_18 : decode cX9_crow 18 = .ok (.getfield 138, 3) := by decide +kernel
theorem dX9_crow_21 : decode cX9_crow 21 = .ok (.bipush 6, 2) := by decide +kernel
theorem dX9_crow_23 : decode cX9_crow 23 = .ok (.if_icmp .ne 6, 3) := by decide +kernel
theorem dX9_crow_26 : decode cX9_crow 26 = .ok (.bipush (-4), 2) := by decide +kernel
theorem dX9_crow_28 : decode cX9_crow 28 = .ok (.ireturn, 1) := by decide +kernel
theorem dX9_crow_29 : decode cX9_crow 29 = .ok (.aload_n 0, 1) := by decide +kernel
theorem dX9_crow_30 : decode cX9_crow 30 = .ok (.getfield 62, 3) := by decide +kernel
theorem dX9_crow_33 : decode cX9_crow 33 = .ok (.aload_n 0, 1) := by decide +kernel
theorem dX9_crow_34 : decode cX9_crow 34 = .ok (.getfield 138, 3) := by decide +kernel
theorem dX9_crow_37 : decode cX9_crow 37 = .ok (.iload_n 1, 1) := by decide +kernel
theorem dX9_crow_38 : decode cX9_crow 38 = .ok (.iastore, 1) := by decide +kernel
theorem dX9_crow_39 : decode cX9_crow 39 = .ok (.aload_n 0, 1) := by decide +kernel
theorem dX9_crow_40 : decode cX9_crow 40 = .ok (.getfield 65, 3) := by decide +kernel
theorem dX9_crow_43 : decode cX9_crow 43 = .ok (.aload_n 0, 1) := by decide +kernel
theorem dX9_crow_44 : decode cX9_crow 44 = .ok (.getfield 138, 3) := by decide +kernel
theorem dX9_crow_47 : decode cX9_crow 47 = .ok (.iload_n 2, 1) := by decide +kernel
theorem dX9_crow_48 : decode cX9_crow 48 = .ok (.iastore, 1) := by decide +kernel
theorem dX9_crow_49 : decode cX9_crow 49 = .ok (.aload_n 0, 1) := by decide +kernel
theorem dX9_crow_50 : decode cX9_crow 50 = .ok (.dup, 1) := by decide +kernel
theorem dX9_crow_51 : decode cX9_crow 51 = .ok (.getfield 138, 3) := by decide +kernel
theorem dX9_crow_54 : decode cX9_crow 54 = .ok (.iconst 1, 1) := by decide +kernel
theorem dX9_crow_55 : decode cX9_crow 55 = .ok (.iadd, 1) := by decide +kernel
theorem dX9_crow_56 : decode cX9_crow 56 = .ok (.putfield 138, 3) := by decide +kernel
theorem dX9_crow_59 : decode cX9_crow 59 = .ok (.aload_n 0, 1) := by decide +kernel
theorem dX9_crow_60 : decode cX9_crow 60 = .ok (.getfield 138, 3) := by decide +kernel
theorem dX9_crow_63 : decode cX9_crow 63 = .ok (.iconst 1, 1) := by decide +kernel
theorem dX9_crow_64 : decode cX9_crow 64 = .ok (.isub, 1) := by decide +kernel
theorem dX9_crow_65 : decode cX9_crow 65 = .ok (.ireturn, 1) := by decide +kernel
theorem dX9_shoo_0 : decode cX9_shoo 0 = .ok (.iload_n 1, 1) := by decide +kernel
theorem dX9_shoo_1 : decode cX9_shoo 1 = .ok (.iconst 0, 1) := by decide +kernel
theorem dX9_shoo_2 : decode cX9_shoo 2 = .ok (.aload_n 0, 1) := by decide +kernel
theorem dX9_shoo_3 : decode cX9_shoo 3 = .ok (.getfield 138, 3) := by decide +kernel
theorem dX9_shoo_6 : decode cX9_shoo 6 = .ok (.invokestatic 101, 3) := by decide +kernel
theorem dX9_shoo_9 : decode cX9_shoo 9 = .ok (.ifCond .ne 6, 3) := by decide +kernel
theorem dX9_shoo_12 : decode cX9_shoo 12 = .ok (.bipush (-2), 2) := by decide +kernel
theorem dX9_shoo_14 : decode cX9_shoo 14 = .ok (.ireturn, 1) := by decide +kernel
theorem dX9_shoo_15 : decode cX9_shoo 15 = .ok (.aload_n 0, 1) := by decide +kernel
theorem dX9_shoo_16 : decode cX9_shoo 16 = .ok (.dup, 1) := by decide +kernel
theorem dX9_shoo_17 : decode cX9_shoo 17 = .ok (.getfield 138, 3) := by decide +kernel
theorem dX9_shoo_20 : decode cX9_shoo 20 = .ok (.iload_n 1, 1) := by decide +kernel
theorem dX9_shoo_21 : decode cX9_shoo 21 = .ok (.isub, 1) := by decide +kernel
theorem dX9_shoo_22 : decode cX9_shoo 22 = .ok (.putfield 138, 3) := by decide +kernel
theorem dX9_shoo_25 : decode cX9_shoo 25 = .ok (.aload_n 0, 1) := by decide +kernel
theorem dX9_shoo_26 : decode cX9_shoo 26 = .ok (.getfield 138, 3) := by decide +kernel
theorem dX9_shoo_29 : decode cX9_shoo 29 = .ok (.ireturn, 1) := by decide +kernel
theorem dX9_fell_0 : decode cX9_fell 0 = .ok (.aload_n 0, 1) := by decide +kernel
theorem dX9_fell_1 : decode cX9_fell 1 = .ok (.iload_n 1, 1) := by decide +kernel
theorem dX9_fell_2 : decode cX9_fell 2 = .ok (.invokevirtual 153, 3) := by decide +kernel
theorem dX9_fell_5 : decode cX9_fell 5 = .ok (.ifCond .ne 5, 3) := by decide +kernel
theorem dX9_fell_8 : decode cX9_fell 8 = .ok (.iconst (-1), 1) := by decide +kernel
theorem dX9_fell_9 : decode cX9_fell 9 = .ok (.ireturn, 1) := by decide +kernel
theorem dX9_fell_10 : decode cX9_fell 10 = .ok (.aload_n 0, 1) := by decide +kernel
theorem dX9_fell_11 : decode cX9_fell 11 = .ok (.getfield 28, 3) := by decide +kernel
theorem dX9_fell_14 : decode cX9_fell 14 = .ok (.iload_n 1, 1) := by decide +kernel
theorem dX9_fell_15 : decode cX9_fell 15 = .ok (.baload, 1) := by decide +kernel
theorem dX9_fell_16 : decode cX9_fell 16 = .ok (.istore_n 3, 1) := by decide +kernel
theorem dX9_fell_17 : decode cX9_fell 17 = .ok (.aload_n 0, 1) := by decide +kernel
theorem dX9_fell_18 : decode cX9_fell 18 = .ok (.getfield 28, 3) := by decide +kernel
theorem dX9_fell_21 : decode cX9_fell 21 = .ok (.iload_n 1, 1) := by decide +kernel
theorem dX9_fell_22 : decode cX9_fell 22 = .ok (.iload_n 2, 1) := by decide +kernel
theorem dX9_fell_23 : decode cX9_fell 23 = .ok (.bastore, 1) := by decide +kernel
theorem dX9_fell_24 : decode cX9_fell 24 = .ok (.iload_n 3, 1) := by decide +kernel
theorem dX9_fell_25 : decode cX9_fell 25 = .ok (.iload_n 2, 1) := by decide +kernel
theorem dX9_fell_26 : decode cX9_fell 26 = .ok (.if_icmp .ne 7, 3) := by decide +kernel
theorem dX9_fell_29 : decode cX9_fell 29 = .ok (.iconst 0, 1) := by decide +kernel
theorem dX9_fell_30 : decode cX9_fell 30 = .ok (.goto 4, 3) := by decide +kernel
theorem dX9_fell_33 : decode cX9_fell 33 = .ok (.iconst 1, 1) := by decide +kernel
theorem dX9_fell_34 : decode cX9_fell 34 = .ok (.ireturn, 1) := by decide +kernel
theorem dX9_wateredOn_0 : decode cX9_wateredOn 0 = .ok (.aload_n 0, 1) := by decide +kernel
theorem dX9_wateredOn_1 : decode cX9_wateredOn 1 = .ok (.getfield 80, 3) := by decide +kernel
theorem dX9_wateredOn_4 : decode cX9_wateredOn 4 = .ok (.bipush (-9), 2) := by decide +kernel
theorem dX9_wateredOn_6 : decode cX9_wateredOn 6 = .ok (.if_icmp .ne 10, 3) := by decide +kernel
theorem dX9_wateredOn_9 : decode cX9_wateredOn 9 = .ok (.aload_n 0, 1) := by decide +kernel
theorem dX9_wateredOn_10 : decode cX9_wateredOn 10 = .ok (.getfield 41, 3) := by decide +kernel
theorem dX9_wateredOn_13 : decode cX9_wateredOn 13 = .ok (.iload_n 1, 1) := by decide +kernel
theorem dX9_wateredOn_14 : decode cX9_wateredOn 14 = .ok (.iaload, 1) := by decide +kernel
theorem dX9_wateredOn_15 : decode cX9_wateredOn 15 = .ok (.ireturn, 1) := by decide +kernel
theorem dX9_wateredOn_16 : decode cX9_wateredOn 16 = .ok (.iload_n 1, 1) := by decide +kernel
theorem dX9_wateredOn_17 : decode cX9_wateredOn 17 = .ok (.aload_n 0, 1) := by decide +kernel
theorem dX9_wateredOn_18 : decode cX9_wateredOn 18 = .ok (.getfield 80, 3) := by decide +kernel
theorem dX9_wateredOn_21 : decode cX9_wateredOn 21 = .ok (.if_icmp .ge 12, 3) := by decide +kernel
theorem dX9_wateredOn_24 : decode cX9_wateredOn 24 = .ok (.aload_n 0, 1) := by decide +kernel
theorem dX9_wateredOn_25 : decode cX9_wateredOn 25 = .ok (.getfield 77, 3) := by decide +kernel
theorem dX9_wateredOn_28 : decode cX9_wateredOn 28 = .ok (.iload_n 1, 1) := by decide +kernel
theorem dX9_wateredOn_29 : decode cX9_wateredOn 29 = .ok (.iaload, 1) := by decide +kernel
theorem dX9_wateredOn_30 : decode cX9_wateredOn 30 = .ok (.goto 5, 3) := by decide +kernel
theorem dX9_wateredOn_33 : decode cX9_wateredOn 33 = .ok (.bipush (-9), 2) := by decide +kernel
theorem dX9_wateredOn_35 : decode cX9_wateredOn 35 = .ok (.ireturn, 1) := by decide +kernel
theorem dX9_giveWater_0 : decode cX9_giveWater 0 = .ok (.iconst 0, 1) := by decide +kernel
theorem dX9_giveWater_1 : decode cX9_giveWater 1 = .ok (.istore_n 2, 1) := by decide +kernel
theorem dX9_giveWater_2 : decode cX9_giveWater 2 = .ok (.iload_n 2, 1) := by decide +kernel
theorem dX9_giveWater_3 : decode cX9_giveWater 3 = .ok (.aload_n 0, 1) := by decide +kernel
theorem dX9_giveWater_4 : decode cX9_giveWater 4 = .ok (.getfield 105, 3) := by decide +kernel
theorem dX9_giveWater_7 : decode cX9_giveWater 7 = .ok (.if_icmp .ge 33, 3) := by decide +kernel
theorem dX9_giveWater_10 : decode cX9_giveWater 10 = .ok (.aload_n 0, 1) := by decide +kernel
theorem dX9_giveWater_11 : decode cX9_giveWater 11 = .ok (.getfield 44, 3) := by decide +kernel
theorem dX9_giveWater_14 : decode cX9_giveWater 14 = .ok (.iload_n 1, 1) := by decide +kernel
theorem dX9_giveWater_15 : decode cX9_giveWater 15 = .ok (.baload, 1) := by decide +kernel
theorem dX9_giveWater_16 : decode cX9_giveWater 16 = .ok (.ifCond .ne 24, 3) := by decide +kernel
theorem dX9_giveWater_19 : decode cX9_giveWater 19 = .ok (.aload_n 0, 1) := by decide +kernel
theorem dX9_giveWater_20 : decode cX9_giveWater 20 = .ok (.getfield 68, 3) := by decide +kernel
theorem dX9_giveWater_23 : decode cX9_giveWater 23 = .ok (.iload_n 2, 1) := by decide +kernel
theorem dX9_giveWater_24 : decode cX9_giveWater 24 = .ok (.dup2, 1) := by decide +kernel
theorem dX9_giveWater_25 : decode cX9_giveWater 25 = .ok (.iaload, 1) := by decide +kernel
theorem dX9_giveWater_26 : decode cX9_giveWater 26 = .ok (.aload_n 0, 1) := by decide +kernel
theorem dX9_giveWater_27 : decode cX9_giveWater 27 = .ok (.getfield 38, 3) := by decide +kernel
theorem dX9_giveWater_30 : decode cX9_giveWater 30 = .ok (.iload_n 1, 1) := by decide +kernel
theorem dX9_giveWater_31 : decode cX9_giveWater 31 = .ok (.iaload, 1) := by decide +kernel
theorem dX9_giveWater_32 : decode cX9_giveWater 32 = .ok (.iadd, 1) := by decide +kernel
theorem dX9_giveWater_33 : decode cX9_giveWater 33 = .ok (.iastore, 1) := by decide +kernel
theorem dX9_giveWater_34 : decode cX9_giveWater 34 = .ok (.iinc 2 1, 3) := by decide +kernel
theorem dX9_giveWater_37 : decode cX9_giveWater 37 = .ok (.goto (-35), 3) := by decide +kernel
theorem dX9_giveWater_40 : decode cX9_giveWater 40 = .ok (.aload_n 0, 1) := by decide +kernel
theorem dX9_giveWater_41 : decode cX9_giveWater 41 = .ok (.iload_n 1, 1) := by decide +kernel
theorem dX9_giveWater_42 : decode cX9_giveWater 42 = .ok (.invokevirtual 168, 3) := by decide +kernel
theorem dX9_giveWater_45 : decode cX9_giveWater 45 = .ok (.istore_n 2, 1) := by decide +kernel
theorem dX9_giveWater_46 : decode cX9_giveWater 46 = .ok (.iload_n 2, 1) := by decide +kernel
theorem dX9_giveWater_47 : decode cX9_giveWater 47 = .ok (.bipush (-9), 2) := by decide +kernel
theorem dX9_giveWater_49 : decode cX9_giveWater 49 = .ok (.if_icmp .eq 22, 3) := by decide +kernel
theorem dX9_giveWater_52 : decode cX9_giveWater 52 = .ok (.aload_n 0, 1) := by decide +kernel
theorem dX9_giveWater_53 : decode cX9_giveWater 53 = .ok (.getfield 44, 3) := by decide +kernel
theorem dX9_giveWater_56 : decode cX9_giveWater 56 = .ok (.iload_n 1, 1) := by decide +kernel
theorem dX9_giveWater_57 : decode cX9_giveWater 57 = .ok (.baload, 1) := by decide +kernel
theorem dX9_giveWater_58 : decode cX9_giveWater 58 = .ok (.ifCond .ne 13, 3) := by decide +kernel
theorem dX9_giveWater_61 : decode cX9_giveWater 61 = .ok (.aload_n 0, 1) := by decide +kernel
theorem dX9_giveWater_62 : decode cX9_giveWater 62 = .ok (.getfield 68, 3) := by decide +kernel
theorem dX9_giveWater_65 : decode cX9_giveWater 65 = .ok (.iload_n 2, 1) := by decide +kernel
theorem dX9_giveWater_66 : decode cX9_giveWater 66 = .ok (.dup2, 1) := by decide +kernel
theorem dX9_giveWater_67 : decode cX9_giveWater 67 = .ok (.iaload, 1) := by decide +kernel
theorem dX9_giveWater_68 : decode cX9_giveWater 68 = .ok (.iconst 3, 1) := by decide +kernel
theorem dX9_giveWater_69 : decode cX9_giveWater 69 = .ok (.iadd, 1) := by decide +kernel
theorem dX9_giveWater_70 : decode cX9_giveWater 70 = .ok (.iastore, 1) := by decide +kernel
theorem dX9_giveWater_71 : decode cX9_giveWater 71 = .ok (.return_, 1) := by decide +kernel
theorem dX9_bears_0 : decode cX9_bears 0 = .ok (.aload_n 0, 1) := by decide +kernel
theorem dX9_bears_1 : decode cX9_bears 1 = .ok (.getfield 68, 3) := by decide +kernel
theorem dX9_bears_4 : decode cX9_bears 4 = .ok (.iload_n 1, 1) := by decide +kernel
theorem dX9_bears_5 : decode cX9_bears 5 = .ok (.iaload, 1) := by decide +kernel
theorem dX9_bears_6 : decode cX9_bears 6 = .ok (.aload_n 0, 1) := by decide +kernel
theorem dX9_bears_7 : decode cX9_bears 7 = .ok (.iload_n 1, 1) := by decide +kernel
theorem dX9_bears_8 : decode cX9_bears 8 = .ok (.invokevirtual 156, 3) := by decide +kernel
theorem dX9_bears_11 : decode cX9_bears 11 = .ok (.if_icmp .lt 7, 3) := by decide +kernel
theorem dX9_bears_14 : decode cX9_bears 14 = .ok (.iconst 1, 1) := by decide +kernel
theorem dX9_bears_15 : decode cX9_bears 15 = .ok (.goto 4, 3) := by decide +kernel
theorem dX9_bears_18 : decode cX9_bears 18 = .ok (.iconst 0, 1) := by decide +kernel
theorem dX9_bears_19 : decode cX9_bears 19 = .ok (.ireturn, 1) := by decide +kernel
theorem dX9_useKey_0 : decode cX9_useKey 0 = .ok (.iconst 0, 1) := by decide +kernel
theorem dX9_useKey_1 : decode cX9_useKey 1 = .ok (.istore_n 3, 1) := by decide +kernel
theorem dX9_useKey_2 : decode cX9_useKey 2 = .ok (.iload_n 3, 1) := by decide +kernel
theorem dX9_useKey_3 : decode cX9_useKey 3 = .ok (.aload_n 0, 1) := by decide +kernel
theorem dX9_useKey_4 : decode cX9_useKey 4 = .ok (.getfield 108, 3) := by decide +kernel
theorem dX9_useKey_7 : decode cX9_useKey 7 = .ok (.if_icmp .ge 60, 3) := by decide +kernel
theorem dX9_useKey_10 : decode cX9_useKey 10 = .ok (.aload_n 0, 1) := by decide +kernel
theorem dX9_useKey_11 : decode cX9_useKey 11 = .ok (.getfield 71, 3) := by decide +kernel
theorem dX9_useKey_14 : decode cX9_useKey 14 = .ok (.iload_n 3, 1) := by decide +kernel
theorem dX9_useKey_15 : decode cX9_useKey 15 = .ok (.iaload, 1) := by decide +kernel
theorem dX9_useKey_16 : decode cX9_useKey 16 = .ok (.bipush (-9), 2) := by decide +kernel
theorem dX9_useKey_18 : decode cX9_useKey 18 = .ok (.if_icmp .ne 43, 3) := by decide +kernel
theorem dX9_useKey_21 : decode cX9_useKey 21 = .ok (.aload_n 0, 1) := by decide +kernel
theorem dX9_useKey_22 : decode cX9_useKey 22 = .ok (.iload_n 1, 1) := by decide +kernel
theorem dX9_useKey_23 : decode cX9_useKey 23 = .ok (.invokevirtual 159, 3) := by decide +kernel
theorem dX9_useKey_26 : decode cX9_useKey 26 = .ok (.aload_n 0, 1) := by decide +kernel
theorem dX9_useKey_27 : decode cX9_useKey 27 = .ok (.getfield 32, 3) := by decide +kernel
theorem dX9_useKey_30 : decode cX9_useKey 30 = .ok (.iload_n 3, 1) := by decide +kernel
theorem dX9_useKey_31 : decode cX9_useKey 31 = .ok (.iaload, 1) := by decide +kernel
theorem dX9_useKey_32 : decode cX9_useKey 32 = .ok (.ishr, 1) := by decide +kernel
theorem dX9_useKey_33 : decode cX9_useKey 33 = .ok (.iconst 1, 1) := by decide +kernel
theorem dX9_useKey_34 : decode cX9_useKey 34 = .ok (.iand, 1) := by decide +kernel
theorem dX9_useKey_35 : decode cX9_useKey 35 = .ok (.iconst 1, 1) := by decide +kernel
theorem dX9_useKey_36 : decode cX9_useKey 36 = .ok (.if_icmp .ne 25, 3) := by decide +kernel
theorem dX9_useKey_39 : decode cX9_useKey 39 = .ok (.aload_n 0, 1) := by decide +kernel
theorem dX9_useKey_40 : decode cX9_useKey 40 = .ok (.getfield 71, 3) := by decide +kernel
theorem dX9_useKey_43 : decode cX9_useKey 43 = .ok (.iload_n 3, 1) := by decide +kernel
theorem dX9_useKey_44 : decode cX9_useKey 44 = .ok (.iload_n 2, 1) := by decide +kernel
theorem dX9_useKey_45 : decode cX9_useKey 45 = .ok (.iastore, 1) := by decide +kernel
theorem dX9_useKey_46 : decode cX9_useKey 46 = .ok (.aload_n 0, 1) := by decide +kernel
theorem dX9_useKey_47 : decode cX9_useKey 47 = .ok (.getfield 74, 3) := by decide +kernel
theorem dX9_useKey_50 : decode cX9_useKey 50 = .ok (.iload_n 3, 1) := by decide +kernel
theorem dX9_useKey_51 : decode cX9_useKey 51 = .ok (.iload_n 1, 1) := by decide +kernel
theorem dX9_useKey_52 : decode cX9_useKey 52 = .ok (.iastore, 1) := by decide +kernel
theorem dX9_useKey_53 : decode cX9_useKey 53 = .ok (.aload_n 0, 1) := by decide +kernel
theorem dX9_useKey_54 : decode cX9_useKey 54 = .ok (.getfield 68, 3) := by decide +kernel
theorem dX9_useKey_57 : decode cX9_useKey 57 = .ok (.iload_n 1, 1) := by decide +kernel
theorem dX9_useKey_58 : decode cX9_useKey 58 = .ok (.iconst 0, 1) := by decide +kernel
theorem dX9_useKey_59 : decode cX9_useKey 59 = .ok (.iastore, 1) := by decide +kernel
theorem dX9_useKey_60 : decode cX9_useKey 60 = .ok (.return_, 1) := by decide +kernel
theorem dX9_useKey_61 : decode cX9_useKey 61 = .ok (.iinc 3 1, 3) := by decide +kernel
theorem dX9_useKey_64 : decode cX9_useKey 64 = .ok (.goto (-62), 3) := by decide +kernel
theorem dX9_useKey_67 : decode cX9_useKey 67 = .ok (.return_, 1) := by decide +kernel
theorem dX9_goDay_0 : decode cX9_goDay 0 = .ok (.aload_n 0, 1) := by decide +kernel
theorem dX9_goDay_1 : decode cX9_goDay 1 = .ok (.iload_n 1, 1) := by decide +kernel
theorem dX9_goDay_2 : decode cX9_goDay 2 = .ok (.invokevirtual 171, 3) := by decide +kernel
theorem dX9_goDay_5 : decode cX9_goDay 5 = .ok (.iconst 0, 1) := by decide +kernel
theorem dX9_goDay_6 : decode cX9_goDay 6 = .ok (.istore_n 2, 1) := by decide +kernel
theorem dX9_goDay_7 : decode cX9_goDay 7 = .ok (.iload_n 2, 1) := by decide +kernel
theorem dX9_goDay_8 : decode cX9_goDay 8 = .ok (.aload_n 0, 1) := by decide +kernel
theorem dX9_goDay_9 : decode cX9_goDay 9 = .ok (.getfield 138, 3) := by decide +kernel
theorem dX9_goDay_12 : decode cX9_goDay 12 = .ok (.if_icmp .ge 44, 3) := by decide +kernel
theorem dX9_goDay_15 : decode cX9_goDay 15 = .ok (.aload_n 0, 1) := by decide +kernel
theorem dX9_goDay_16 : decode cX9_goDay 16 = .ok (.getfield 62, 3) := by decide +kernel
theorem dX9_goDay_19 : decode cX9_goDay 19 = .ok (.iload_n 2, 1) := by decide +kernel
theorem dX9_goDay_20 : decode cX9_goDay 20 = .ok (.iaload, 1) := by decide +kernel
theorem dX9_goDay_21 : decode cX9_goDay 21 = .ok (.iload_n 1, 1) := by decide +kernel
theorem dX9_goDay_22 : decode cX9_goDay 22 = .ok (.if_icmp .ne 28, 3) := by decide +kernel
theorem dX9_goDay_25 : decode cX9_goDay 25 = .ok (.aload_n 0, 1) := by decide +kernel
theorem dX9_goDay_26 : decode cX9_goDay 26 = .ok (.aload_n 0, 1) := by decide +kernel
theorem dX9_goDay_27 : decode cX9_goDay 27 = .ok (.getfield 65, 3) := by decide +kernel
theorem dX9_goDay_30 : decode cX9_goDay 30 = .ok (.iload_n 2, 1) := by decide +kernel
theorem dX9_goDay_31 : decode cX9_goDay 31 = .ok (.iaload, 1) := by decide +kernel
theorem dX9_goDay_32 : decode cX9_goDay 32 = .ok (.invokevirtual 175, 3) := by decide +kernel
theorem dX9_goDay_35 : decode cX9_goDay 35 = .ok (.ifCond .eq 15, 3) := by decide +kernel
theorem dX9_goDay_38 : decode cX9_goDay 38 = .ok (.aload_n 0, 1) := by decide +kernel
theorem dX9_goDay_39 : decode cX9_goDay 39 = .ok (.getfield 68, 3) := by decide +kernel
theorem dX9_goDay_42 : decode cX9_goDay 42 = .ok (.aload_n 0, 1) := by decide +kernel
theorem dX9_goDay_43 : decode cX9_goDay 43 = .ok (.getfield 65, 3) := by decide +kernel
theorem dX9_goDay_46 : decode cX9_goDay 46 = .ok (.iload_n 2, 1) := by decide +kernel
theorem dX9_goDay_47 : decode cX9_goDay 47 = .ok (.iaload, 1) := by decide +kernel
theorem dX9_goDay_48 : decode cX9_goDay 48 = .ok (.iconst 0, 1) := by decide +kernel
theorem dX9_goDay_49 : decode cX9_goDay 49 = .ok (.iastore, 1) := by decide +kernel
theorem dX9_goDay_50 : decode cX9_goDay 50 = .ok (.iinc 2 1, 3) := by decide +kernel
theorem dX9_goDay_53 : decode cX9_goDay 53 = .ok (.goto (-46), 3) := by decide +kernel
theorem dX9_goDay_56 : decode cX9_goDay 56 = .ok (.iconst 0, 1) := by decide +kernel
theorem dX9_goDay_57 : decode cX9_goDay 57 = .ok (.istore_n 2, 1) := by decide +kernel
theorem dX9_goDay_58 : decode cX9_goDay 58 = .ok (.iload_n 2, 1) := by decide +kernel
theorem dX9_goDay_59 : decode cX9_goDay 59 = .ok (.aload_n 0, 1) := by decide +kernel
theorem dX9_goDay_60 : decode cX9_goDay 60 = .ok (.getfield 105, 3) := by decide +kernel
theorem dX9_goDay_63 : decode cX9_goDay 63 = .ok (.if_icmp .ge 32, 3) := by decide +kernel
theorem dX9_goDay_66 : decode cX9_goDay 66 = .ok (.aload_n 0, 1) := by decide +kernel
theorem dX9_goDay_67 : decode cX9_goDay 67 = .ok (.getfield 28, 3) := by decide +kernel
theorem dX9_goDay_70 : decode cX9_goDay 70 = .ok (.iload_n 2, 1) := by decide +kernel
theorem dX9_goDay_71 : decode cX9_goDay 71 = .ok (.baload, 1) := by decide +kernel
theorem dX9_goDay_72 : decode cX9_goDay 72 = .ok (.ifCond .ne 17, 3) := by decide +kernel
theorem dX9_goDay_75 : decode cX9_goDay 75 = .ok (.aload_n 0, 1) := by decide +kernel
theorem dX9_goDay_76 : decode cX9_goDay 76 = .ok (.iload_n 2, 1) := by decide +kernel
theorem dX9_goDay_77 : decode cX9_goDay 77 = .ok (.invokevirtual 175, 3) := by decide +kernel
theorem dX9_goDay_80 : decode cX9_goDay 80 = .ok (.ifCond .eq 9, 3) := by decide +kernel
theorem dX9_goDay_83 : decode cX9_goDay 83 = .ok (.aload_n 0, 1) := by decide +kernel
theorem dX9_goDay_84 : decode cX9_goDay 84 = .ok (.iload_n 2, 1) := by decide +kernel
theorem dX9_goDay_85 : decode cX9_goDay 85 = .ok (.iload_n 1, 1) := by decide +kernel
theorem dX9_goDay_86 : decode cX9_goDay 86 = .ok (.invokevirtual 178, 3) := by decide +kernel
theorem dX9_goDay_89 : decode cX9_goDay 89 = .ok (.iinc 2 1, 3) := by decide +kernel
theorem dX9_goDay_92 : decode cX9_goDay 92 = .ok (.goto (-34), 3) := by decide +kernel
theorem dX9_goDay_95 : decode cX9_goDay 95 = .ok (.iconst 0, 1) := by decide +kernel
theorem dX9_goDay_96 : decode cX9_goDay 96 = .ok (.istore_n 2, 1) := by decide +kernel
theorem dX9_goDay_97 : decode cX9_goDay 97 = .ok (.iload_n 2, 1) := by decide +kernel
theorem dX9_goDay_98 : decode cX9_goDay 98 = .ok (.aload_n 0, 1) := by decide +kernel
theorem dX9_goDay_99 : decode cX9_goDay 99 = .ok (.getfield 108, 3) := by decide +kernel
theorem dX9_goDay_102 : decode cX9_goDay 102 = .ok (.if_icmp .ge 46, 3) := by decide +kernel
theorem dX9_goDay_105 : decode cX9_goDay 105 = .ok (.aload_n 0, 1) := by decide +kernel
theorem dX9_goDay_106 : decode cX9_goDay 106 = .ok (.getfield 71, 3) := by decide +kernel
theorem dX9_goDay_109 : decode cX9_goDay 109 = .ok (.iload_n 2, 1) := by decide +kernel
theorem dX9_goDay_110 : decode cX9_goDay 110 = .ok (.aload_n 0, 1) := by decide +kernel
theorem dX9_goDay_111 : decode cX9_goDay 111 = .ok (.getfield 71, 3) := by decide +kernel
theorem dX9_goDay_114 : decode cX9_goDay 114 = .ok (.iload_n 2, 1) := by decide +kernel
theorem dX9_goDay_115 : decode cX9_goDay 115 = .ok (.iaload, 1) := by decide +kernel
theorem dX9_goDay_116 : decode cX9_goDay 116 = .ok (.bipush (-9), 2) := by decide +kernel
theorem dX9_goDay_118 : decode cX9_goDay 118 = .ok (.if_icmp .ne 17, 3) := by decide +kernel
theorem dX9_goDay_121 : decode cX9_goDay 121 = .ok (.aload_n 0, 1) := by decide +kernel
theorem dX9_goDay_122 : decode cX9_goDay 122 = .ok (.getfield 35, 3) := by decide +kernel
theorem dX9_goDay_125 : decode cX9_goDay 125 = .ok (.iload_n 2, 1) := by decide +kernel
theorem dX9_goDay_126 : decode cX9_goDay 126 = .ok (.iaload, 1) := by decide +kernel
theorem dX9_goDay_127 : decode cX9_goDay 127 = .ok (.iload_n 1, 1) := by decide +kernel
theorem dX9_goDay_128 : decode cX9_goDay 128 = .ok (.if_icmp .ne 7, 3) := by decide +kernel
theorem dX9_goDay_131 : decode cX9_goDay 131 = .ok (.iload_n 1, 1) := by decide +kernel
theorem dX9_goDay_132 : decode cX9_goDay 132 = .ok (.goto 9, 3) := by decide +kernel
theorem dX9_goDay_135 : decode cX9_goDay 135 = .ok (.aload_n 0, 1) := by decide +kernel
theorem dX9_goDay_136 : decode cX9_goDay 136 = .ok (.getfield 71, 3) := by decide +kernel
theorem dX9_goDay_139 : decode cX9_goDay 139 = .ok (.iload_n 2, 1) := by decide +kernel
theorem dX9_goDay_140 : decode cX9_goDay 140 = .ok (.iaload, 1) := by decide +kernel
theorem dX9_goDay_141 : decode cX9_goDay 141 = .ok (.iastore, 1) := by decide +kernel
theorem dX9_goDay_142 : decode cX9_goDay 142 = .ok (.iinc 2 1, 3) := by decide +kernel
theorem dX9_goDay_145 : decode cX9_goDay 145 = .ok (.goto (-48), 3) := by decide +kernel
theorem dX9_goDay_148 : decode cX9_goDay 148 = .ok (.return_, 1) := by decide +kernel
theorem dX9_goTo_0 : decode cX9_goTo 0 = .ok (.iconst 0, 1) := by decide +kernel
theorem dX9_goTo_1 : decode cX9_goTo 1 = .ok (.istore_n 2, 1) := by decide +kernel
theorem dX9_goTo_2 : decode cX9_goTo 2 = .ok (.iload_n 2, 1) := by decide +kernel
theorem dX9_goTo_3 : decode cX9_goTo 3 = .ok (.aload_n 0, 1) := by decide +kernel
theorem dX9_goTo_4 : decode cX9_goTo 4 = .ok (.getfield 105, 3) := by decide +kernel
theorem dX9_goTo_7 : decode cX9_goTo 7 = .ok (.if_icmp .ge 16, 3) := by decide +kernel
theorem dX9_goTo_10 : decode cX9_goTo 10 = .ok (.aload_n 0, 1) := by decide +kernel
theorem dX9_goTo_11 : decode cX9_goTo 11 = .ok (.getfield 68, 3) := by decide +kernel
theorem dX9_goTo_14 : decode cX9_goTo 14 = .ok (.iload_n 2, 1) := by decide +kernel
theorem dX9_goTo_15 : decode cX9_goTo 15 = .ok (.iconst 0, 1) := by decide +kernel
theorem dX9_goTo_16 : decode cX9_goTo 16 = .ok (.iastore, 1) := by decide +kernel
theorem dX9_goTo_17 : decode cX9_goTo 17 = .ok (.iinc 2 1, 3) := by decide +kernel
theorem dX9_goTo_20 : decode cX9_goTo 20 = .ok (.goto (-18), 3) := by decide +kernel
theorem dX9_goTo_23 : decode cX9_goTo 23 = .ok (.iconst 0, 1) := by decide +kernel
theorem dX9_goTo_24 : decode cX9_goTo 24 = .ok (.istore_n 2, 1) := by decide +kernel
theorem dX9_goTo_25 : decode cX9_goTo 25 = .ok (.iload_n 2, 1) := by decide +kernel
theorem dX9_goTo_26 : decode cX9_goTo 26 = .ok (.aload_n 0, 1) := by decide +kernel
theorem dX9_goTo_27 : decode cX9_goTo 27 = .ok (.getfield 108, 3) := by decide +kernel
theorem dX9_goTo_30 : decode cX9_goTo 30 = .ok (.if_icmp .ge 25, 3) := by decide +kernel
theorem dX9_goTo_33 : decode cX9_goTo 33 = .ok (.aload_n 0, 1) := by decide +kernel
theorem dX9_goTo_34 : decode cX9_goTo 34 = .ok (.getfield 71, 3) := by decide +kernel
theorem dX9_goTo_37 : decode cX9_goTo 37 = .ok (.iload_n 2, 1) := by decide +kernel
theorem dX9_goTo_38 : decode cX9_goTo 38 = .ok (.bipush (-9), 2) := by decide +kernel
theorem dX9_goTo_40 : decode cX9_goTo 40 = .ok (.iastore, 1) := by decide +kernel
theorem dX9_goTo_41 : decode cX9_goTo 41 = .ok (.aload_n 0, 1) := by decide +kernel
theorem dX9_goTo_42 : decode cX9_goTo 42 = .ok (.getfield 74, 3) := by decide +kernel
theorem dX9_goTo_45 : decode cX9_goTo 45 = .ok (.iload_n 2, 1) := by decide +kernel
theorem dX9_goTo_46 : decode cX9_goTo 46 = .ok (.bipush (-9), 2) := by decide +kernel
theorem dX9_goTo_48 : decode cX9_goTo 48 = .ok (.iastore, 1) := by decide +kernel
theorem dX9_goTo_49 : decode cX9_goTo 49 = .ok (.iinc 2 1, 3) := by decide +kernel
theorem dX9_goTo_52 : decode cX9_goTo 52 = .ok (.goto (-27), 3) := by decide +kernel
theorem dX9_goTo_55 : decode cX9_goTo 55 = .ok (.iconst 0, 1) := by decide +kernel
theorem dX9_goTo_56 : decode cX9_goTo 56 = .ok (.istore_n 2, 1) := by decide +kernel
theorem dX9_goTo_57 : decode cX9_goTo 57 = .ok (.iload_n 2, 1) := by decide +kernel
theorem dX9_goTo_58 : decode cX9_goTo 58 = .ok (.iload_n 1, 1) := by decide +kernel
theorem dX9_goTo_59 : decode cX9_goTo 59 = .ok (.if_icmp .gt 14, 3) := by decide +kernel
theorem dX9_goTo_62 : decode cX9_goTo 62 = .ok (.aload_n 0, 1) := by decide +kernel
theorem dX9_goTo_63 : decode cX9_goTo 63 = .ok (.iload_n 2, 1) := by decide +kernel
theorem dX9_goTo_64 : decode cX9_goTo 64 = .ok (.invokevirtual 182, 3) := by decide +kernel
theorem dX9_goTo_67 : decode cX9_goTo 67 = .ok (.iinc 2 1, 3) := by decide +kernel
theorem dX9_goTo_70 : decode cX9_goTo 70 = .ok (.goto (-13), 3) := by decide +kernel
theorem dX9_goTo_73 : decode cX9_goTo 73 = .ok (.return_, 1) := by decide +kernel
theorem dX9_out_0 : decode cX9_out 0 = .ok (.aload_n 0, 1) := by decide +kernel
theorem dX9_out_1 : decode cX9_out 1 = .ok (.iload_n 1, 1) := by decide +kernel
theorem dX9_out_2 : decode cX9_out 2 = .ok (.invokevirtual 162, 3) := by decide +kernel
theorem dX9_out_5 : decode cX9_out 5 = .ok (.ifCond .ne 5, 3) := by decide +kernel
theorem dX9_out_8 : decode cX9_out 8 = .ok (.iconst (-1), 1) := by decide +kernel
theorem dX9_out_9 : decode cX9_out 9 = .ok (.ireturn, 1) := by decide +kernel
theorem dX9_out_10 : decode cX9_out 10 = .ok (.aload_n 0, 1) := by decide +kernel
theorem dX9_out_11 : decode cX9_out 11 = .ok (.bipush 29, 2) := by decide +kernel
theorem dX9_out_13 : decode cX9_out 13 = .ok (.invokevirtual 185, 3) := by decide +kernel
theorem dX9_out_16 : decode cX9_out 16 = .ok (.aload_n 0, 1) := by decide +kernel
theorem dX9_out_17 : decode cX9_out 17 = .ok (.getfield 71, 3) := by decide +kernel
theorem dX9_out_20 : decode cX9_out 20 = .ok (.iload_n 1, 1) := by decide +kernel
theorem dX9_out_21 : decode cX9_out 21 = .ok (.iaload, 1) := by decide +kernel
theorem dX9_out_22 : decode cX9_out 22 = .ok (.ireturn, 1) := by decide +kernel
theorem dX9_by_0 : decode cX9_by 0 = .ok (.aload_n 0, 1) := by decide +kernel
theorem dX9_by_1 : decode cX9_by 1 = .ok (.iload_n 1, 1) := by decide +kernel
theorem dX9_by_2 : decode cX9_by 2 = .ok (.invokevirtual 162, 3) := by decide +kernel
theorem dX9_by_5 : decode cX9_by 5 = .ok (.ifCond .ne 5, 3) := by decide +kernel
theorem dX9_by_8 : decode cX9_by 8 = .ok (.iconst (-1), 1) := by decide +kernel
theorem dX9_by_9 : decode cX9_by 9 = .ok (.ireturn, 1) := by decide +kernel
theorem dX9_by_10 : decode cX9_by 10 = .ok (.aload_n 0, 1) := by decide +kernel
theorem dX9_by_11 : decode cX9_by 11 = .ok (.bipush 29, 2) := by decide +kernel
theorem dX9_by_13 : decode cX9_by 13 = .ok (.invokevirtual 185, 3) := by decide +kernel
theorem dX9_by_16 : decode cX9_by 16 = .ok (.aload_n 0, 1) := by decide +kernel
theorem dX9_by_17 : decode cX9_by 17 = .ok (.getfield 74, 3) := by decide +kernel
theorem dX9_by_20 : decode cX9_by 20 = .ok (.iload_n 1, 1) := by decide +kernel
theorem dX9_by_21 : decode cX9_by 21 = .ok (.iaload, 1) := by decide +kernel
theorem dX9_by_22 : decode cX9_by 22 = .ok (.ireturn, 1) := by decide +kernel
theorem dX9_free_0 : decode cX9_free 0 = .ok (.iload_n 1, 1) := by decide +kernel
theorem dX9_free_1 : decode cX9_free 1 = .ok (.invokestatic 165, 3) := by decide +kernel
theorem dX9_free_4 : decode cX9_free 4 = .ok (.ifCond .ne 5, 3) := by decide +kernel
theorem dX9_free_7 : decode cX9_free 7 = .ok (.iconst (-1), 1) := by decide +kernel
theorem dX9_free_8 : decode cX9_free 8 = .ok (.ireturn, 1) := by decide +kernel
theorem dX9_free_9 : decode cX9_free 9 = .ok (.aload_n 0, 1) := by decide +kernel
theorem dX9_free_10 : decode cX9_free 10 = .ok (.getfield 105, 3) := by decide +kernel
theorem dX9_free_13 : decode cX9_free 13 = .ok (.ifCond .ne 6, 3) := by decide +kernel
theorem dX9_free_16 : decode cX9_free 16 = .ok (.bipush (-3), 2) := by decide +kernel
theorem dX9_free_18 : decode cX9_free 18 = .ok (.ireturn, 1) := by decide +kernel
theorem dX9_free_19 : decode cX9_free 19 = .ok (.aload_n 0, 1) := by decide +kernel
theorem dX9_free_20 : decode cX9_free 20 = .ok (.iload_n 1, 1) := by decide +kernel
theorem dX9_free_21 : decode cX9_free 21 = .ok (.invokevirtual 185, 3) := by decide +kernel
theorem dX9_free_24 : decode cX9_free 24 = .ok (.iconst 0, 1) := by decide +kernel
theorem dX9_free_25 : decode cX9_free 25 = .ok (.istore_n 2, 1) := by decide +kernel
theorem dX9_free_26 : decode cX9_free 26 = .ok (.iconst 0, 1) := by decide +kernel
theorem dX9_free_27 : decode cX9_free 27 = .ok (.istore_n 3, 1) := by decide +kernel
theorem dX9_free_28 : decode cX9_free 28 = .ok (.iload_n 3, 1) := by decide +kernel
theorem dX9_free_29 : decode cX9_free 29 = .ok (.aload_n 0, 1) := by decide +kernel
theorem dX9_free_30 : decode cX9_free 30 = .ok (.getfield 108, 3) := by decide +kernel
theorem dX9_free_33 : decode cX9_free 33 = .ok (.if_icmp .ge 30, 3) := by decide +kernel
theorem dX9_free_36 : decode cX9_free 36 = .ok (.iload_n 2, 1) := by decide +kernel
theorem dX9_free_37 : decode cX9_free 37 = .ok (.aload_n 0, 1) := by decide +kernel
theorem dX9_free_38 : decode cX9_free 38 = .ok (.getfield 71, 3) := by decide +kernel
theorem dX9_free_41 : decode cX9_free 41 = .ok (.iload_n 3, 1) := by decide +kernel
theorem dX9_free_42 : decode cX9_free 42 = .ok (.iaload, 1) := by decide +kernel
theorem dX9_free_43 : decode cX9_free 43 = .ok (.bipush (-9), 2) := by decide +kernel
theorem dX9_free_45 : decode cX9_free 45 = .ok (.if_icmp .ne 7, 3) := by decide +kernel
theorem dX9_free_48 : decode cX9_free 48 = .ok (.iconst 0, 1) := by decide +kernel
theorem dX9_free_49 : decode cX9_free 49 = .ok (.goto 6, 3) := by decide +kernel
theorem dX9_free_52 : decode cX9_free 52 = .ok (.iconst 1, 1) := by decide +kernel
theorem dX9_free_53 : decode cX9_free 53 = .ok (.iload_n 3, 1) := by decide +kernel
theorem dX9_free_54 : decode cX9_free 54 = .ok (.ishl, 1) := by decide +kernel
theorem dX9_free_55 : decode cX9_free 55 = .ok (.ior, 1) := by decide +kernel
theorem dX9_free_56 : decode cX9_free 56 = .ok (.istore_n 2, 1) := by decide +kernel
theorem dX9_free_57 : decode cX9_free 57 = .ok (.iinc 3 1, 3) := by decide +kernel
theorem dX9_free_60 : decode cX9_free 60 = .ok (.goto (-32), 3) := by decide +kernel
theorem dX9_free_63 : decode cX9_free 63 = .ok (.iload_n 2, 1) := by decide +kernel
theorem dX9_free_64 : decode cX9_free 64 = .ok (.ireturn, 1) := by decide +kernel
theorem dX9_has_0 : decode cX9_has 0 = .ok (.aload_n 0, 1) := by decide +kernel
theorem dX9_has_1 : decode cX9_has 1 = .ok (.iload_n 1, 1) := by decide +kernel
theorem dX9_has_2 : decode cX9_has 2 = .ok (.invokevirtual 153, 3) := by decide +kernel
theorem dX9_has_5 : decode cX9_has 5 = .ok (.ifCond .eq 10, 3) := by decide +kernel
theorem dX9_has_8 : decode cX9_has 8 = .ok (.iload_n 2, 1) := by decide +kernel
theorem dX9_has_9 : decode cX9_has 9 = .ok (.invokestatic 165, 3) := by decide +kernel
theorem dX9_has_12 : decode cX9_has 12 = .ok (.ifCond .ne 5, 3) := by decide +kernel
theorem dX9_has_15 : decode cX9_has 15 = .ok (.iconst (-1), 1) := by decide +kernel
theorem dX9_has_16 : decode cX9_has 16 = .ok (.ireturn, 1) := by decide +kernel
theorem dX9_has_17 : decode cX9_has 17 = .ok (.aload_n 0, 1) := by decide +kernel
theorem dX9_has_18 : decode cX9_has 18 = .ok (.iload_n 2, 1) := by decide +kernel
theorem dX9_has_19 : decode cX9_has 19 = .ok (.invokevirtual 185, 3) := by decide +kernel
theorem dX9_has_22 : decode cX9_has 22 = .ok (.aload_n 0, 1) := by decide +kernel
theorem dX9_has_23 : decode cX9_has 23 = .ok (.getfield 68, 3) := by decide +kernel
theorem dX9_has_26 : decode cX9_has 26 = .ok (.iload_n 1, 1) := by decide +kernel
theorem dX9_has_27 : decode cX9_has 27 = .ok (.iaload, 1) := by decide +kernel
theorem dX9_has_28 : decode cX9_has 28 = .ok (.ireturn, 1) := by decide +kernel
theorem dX9_rowsOf_0 : decode cX9_rowsOf 0 = .ok (.iconst 1, 1) := by decide +kernel
theorem dX9_rowsOf_1 : decode cX9_rowsOf 1 = .ok (.istore_n 2, 1) := by decide +kernel
theorem dX9_rowsOf_2 : decode cX9_rowsOf 2 = .ok (.iconst 0, 1) := by decide +kernel
theorem dX9_rowsOf_3 : decode cX9_rowsOf 3 = .ok (.istore_n 3, 1) := by decide +kernel
theorem dX9_rowsOf_4 : decode cX9_rowsOf 4 = .ok (.iload_n 3, 1) := by decide +kernel
theorem dX9_rowsOf_5 : decode cX9_rowsOf 5 = .ok (.iload_n 1, 1) := by decide +kernel
theorem dX9_rowsOf_6 : decode cX9_rowsOf 6 = .ok (.if_icmp .ge 16, 3) := by decide +kernel
theorem dX9_rowsOf_9 : decode cX9_rowsOf 9 = .ok (.iload_n 2, 1) := by decide +kernel
theorem dX9_rowsOf_10 : decode cX9_rowsOf 10 = .ok (.aload_n 0, 1) := by decide +kernel
theorem dX9_rowsOf_11 : decode cX9_rowsOf 11 = .ok (.getfield 105, 3) := by decide +kernel
theorem dX9_rowsOf_14 : decode cX9_rowsOf 14 = .ok (.imul, 1) := by decide +kernel
theorem dX9_rowsOf_15 : decode cX9_rowsOf 15 = .ok (.istore_n 2, 1) := by decide +kernel
theorem dX9_rowsOf_16 : decode cX9_rowsOf 16 = .ok (.iinc 3 1, 3) := by decide +kernel
theorem dX9_rowsOf_19 : decode cX9_rowsOf 19 = .ok (.goto (-15), 3) := by decide +kernel
theorem dX9_rowsOf_22 : decode cX9_rowsOf 22 = .ok (.iload_n 2, 1) := by decide +kernel
theorem dX9_rowsOf_23 : decode cX9_rowsOf 23 = .ok (.ireturn, 1) := by decide +kernel
theorem dX9_layRow_0 : decode cX9_layRow 0 = .ok (.iload_n 1, 1) := by decide +kernel
theorem dX9_layRow_1 : decode cX9_layRow 1 = .ok (.istore_n 3, 1) := by decide +kernel
theorem dX9_layRow_2 : decode cX9_layRow 2 = .ok (.iload_n 2, 1) := by decide +kernel
theorem dX9_layRow_3 : decode cX9_layRow 3 = .ok (.iconst 1, 1) := by decide +kernel
theorem dX9_layRow_4 : decode cX9_layRow 4 = .ok (.isub, 1) := by decide +kernel
theorem dX9_layRow_5 : decode cX9_layRow 5 = .ok (.istore 4, 2) := by decide +kernel
theorem dX9_layRow_7 : decode cX9_layRow 7 = .ok (.iload 4, 2) := by decide +kernel
theorem dX9_layRow_9 : decode cX9_layRow 9 = .ok (.ifCond .lt 29, 3) := by decide +kernel
theorem dX9_layRow_12 : decode cX9_layRow 12 = .ok (.aload_n 0, 1) := by decide +kernel
theorem dX9_layRow_13 : decode cX9_layRow 13 = .ok (.getfield 77, 3) := by decide +kernel
theorem dX9_layRow_16 : decode cX9_layRow 16 = .ok (.iload 4, 2) := by decide +kernel
theorem dX9_layRow_18 : decode cX9_layRow 18 = .ok (.iload_n 3, 1) := by decide +kernel
theorem dX9_layRow_19 : decode cX9_layRow 19 = .ok (.aload_n 0, 1) := by decide +kernel
theorem dX9_layRow_20 : decode cX9_layRow 20 = .ok (.getfield 105, 3) := by decide +kernel
theorem dX9_layRow_23 : decode cX9_layRow 23 = .ok (.irem, 1) := by decide +kernel
theorem dX9_layRow_24 : decode cX9_layRow 24 = .ok (.iastore, 1) := by decide +kernel
theorem dX9_layRow_25 : decode cX9_layRow 25 = .ok (.iload_n 3, 1) := by decide +kernel
theorem dX9_layRow_26 : decode cX9_layRow 26 = .ok (.aload_n 0, 1) := by decide +kernel
theorem dX9_layRow_27 : decode cX9_layRow 27 = .ok (.getfield 105, 3) := by decide +kernel
theorem dX9_layRow_30 : decode cX9_layRow 30 = .ok (.idiv, 1) := by decide +kernel
theorem dX9_layRow_31 : decode cX9_layRow 31 = .ok (.istore_n 3, 1) := by decide +kernel
theorem dX9_layRow_32 : decode cX9_layRow 32 = .ok (.iinc 4 (-1), 3) := by decide +kernel
theorem dX9_layRow_35 : decode cX9_layRow 35 = .ok (.goto (-28), 3) := by decide +kernel
theorem dX9_layRow_38 : decode cX9_layRow 38 = .ok (.aload_n 0, 1) := by decide +kernel
theorem dX9_layRow_39 : decode cX9_layRow 39 = .ok (.iload_n 2, 1) := by decide +kernel
theorem dX9_layRow_40 : decode cX9_layRow 40 = .ok (.putfield 80, 3) := by decide +kernel
theorem dX9_layRow_43 : decode cX9_layRow 43 = .ok (.return_, 1) := by decide +kernel
theorem dX9_firstRow_0 : decode cX9_firstRow 0 = .ok (.aload_n 0, 1) := by decide +kernel
theorem dX9_firstRow_1 : decode cX9_firstRow 1 = .ok (.iload_n 3, 1) := by decide +kernel
theorem dX9_firstRow_2 : decode cX9_firstRow 2 = .ok (.invokevirtual 188, 3) := by decide +kernel
theorem dX9_firstRow_5 : decode cX9_firstRow 5 = .ok (.istore 4, 2) := by decide +kernel
theorem dX9_firstRow_7 : decode cX9_firstRow 7 = .ok (.iconst 0, 1) := by decide +kernel
theorem dX9_firstRow_8 : decode cX9_firstRow 8 = .ok (.istore 5, 2) := by decide +kernel
theorem dX9_firstRow_10 : decode cX9_firstRow 10 = .ok (.iload 5, 2) := by decide +kernel
theorem dX9_firstRow_12 : decode cX9_firstRow 12 = .ok (.iload 4, 2) := by decide +kernel
theorem dX9_firstRow_14 : decode cX9_firstRow 14 = .ok (.if_icmp .ge 41, 3) := by decide +kernel
theorem dX9_firstRow_17 : decode cX9_firstRow 17 = .ok (.aload_n 0, 1) := by decide +kernel
theorem dX9_firstRow_18 : decode cX9_firstRow 18 = .ok (.iload 5, 2) := by decide +kernel
theorem dX9_firstRow_20 : decode cX9_firstRow 20 = .ok (.iload_n 3, 1) := by decide +kernel
theorem dX9_firstRow_21 : decode cX9_firstRow 21 = .ok (.invokevirtual 191, 3) := by decide +kernel
theorem dX9_firstRow_24 : decode cX9_firstRow 24 = .ok (.aload_n 0, 1) := by decide +kernel
theorem dX9_firstRow_25 : decode cX9_firstRow 25 = .ok (.iload_n 2, 1) := by decide +kernel
theorem dX9_firstRow_26 : decode cX9_firstRow 26 = .ok (.invokevirtual 185, 3) := by decide +kernel
theorem dX9_firstRow_29 : decode cX9_firstRow 29 = .ok (.aload_n 0, 1) := by decide +kernel
theorem dX9_firstRow_30 : decode cX9_firstRow 30 = .ok (.bipush (-9), 2) := by decide +kernel
theorem dX9_firstRow_32 : decode cX9_firstRow 32 = .ok (.putfield 80, 3) := by decide +kernel
theorem dX9_firstRow_35 : decode cX9_firstRow 35 = .ok (.aload_n 0, 1) := by decide +kernel
theorem dX9_firstRow_36 : decode cX9_firstRow 36 = .ok (.getfield 74, 3) := by decide +kernel
theorem dX9_firstRow_39 : decode cX9_firstRow 39 = .ok (.iload_n 1, 1) := by decide +kernel
theorem dX9_firstRow_40 : decode cX9_firstRow 40 = .ok (.iaload, 1) := by decide +kernel
theorem dX9_firstRow_41 : decode cX9_firstRow 41 = .ok (.bipush (-9), 2) := by decide +kernel
theorem dX9_firstRow_43 : decode cX9_firstRow 43 = .ok (.if_icmp .eq 6, 3) := by decide +kernel
theorem dX9_firstRow_46 : decode cX9_firstRow 46 = .ok (.iload 5, 2) := by decide +kernel
theorem dX9_firstRow_48 : decode cX9_firstRow 48 = .ok (.ireturn, 1) := by decide +kernel
theorem dX9_firstRow_49 : decode cX9_firstRow 49 = .ok (.iinc 5 1, 3) := by decide +kernel
theorem dX9_firstRow_52 : decode cX9_firstRow 52 = .ok (.goto (-42), 3) := by decide +kernel
theorem dX9_firstRow_55 : decode cX9_firstRow 55 = .ok (.bipush (-9), 2) := by decide +kernel
theorem dX9_firstRow_57 : decode cX9_firstRow 57 = .ok (.ireturn, 1) := by decide +kernel
theorem dX9_least_0 : decode cX9_least 0 = .ok (.aload_n 0, 1) := by decide +kernel
theorem dX9_least_1 : decode cX9_least 1 = .ok (.iload_n 1, 1) := by decide +kernel
theorem dX9_least_2 : decode cX9_least 2 = .ok (.invokevirtual 162, 3) := by decide +kernel
theorem dX9_least_5 : decode cX9_least 5 = .ok (.ifCond .eq 15, 3) := by decide +kernel
theorem dX9_least_8 : decode cX9_least 8 = .ok (.iload_n 2, 1) := by decide +kernel
theorem dX9_least_9 : decode cX9_least 9 = .ok (.invokestatic 165, 3) := by decide +kernel
theorem dX9_least_12 : decode cX9_least 12 = .ok (.ifCond .eq 8, 3) := by decide +kernel
theorem dX9_least_15 : decode cX9_least 15 = .ok (.iload_n 3, 1) := by decide +kernel
theorem dX9_least_16 : decode cX9_least 16 = .ok (.iconst (-1), 1) := by decide +kernel
theorem dX9_least_17 : decode cX9_least 17 = .ok (.if_icmp .ge 5, 3) := by decide +kernel
theorem dX9_least_20 : decode cX9_least 20 = .ok (.iconst (-1), 1) := by decide +kernel
theorem dX9_least_21 : decode cX9_least 21 = .ok (.ireturn, 1) := by decide +kernel
theorem dX9_least_22 : decode cX9_least 22 = .ok (.iconst 0, 1) := by decide +kernel
theorem dX9_least_23 : decode cX9_least 23 = .ok (.istore 4, 2) := by decide +kernel
theorem dX9_least_25 : decode cX9_least 25 = .ok (.iload 4, 2) := by decide +kernel
theorem dX9_least_27 : decode cX9_least 27 = .ok (.iconst 4, 1) := by decide +kernel
theorem dX9_least_28 : decode cX9_least 28 = .ok (.if_icmp .gt 68, 3) := by decide +kernel
theorem dX9_least_31 : decode cX9_least 31 = .ok (.aload_n 0, 1) := by decide +kernel
theorem dX9_least_32 : decode cX9_least 32 = .ok (.iload_n 1, 1) := by decide +kernel
theorem dX9_least_33 : decode cX9_least 33 = .ok (.iload_n 2, 1) := by decide +kernel
theorem dX9_least_34 : decode cX9_least 34 = .ok (.iload 4, 2) := by decide +kernel
theorem dX9_least_36 : decode cX9_least 36 = .ok (.invokevirtual 194, 3) := by decide +kernel
theorem dX9_least_39 : decode cX9_least 39 = .ok (.istore 5, 2) := by decide +kernel
theorem dX9_least_41 : decode cX9_least 41 = .ok (.iload 5, 2) := by decide +kernel
theorem dX9_least_43 : decode cX9_least 43 = .ok (.bipush (-9), 2) := by decide +kernel
theorem dX9_least_45 : decode cX9_least 45 = .ok (.if_icmp .eq 45, 3) := by decide +kernel
theorem dX9_least_48 : decode cX9_least 48 = .ok (.aload_n 0, 1) := by decide +kernel
theorem dX9_least_49 : decode cX9_least 49 = .ok (.iload 5, 2) := by decide +kernel
theorem dX9_least_51 : decode cX9_least 51 = .ok (.iload 4, 2) := by decide +kernel
theorem dX9_least_53 : decode cX9_least 53 = .ok (.invokevirtual 191, 3) := by decide +kernel
theorem dX9_least_56 : decode cX9_least 56 = .ok (.aload_n 0, 1) := by decide +kernel
theorem dX9_least_57 : decode cX9_least 57 = .ok (.bipush (-9), 2) := by decide +kernel
theorem dX9_least_59 : decode cX9_least 59 = .ok (.putfield 80, 3) := by decide +kernel
theorem dX9_least_62 : decode cX9_least 62 = .ok (.iload_n 3, 1) := by decide +kernel
theorem dX9_least_63 : decode cX9_least 63 = .ok (.iconst (-1), 1) := by decide +kernel
theorem dX9_least_64 : decode cX9_least 64 = .ok (.if_icmp .ne 8, 3) := by decide +kernel
theorem dX9_least_67 : decode cX9_least 67 = .ok (.iload 4, 2) := by decide +kernel
theorem dX9_least_69 : decode cX9_least 69 = .ok (.goto 20, 3) := by decide +kernel
theorem dX9_least_72 : decode cX9_least 72 = .ok (.iload_n 3, 1) := by decide +kernel
theorem dX9_least_73 : decode cX9_least 73 = .ok (.iload 4, 2) := by decide +kernel
theorem dX9_least_75 : decode cX9_least 75 = .ok (.if_icmp .ge 12, 3) := by decide +kernel
theorem dX9_least_78 : decode cX9_least 78 = .ok (.aload_n 0, 1) := by decide +kernel
theorem dX9_least_79 : decode cX9_least 79 = .ok (.getfield 77, 3) := by decide +kernel
theorem dX9_least_82 : decode cX9_least 82 = .ok (.iload_n 3, 1) := by decide +kernel
theorem dX9_least_83 : decode cX9_least 83 = .ok (.iaload, 1) := by decide +kernel
theorem dX9_least_84 : decode cX9_least 84 = .ok (.goto 5, 3) := by decide +kernel
theorem dX9_least_87 : decode cX9_least 87 = .ok (.bipush (-9), 2) := by decide +kernel
theorem dX9_least_89 : decode cX9_least 89 = .ok (.ireturn, 1) := by decide +kernel
theorem dX9_least_90 : decode cX9_least 90 = .ok (.iinc 4 1, 3) := by decide +kernel
theorem dX9_least_93 : decode cX9_least 93 = .ok (.goto (-68), 3) := by decide +kernel
theorem dX9_least_96 : decode cX9_least 96 = .ok (.bipush (-9), 2) := by decide +kernel
theorem dX9_least_98 : decode cX9_least 98 = .ok (.ireturn, 1) := by decide +kernel
theorem dX9_outByTrees_0 : decode cX9_outByTrees 0 = .ok (.iconst 0, 1) := by decide +kernel
theorem dX9_outByTrees_1 : decode cX9_outByTrees 1 = .ok (.istore_n 1, 1) := by decide +kernel
theorem dX9_outByTrees_2 : decode cX9_outByTrees 2 = .ok (.iconst 0, 1) := by decide +kernel
theorem dX9_outByTrees_3 : decode cX9_outByTrees 3 = .ok (.istore_n 2, 1) := by decide +kernel
theorem dX9_outByTrees_4 : decode cX9_outByTrees 4 = .ok (.iload_n 2, 1) := by decide +kernel
theorem dX9_outByTrees_5 : decode cX9_outByTrees 5 = .ok (.aload_n 0, 1) := by decide +kernel
theorem dX9_outByTrees_6 : decode cX9_outByTrees 6 = .ok (.getfield 108, 3) := by decide +kernel
theorem dX9_outByTrees_9 : decode cX9_outByTrees 9 = .ok (.if_icmp .ge 28, 3) := by decide +kernel
theorem dX9_outByTrees_12 : decode cX9_outByTrees 12 = .ok (.iload_n 1, 1) := by decide +kernel
theorem dX9_outByTrees_13 : decode cX9_outByTrees 13 = .ok (.aload_n 0, 1) := by decide +kernel
theorem dX9_outByTrees_14 : decode cX9_outByTrees 14 = .ok (.getfield 74, 3) := by decide +kernel
theorem dX9_outByTrees_17 : decode cX9_outByTrees 17 = .ok (.iload_n 2, 1) := by decide +kernel
theorem dX9_outByTrees_18 : decode cX9_outByTrees 18 = .ok (.iaload, 1) := by decide +kernel
theorem dX9_outByTrees_19 : decode cX9_outByTrees 19 = .ok (.bipush (-9), 2) := by decide +kernel
theorem dX9_outByTrees_21 : decode cX9_outByTrees 21 = .ok (.if_icmp .ne 7, 3) := by decide +kernel
theorem dX9_outByTrees_24 : decode cX9_outByTrees 24 = .ok (.iconst 0, 1) := by decide +kernel
theorem dX9_outByTrees_25 : decode cX9_outByTrees 25 = .ok (.goto 4, 3) := by decide +kernel
theorem dX9_outByTrees_28 : decode cX9_outByTrees 28 = .ok (.iconst 1, 1) := by decide +kernel
theorem dX9_outByTrees_29 : decode cX9_outByTrees 29 = .ok (.iadd, 1) := by decide +kernel
theorem dX9_outByTrees_30 : decode cX9_outByTrees 30 = .ok (.istore_n 1, 1) := by decide +kernel
theorem dX9_outByTrees_31 : decode cX9_outByTrees 31 = .ok (.iinc 2 1, 3) := by decide +kernel
theorem dX9_outByTrees_34 : decode cX9_outByTrees 34 = .ok (.goto (-30), 3) := by decide +kernel
theorem dX9_outByTrees_37 : decode cX9_outByTrees 37 = .ok (.iload_n 1, 1) := by decide +kernel
theorem dX9_outByTrees_38 : decode cX9_outByTrees 38 = .ok (.ireturn, 1) := by decide +kernel
theorem dX9_most_0 : decode cX9_most 0 = .ok (.iload_n 1, 1) := by decide +kernel
theorem dX9_most_1 : decode cX9_most 1 = .ok (.invokestatic 165, 3) := by decide +kernel
theorem dX9_most_4 : decode cX9_most 4 = .ok (.ifCond .eq 8, 3) := by decide +kernel
theorem dX9_most_7 : decode cX9_most 7 = .ok (.iload_n 3, 1) := by decide +kernel
theorem dX9_most_8 : decode cX9_most 8 = .ok (.iconst (-1), 1) := by decide +kernel
theorem dX9_most_9 : decode cX9_most 9 = .ok (.if_icmp .ge 5, 3) := by decide +kernel
theorem dX9_most_12 : decode cX9_most 12 = .ok (.iconst (-1), 1) := by decide +kernel
theorem dX9_most_13 : decode cX9_most 13 = .ok (.ireturn, 1) := by decide +kernel
theorem dX9_most_14 : decode cX9_most 14 = .ok (.iload_n 2, 1) := by decide +kernel
theorem dX9_most_15 : decode cX9_most 15 = .ok (.iconst 0, 1) := by decide +kernel
theorem dX9_most_16 : decode cX9_most 16 = .ok (.iconst 4, 1) := by decide +kernel
theorem dX9_most_17 : decode cX9_most 17 = .ok (.invokestatic 101, 3) := by decide +kernel
theorem dX9_most_20 : decode cX9_most 20 = .ok (.ifCond .ne 6, 3) := by decide +kernel
theorem dX9_most_23 : decode cX9_most 23 = .ok (.bipush (-2), 2) := by decide +kernel
theorem dX9_most_25 : decode cX9_most 25 = .ok (.ireturn, 1) := by decide +kernel
theorem dX9_most_26 : decode cX9_most 26 = .ok (.aload_n 0, 1) := by decide +kernel
theorem dX9_most_27 : decode cX9_most 27 = .ok (.getfield 105, 3) := by decide +kernel
theorem dX9_most_30 : decode cX9_most 30 = .ok (.ifCond .ne 6, 3) := by decide +kernel
theorem dX9_most_33 : decode cX9_most 33 = .ok (.bipush (-3), 2) := by decide +kernel
theorem dX9_most_35 : decode cX9_most 35 = .ok (.ireturn, 1) := by decide +kernel
theorem dX9_most_36 : decode cX9_most 36 = .ok (.aload_n 0, 1) := by decide +kernel
theorem dX9_most_37 : decode cX9_most 37 = .ok (.iload_n 2, 1) := by decide +kernel
theorem dX9_most_38 : decode cX9_most 38 = .ok (.invokevirtual 188, 3) := by decide +kernel
theorem dX9_most_41 : decode cX9_most 41 = .ok (.istore 4, 2) := by decide +kernel
theorem dX9_most_43 : decode cX9_most 43 = .ok (.iconst 0, 1) := by decide +kernel
theorem dX9_most_44 : decode cX9_most 44 = .ok (.istore 5, 2) := by decide +kernel
theorem dX9_most_46 : decode cX9_most 46 = .ok (.iconst (-1), 1) := by decide +kernel
theorem dX9_most_47 : decode cX9_most 47 = .ok (.istore 6, 2) := by decide +kernel
theorem dX9_most_49 : decode cX9_most 49 = .ok (.iconst 0, 1) := by decide +kernel
theorem dX9_most_50 : decode cX9_most 50 = .ok (.istore 7, 2) := by decide +kernel
theorem dX9_most_52 : decode cX9_most 52 = .ok (.iload 7, 2) := by decide +kernel
theorem dX9_most_54 : decode cX9_most 54 = .ok (.iload 4, 2) := by decide +kernel
theorem dX9_most_56 : decode cX9_most 56 = .ok (.if_icmp .ge 40, 3) := by decide +kernel
theorem dX9_most_59 : decode cX9_most 59 = .ok (.aload_n 0, 1) := by decide +kernel
theorem dX9_most_60 : decode cX9_most 60 = .ok (.iload 7, 2) := by decide +kernel
theorem dX9_most_62 : decode cX9_most 62 = .ok (.iload_n 2, 1) := by decide +kernel
theorem dX9_most_63 : decode cX9_most 63 = .ok (.invokevirtual 191, 3) := by decide +kernel
theorem dX9_most_66 : decode cX9_most 66 = .ok (.aload_n 0, 1) := by decide +kernel
theorem dX9_most_67 : decode cX9_most 67 = .ok (.iload_n 1, 1) := by decide +kernel
theorem dX9_most_68 : decode cX9_most 68 = .ok (.invokevirtual 185, 3) := by decide +kernel
theorem dX9_most_71 : decode cX9_most 71 = .ok (.aload_n 0, 1) := by decide +kernel
theorem dX9_most_72 : decode cX9_most 72 = .ok (.invokevirtual 197, 3) := by decide +kernel
theorem dX9_most_75 : decode cX9_most 75 = .ok (.iload 6, 2) := by decide +kernel
theorem dX9_most_77 : decode cX9_most 77 = .ok (.if_icmp .le 13, 3) := by decide +kernel
theorem dX9_most_80 : decode cX9_most 80 = .ok (.aload_n 0, 1) := by decide +kernel
theorem dX9_most_81 : decode cX9_most 81 = .ok (.invokevirtual 197, 3) := by decide +kernel
theorem dX9_most_84 : decode cX9_most 84 = .ok (.istore 6, 2) := by decide +kernel
theorem dX9_most_86 : decode cX9_most 86 = .ok (.iload 7, 2) := by decide +kernel
theorem dX9_most_88 : decode cX9_most 88 = .ok (.istore 5, 2) := by decide +kernel
theorem dX9_most_90 : decode cX9_most 90 = .ok (.iinc 7 1, 3) := by decide +kernel
theorem dX9_most_93 : decode cX9_most 93 = .ok (.goto (-41), 3) := by decide +kernel
theorem dX9_most_96 : decode cX9_most 96 = .ok (.aload_n 0, 1) := by decide +kernel
theorem dX9_most_97 : decode cX9_most 97 = .ok (.iload 5, 2) := by decide +kernel
theorem dX9_most_99 : decode cX9_most 99 = .ok (.iload_n 2, 1) := by decide +kernel
theorem dX9_most_100 : decode cX9_most 100 = .ok (.invokevirtual 191, 3) := by decide +kernel
theorem dX9_most_103 : decode cX9_most 103 = .ok (.aload_n 0, 1) := by decide +kernel
theorem dX9_most_104 : decode cX9_most 104 = .ok (.bipush (-9), 2) := by decide +kernel
theorem dX9_most_106 : decode cX9_most 106 = .ok (.putfield 80, 3) := by decide +kernel
theorem dX9_most_109 : decode cX9_most 109 = .ok (.iload_n 3, 1) := by decide +kernel
theorem dX9_most_110 : decode cX9_most 110 = .ok (.iconst (-1), 1) := by decide +kernel
theorem dX9_most_111 : decode cX9_most 111 = .ok (.if_icmp .ne 8, 3) := by decide +kernel
theorem dX9_most_114 : decode cX9_most 114 = .ok (.iload 6, 2) := by decide +kernel
theorem dX9_most_116 : decode cX9_most 116 = .ok (.goto 19, 3) := by decide +kernel
theorem dX9_most_119 : decode cX9_most 119 = .ok (.iload_n 3, 1) := by decide +kernel
theorem dX9_most_120 : decode cX9_most 120 = .ok (.iload_n 2, 1) := by decide +kernel
theorem dX9_most_121 : decode cX9_most 121 = .ok (.if_icmp .ge 12, 3) := by decide +kernel
theorem dX9_most_124 : decode cX9_most 124 = .ok (.aload_n 0, 1) := by decide +kernel
theorem dX9_most_125 : decode cX9_most 125 = .ok (.getfield 77, 3) := by decide +kernel
theorem dX9_most_128 : decode cX9_most 128 = .ok (.iload_n 3, 1) := by decide +kernel
theorem dX9_most_129 : decode cX9_most 129 = .ok (.iaload, 1) := by decide +kernel
theorem dX9_most_130 : decode cX9_most 130 = .ok (.goto 5, 3) := by decide +kernel
theorem dX9_most_133 : decode cX9_most 133 = .ok (.bipush (-9), 2) := by decide +kernel
theorem dX9_most_135 : decode cX9_most 135 = .ok (.ireturn, 1) := by decide +kernel
theorem dX9_size_0 : decode cX9_size 0 = .ok (.iconst 0, 1) := by decide +kernel
theorem dX9_size_1 : decode cX9_size 1 = .ok (.istore_n 1, 1) := by decide +kernel
theorem dX9_size_2 : decode cX9_size 2 = .ok (.iload_n 0, 1) := by decide +kernel
theorem dX9_size_3 : decode cX9_size 3 = .ok (.istore_n 2, 1) := by decide +kernel
theorem dX9_size_4 : decode cX9_size 4 = .ok (.iload_n 2, 1) := by decide +kernel
theorem dX9_size_5 : decode cX9_size 5 = .ok (.ifCond .le 16, 3) := by decide +kernel
theorem dX9_size_8 : decode cX9_size 8 = .ok (.iload_n 1, 1) := by decide +kernel
theorem dX9_size_9 : decode cX9_size 9 = .ok (.iload_n 2, 1) := by decide +kernel
theorem dX9_size_10 : decode cX9_size 10 = .ok (.iconst 1, 1) := by decide +kernel
theorem dX9_size_11 : decode cX9_size 11 = .ok (.iand, 1) := by decide +kernel
theorem dX9_size_12 : decode cX9_size 12 = .ok (.iadd, 1) := by decide +kernel
theorem dX9_size_13 : decode cX9_size 13 = .ok (.istore_n 1, 1) := by decide +kernel
theorem dX9_size_14 : decode cX9_size 14 = .ok (.iload_n 2, 1) := by decide +kernel
theorem dX9_size_15 : decode cX9_size 15 = .ok (.iconst 1, 1) := by decide +kernel
theorem dX9_size_16 : decode cX9_size 16 = .ok (.ishr, 1) := by decide +kernel
theorem dX9_size_17 : decode cX9_size 17 = .ok (.istore_n 2, 1) := by decide +kernel
theorem dX9_size_18 : decode cX9_size 18 = .ok (.goto (-14), 3) := by decide +kernel
theorem dX9_size_21 : decode cX9_size 21 = .ok (.iload_n 1, 1) := by decide +kernel
theorem dX9_size_22 : decode cX9_size 22 = .ok (.ireturn, 1) := by decide +kernel
theorem dX9_fellAll_0 : decode cX9_fellAll 0 = .ok (.iconst 0, 1) := by decide +kernel
theorem dX9_fellAll_1 : decode cX9_fellAll 1 = .ok (.istore_n 3, 1) := by decide +kernel
theorem dX9_fellAll_2 : decode cX9_fellAll 2 = .ok (.iload_n 3, 1) := by decide +kernel
theorem dX9_fellAll_3 : decode cX9_fellAll 3 = .ok (.aload_n 0, 1) := by decide +kernel
theorem dX9_fellAll_4 : decode cX9_fellAll 4 = .ok (.getfield 105, 3) := by decide +kernel
theorem dX9_fellAll_7 : decode cX9_fellAll 7 = .ok (.if_icmp .ge 34, 3) := by decide +kernel
theorem dX9_fellAll_10 : decode cX9_fellAll 10 = .ok (.aload_n 0, 1) := by decide +kernel
theorem dX9_fellAll_11 : decode cX9_fellAll 11 = .ok (.getfield 28, 3) := by decide +kernel
theorem dX9_fellAll_14 : decode cX9_fellAll 14 = .ok (.iload_n 3, 1) := by decide +kernel
theorem dX9_fellAll_15 : decode cX9_fellAll 15 = .ok (.iload_n 1, 1) := by decide +kernel
theorem dX9_fellAll_16 : decode cX9_fellAll 16 = .ok (.iload_n 3, 1) := by decide +kernel
theorem dX9_fellAll_17 : decode cX9_fellAll 17 = .ok (.ishr, 1) := by decide +kernel
theorem dX9_fellAll_18 : decode cX9_fellAll 18 = .ok (.iconst 1, 1) := by decide +kernel
theorem dX9_fellAll_19 : decode cX9_fellAll 19 = .ok (.iand, 1) := by decide +kernel
theorem dX9_fellAll_20 : decode cX9_fellAll 20 = .ok (.iconst 1, 1) := by decide +kernel
theorem dX9_fellAll_21 : decode cX9_fellAll 21 = .ok (.if_icmp .ne 7, 3) := by decide +kernel
theorem dX9_fellAll_24 : decode cX9_fellAll 24 = .ok (.iload_n 2, 1) := by decide +kernel
theorem dX9_fellAll_25 : decode cX9_fellAll 25 = .ok (.goto 9, 3) := by decide +kernel
theorem dX9_fellAll_28 : decode cX9_fellAll 28 = .ok (.aload_n 0, 1) := by decide +kernel
theorem dX9_fellAll_29 : decode cX9_fellAll 29 = .ok (.getfield 28, 3) := by decide +kernel
theorem dX9_fellAll_32 : decode cX9_fellAll 32 = .ok (.iload_n 3, 1) := by decide +kernel
theorem dX9_fellAll_33 : decode cX9_fellAll 33 = .ok (.baload, 1) := by decide +kernel
theorem dX9_fellAll_34 : decode cX9_fellAll 34 = .ok (.bastore, 1) := by decide +kernel
theorem dX9_fellAll_35 : decode cX9_fellAll 35 = .ok (.iinc 3 1, 3) := by decide +kernel
theorem dX9_fellAll_38 : decode cX9_fellAll 38 = .ok (.goto (-36), 3) := by decide +kernel
theorem dX9_fellAll_41 : decode cX9_fellAll 41 = .ok (.return_, 1) := by decide +kernel
theorem dX9_saws_0 : decode cX9_saws 0 = .ok (.aload_n 0, 1) := by decide +kernel
theorem dX9_saws_1 : decode cX9_saws 1 = .ok (.iload_n 1, 1) := by decide +kernel
theorem dX9_saws_2 : decode cX9_saws 2 = .ok (.invokevirtual 162, 3) := by decide +kernel
theorem dX9_saws_5 : decode cX9_saws 5 = .ok (.ifCond .eq 10, 3) := by decide +kernel
theorem dX9_saws_8 : decode cX9_saws 8 = .ok (.iload_n 2, 1) := by decide +kernel
theorem dX9_saws_9 : decode cX9_saws 9 = .ok (.invokestatic 165, 3) := by decide +kernel
theorem dX9_saws_12 : decode cX9_saws 12 = .ok (.ifCond .ne 5, 3) := by decide +kernel
theorem dX9_saws_15 : decode cX9_saws 15 = .ok (.iconst (-1), 1) := by decide +kernel
theorem dX9_saws_16 : decode cX9_saws 16 = .ok (.ireturn, 1) := by decide +kernel
theorem dX9_saws_17 : decode cX9_saws 17 = .ok (.iconst 0, 1) := by decide +kernel
theorem dX9_saws_18 : decode cX9_saws 18 = .ok (.istore_n 3, 1) := by decide +kernel
theorem dX9_saws_19 : decode cX9_saws 19 = .ok (.iconst 0, 1) := by decide +kernel
theorem dX9_saws_20 : decode cX9_saws 20 = .ok (.istore 4, 2) := by decide +kernel
theorem dX9_saws_22 : decode cX9_saws 22 = .ok (.iload 4, 2) := by decide +kernel
theorem dX9_saws_24 : decode cX9_saws 24 = .ok (.aload_n 0, 1) := by decide +kernel
theorem dX9_saws_25 : decode cX9_saws 25 = .ok (.getfield 105, 3) := by decide +kernel
theorem dX9_saws_28 : decode cX9_saws 28 = .ok (.if_icmp .ge 30, 3) := by decide +kernel
theorem dX9_saws_31 : decode cX9_saws 31 = .ok (.iload_n 3, 1) := by decide +kernel
theorem dX9_saws_32 : decode cX9_saws 32 = .ok (.aload_n 0, 1) := by decide +kernel
theorem dX9_saws_33 : decode cX9_saws 33 = .ok (.getfield 28, 3) := by decide +kernel
theorem dX9_saws_36 : decode cX9_saws 36 = .ok (.iload 4, 2) := by decide +kernel
theorem dX9_saws_38 : decode cX9_saws 38 = .ok (.baload, 1) := by decide +kernel
theorem dX9_saws_39 : decode cX9_saws 39 = .ok (.ifCond .eq 10, 3) := by decide +kernel
theorem dX9_saws_42 : decode cX9_saws 42 = .ok (.iconst 1, 1) := by decide +kernel
theorem dX9_saws_43 : decode cX9_saws 43 = .ok (.iload 4, 2) := by decide +kernel
theorem dX9_saws_45 : decode cX9_saws 45 = .ok (.ishl, 1) := by decide +kernel
theorem dX9_saws_46 : decode cX9_saws 46 = .ok (.goto 4, 3) := by decide +kernel
theorem dX9_saws_49 : decode cX9_saws 49 = .ok (.iconst 0, 1) := by decide +kernel
theorem dX9_saws_50 : decode cX9_saws 50 = .ok (.ior, 1) := by decide +kernel
theorem dX9_saws_51 : decode cX9_saws 51 = .ok (.istore_n 3, 1) := by decide +kernel
theorem dX9_saws_52 : decode cX9_saws 52 = .ok (.iinc 4 1, 3) := by decide +kernel
theorem dX9_saws_55 : decode cX9_saws 55 = .ok (.goto (-33), 3) := by decide +kernel
theorem dX9_saws_58 : decode cX9_saws 58 = .ok (.bipush (-9), 2) := by decide +kernel
theorem dX9_saws_60 : decode cX9_saws 60 = .ok (.istore 4, 2) := by decide +kernel
theorem dX9_saws_62 : decode cX9_saws 62 = .ok (.iconst 0, 1) := by decide +kernel
theorem dX9_saws_63 : decode cX9_saws 63 = .ok (.istore 5, 2) := by decide +kernel
theorem dX9_saws_65 : decode cX9_saws 65 = .ok (.iload 5, 2) := by decide +kernel
theorem dX9_saws_67 : decode cX9_saws 67 = .ok (.iconst 1, 1) := by decide +kernel
theorem dX9_saws_68 : decode cX9_saws 68 = .ok (.aload_n 0, 1) := by decide +kernel
theorem dX9_saws_69 : decode cX9_saws 69 = .ok (.getfield 105, 3) := by decide +kernel
theorem dX9_saws_72 : decode cX9_saws 72 = .ok (.ishl, 1) := by decide +kernel
theorem dX9_saws_73 : decode cX9_saws 73 = .ok (.if_icmp .ge 75, 3) := by decide +kernel
theorem dX9_saws_76 : decode cX9_saws 76 = .ok (.iload 5, 2) := by decide +kernel
theorem dX9_saws_78 : decode cX9_saws 78 = .ok (.iload_n 3, 1) := by decide +kernel
theorem dX9_saws_79 : decode cX9_saws 79 = .ok (.iand, 1) := by decide +kernel
theorem dX9_saws_80 : decode cX9_saws 80 = .ok (.ifCond .ne 62, 3) := by decide +kernel
theorem dX9_saws_83 : decode cX9_saws 83 = .ok (.iload 4, 2) := by decide +kernel
theorem dX9_saws_85 : decode cX9_saws 85 = .ok (.bipush (-9), 2) := by decide +kernel
theorem dX9_saws_87 : decode cX9_saws 87 = .ok (.if_icmp .eq 16, 3) := by decide +kernel
theorem dX9_saws_90 : decode cX9_saws 90 = .ok (.iload 5, 2) := by decide +kernel
theorem dX9_saws_92 : decode cX9_saws 92 = .ok (.invokestatic 201, 3) := by decide +kernel
theorem dX9_saws_95 : decode cX9_saws 95 = .ok (.iload 4, 2) := by decide +kernel
theorem dX9_saws_97 : decode cX9_saws 97 = .ok (.invokestatic 201, 3) := by decide +kernel
theorem dX9_saws_100 : decode cX9_saws 100 = .ok (.if_icmp .ge 42, 3) := by decide +kernel
theorem dX9_saws_103 : decode cX9_saws 103 = .ok (.aload_n 0, 1) := by decide +kernel
theorem dX9_saws_104 : decode cX9_saws 104 = .ok (.iload 5, 2) := by decide +kernel
theorem dX9_saws_106 : decode cX9_saws 106 = .ok (.iconst 1, 1) := by decide +kernel
theorem dX9_saws_107 : decode cX9_saws 107 = .ok (.invokevirtual 204, 3) := by decide +kernel
theorem dX9_saws_110 : decode cX9_saws 110 = .ok (.aload_n 0, 1) := by decide +kernel
theorem dX9_saws_111 : decode cX9_saws 111 = .ok (.iload_n 2, 1) := by decide +kernel
theorem dX9_saws_112 : decode cX9_saws 112 = .ok (.invokevirtual 185, 3) := by decide +kernel
theorem dX9_saws_115 : decode cX9_saws 115 = .ok (.aload_n 0, 1) := by decide +kernel
theorem dX9_saws_116 : decode cX9_saws 116 = .ok (.iload 5, 2) := by decide +kernel
theorem dX9_saws_118 : decode cX9_saws 118 = .ok (.iconst 0, 1) := by decide +kernel
theorem dX9_saws_119 : decode cX9_saws 119 = .ok (.invokevirtual 204, 3) := by decide +kernel
theorem dX9_saws_122 : decode cX9_saws 122 = .ok (.aload_n 0, 1) := by decide +kernel
theorem dX9_saws_123 : decode cX9_saws 123 = .ok (.getfield 74, 3) := by decide +kernel
theorem dX9_saws_126 : decode cX9_saws 126 = .ok (.iload_n 1, 1) := by decide +kernel
theorem dX9_saws_127 : decode cX9_saws 127 = .ok (.iaload, 1) := by decide +kernel
theorem dX9_saws_128 : decode cX9_saws 128 = .ok (.bipush (-9), 2) := by decide +kernel
theorem dX9_saws_130 : decode cX9_saws 130 = .ok (.if_icmp .ne 8, 3) := by decide +kernel
theorem dX9_saws_133 : decode cX9_saws 133 = .ok (.iload 5, 2) := by decide +kernel
theorem dX9_saws_135 : decode cX9_saws 135 = .ok (.goto 5, 3) := by decide +kernel
theorem dX9_saws_138 : decode cX9_saws 138 = .ok (.iload 4, 2) := by decide +kernel
theorem dX9_saws_140 : decode cX9_saws 140 = .ok (.istore 4, 2) := by decide +kernel
theorem dX9_saws_142 : decode cX9_saws 142 = .ok (.iinc 5 1, 3) := by decide +kernel
theorem dX9_saws_145 : decode cX9_saws 145 = .ok (.goto (-80), 3) := by decide +kernel
theorem dX9_saws_148 : decode cX9_saws 148 = .ok (.iload 4, 2) := by decide +kernel
theorem dX9_saws_150 : decode cX9_saws 150 = .ok (.ireturn, 1) := by decide +kernel
theorem dX9_allDays_0 : decode cX9_allDays 0 = .ok (.aload_n 0, 1) := by decide +kernel
theorem dX9_allDays_1 : decode cX9_allDays 1 = .ok (.bipush 29, 2) := by decide +kernel
theorem dX9_allDays_3 : decode cX9_allDays 3 = .ok (.invokevirtual 185, 3) := by decide +kernel
theorem dX9_allDays_6 : decode cX9_allDays 6 = .ok (.iconst 0, 1) := by decide +kernel
theorem dX9_allDays_7 : decode cX9_allDays 7 = .ok (.istore_n 1, 1) := by decide +kernel
theorem dX9_allDays_8 : decode cX9_allDays 8 = .ok (.iconst 0, 1) := by decide +kernel
theorem dX9_allDays_9 : decode cX9_allDays 9 = .ok (.istore_n 2, 1) := by decide +kernel
theorem dX9_allDays_10 : decode cX9_allDays 10 = .ok (.iload_n 2, 1) := by decide +kernel
theorem dX9_allDays_11 : decode cX9_allDays 11 = .ok (.aload_n 0, 1) := by decide +kernel
theorem dX9_allDays_12 : decode cX9_allDays 12 = .ok (.getfield 108, 3) := by decide +kernel
theorem dX9_allDays_15 : decode cX9_allDays 15 = .ok (.if_icmp .ge 18, 3) := by decide +kernel
theorem dX9_allDays_18 : decode cX9_allDays 18 = .ok (.iload_n 1, 1) := by decide +kernel
theorem dX9_allDays_19 : decode cX9_allDays 19 = .ok (.aload_n 0, 1) := by decide +kernel
theorem dX9_allDays_20 : decode cX9_allDays 20 = .ok (.getfield 71, 3) := by decide +kernel
theorem dX9_allDays_23 : decode cX9_allDays 23 = .ok (.iload_n 2, 1) := by decide +kernel
theorem dX9_allDays_24 : decode cX9_allDays 24 = .ok (.iaload, 1) := by decide +kernel
theorem dX9_allDays_25 : decode cX9_allDays 25 = .ok (.iadd, 1) := by decide +kernel
theorem dX9_allDays_26 : decode cX9_allDays 26 = .ok (.istore_n 1, 1) := by decide +kernel
theorem dX9_allDays_27 : decode cX9_allDays 27 = .ok (.iinc 2 1, 3) := by decide +kernel
theorem dX9_allDays_30 : decode cX9_allDays 30 = .ok (.goto (-20), 3) := by decide +kernel
theorem dX9_allDays_33 : decode cX9_allDays 33 = .ok (.iload_n 1, 1) := by decide +kernel
theorem dX9_allDays_34 : decode cX9_allDays 34 = .ok (.ireturn, 1) := by decide +kernel
theorem dX9_worth_0 : decode cX9_worth 0 = .ok (.aload_n 0, 1) := by decide +kernel
theorem dX9_worth_1 : decode cX9_worth 1 = .ok (.iload_n 1, 1) := by decide +kernel
theorem dX9_worth_2 : decode cX9_worth 2 = .ok (.invokevirtual 153, 3) := by decide +kernel
theorem dX9_worth_5 : decode cX9_worth 5 = .ok (.ifCond .ne 5, 3) := by decide +kernel
theorem dX9_worth_8 : decode cX9_worth 8 = .ok (.iconst (-1), 1) := by decide +kernel
theorem dX9_worth_9 : decode cX9_worth 9 = .ok (.ireturn, 1) := by decide +kernel
theorem dX9_worth_10 : decode cX9_worth 10 = .ok (.aload_n 0, 1) := by decide +kernel
theorem dX9_worth_11 : decode cX9_worth 11 = .ok (.invokevirtual 208, 3) := by decide +kernel
theorem dX9_worth_14 : decode cX9_worth 14 = .ok (.istore_n 2, 1) := by decide +kernel
theorem dX9_worth_15 : decode cX9_worth 15 = .ok (.aload_n 0, 1) := by decide +kernel
theorem dX9_worth_16 : decode cX9_worth 16 = .ok (.getfield 28, 3) := by decide +kernel
theorem dX9_worth_19 : decode cX9_worth 19 = .ok (.iload_n 1, 1) := by decide +kernel
theorem dX9_worth_20 : decode cX9_worth 20 = .ok (.baload, 1) := by decide +kernel
theorem dX9_worth_21 : decode cX9_worth 21 = .ok (.istore_n 3, 1) := by decide +kernel
theorem dX9_worth_22 : decode cX9_worth 22 = .ok (.aload_n 0, 1) := by decide +kernel
theorem dX9_worth_23 : decode cX9_worth 23 = .ok (.getfield 28, 3) := by decide +kernel
theorem dX9_worth_26 : decode cX9_worth 26 = .ok (.iload_n 1, 1) := by decide +kernel
theorem dX9_worth_27 : decode cX9_worth 27 = .ok (.iconst 1, 1) := by decide +kernel
theorem dX9_worth_28 : decode cX9_worth 28 = .ok (.bastore, 1) := by decide +kernel
theorem dX9_worth_29 : decode cX9_worth 29 = .ok (.aload_n 0, 1) := by decide +kernel
theorem dX9_worth_30 : decode cX9_worth 30 = .ok (.invokevirtual 208, 3) := by decide +kernel
theorem dX9_worth_33 : decode cX9_worth 33 = .ok (.istore 4, 2) := by decide +kernel
theorem dX9_worth_35 : decode cX9_worth 35 = .ok (.aload_n 0, 1) := by decide +kernel
theorem dX9_worth_36 : decode cX9_worth 36 = .ok (.getfield 28, 3) := by decide +kernel
theorem dX9_worth_39 : decode cX9_worth 39 = .ok (.iload_n 1, 1) := by decide +kernel
theorem dX9_worth_40 : decode cX9_worth 40 = .ok (.iload_n 3, 1) := by decide +kernel
theorem dX9_worth_41 : decode cX9_worth 41 = .ok (.bastore, 1) := by decide +kernel
theorem dX9_worth_42 : decode cX9_worth 42 = .ok (.iload 4, 2) := by decide +kernel
theorem dX9_worth_44 : decode cX9_worth 44 = .ok (.iload_n 2, 1) := by decide +kernel
theorem dX9_worth_45 : decode cX9_worth 45 = .ok (.isub, 1) := by decide +kernel
theorem dX9_worth_46 : decode cX9_worth 46 = .ok (.sipush 10000, 3) := by decide +kernel
theorem dX9_worth_49 : decode cX9_worth 49 = .ok (.iadd, 1) := by decide +kernel
theorem dX9_worth_50 : decode cX9_worth 50 = .ok (.ireturn, 1) := by decide +kernel
theorem dX9_inLeastTerms_0 : decode cX9_inLeastTerms 0 = .ok (.lload_n 0, 1) := by decide +kernel
theorem dX9_inLeastTerms_1 : decode cX9_inLeastTerms 1 = .ok (.lstore 5, 2) := by decide +kernel
theorem dX9_inLeastTerms_3 : decode cX9_inLeastTerms 3 = .ok (.lload_n 2, 1) := by decide +kernel
theorem dX9_inLeastTerms_4 : decode cX9_inLeastTerms 4 = .ok (.lstore 7, 2) := by decide +kernel
theorem dX9_inLeastTerms_6 : decode cX9_inLeastTerms 6 = .ok (.lload 7, 2) := by decide +kernel
theorem dX9_inLeastTerms_8 : decode cX9_inLeastTerms 8 = .ok (.lconst 0, 1) := by decide +kernel
theorem dX9_inLeastTerms_9 : decode cX9_inLeastTerms 9 = .ok (.lcmp, 1) := by decide +kernel
theorem dX9_inLeastTerms_10 : decode cX9_inLeastTerms 10 = .ok (.ifCond .eq 21, 3) := by decide +kernel
theorem dX9_inLeastTerms_13 : decode cX9_inLeastTerms 13 = .ok (.lload 5, 2) := by decide +kernel
theorem dX9_inLeastTerms_15 : decode cX9_inLeastTerms 15 = .ok (.lload 7, 2) := by decide +kernel
theorem dX9_inLeastTerms_17 : decode cX9_inLeastTerms 17 = .ok (.lrem, 1) := by decide +kernel
theorem dX9_inLeastTerms_18 : decode cX9_inLeastTerms 18 = .ok (.lstore 9, 2) := by decide +kernel
theorem dX9_inLeastTerms_20 : decode cX9_inLeastTerms 20 = .ok (.lload 7, 2) := by decide +kernel
theorem dX9_inLeastTerms_22 : decode cX9_inLeastTerms 22 = .ok (.lstore 5, 2) := by decide +kernel
theorem dX9_inLeastTerms_24 : decode cX9_inLeastTerms 24 = .ok (.lload 9, 2) := by decide +kernel
theorem dX9_inLeastTerms_26 : decode cX9_inLeastTerms 26 = .ok (.lstore 7, 2) := by decide +kernel
theorem dX9_inLeastTerms_28 : decode cX9_inLeastTerms 28 = .ok (.goto (-22), 3) := by decide +kernel
theorem dX9_inLeastTerms_31 : decode cX9_inLeastTerms 31 = .ok (.iload 4, 2) := by decide +kernel
theorem dX9_inLeastTerms_33 : decode cX9_inLeastTerms 33 = .ok (.ifCond .ne 10, 3) := by decide +kernel
theorem dX9_inLeastTerms_36 : decode cX9_inLeastTerms 36 = .ok (.lload_n 0, 1) := by decide +kernel
theorem dX9_inLeastTerms_37 : decode cX9_inLeastTerms 37 = .ok (.lload 5, 2) := by decide +kernel
theorem dX9_inLeastTerms_39 : decode cX9_inLeastTerms 39 = .ok (.ldiv, 1) := by decide +kernel
theorem dX9_inLeastTerms_40 : decode cX9_inLeastTerms 40 = .ok (.goto 7, 3) := by decide +kernel
theorem dX9_inLeastTerms_43 : decode cX9_inLeastTerms 43 = .ok (.lload_n 2, 1) := by decide +kernel
theorem dX9_inLeastTerms_44 : decode cX9_inLeastTerms 44 = .ok (.lload 5, 2) := by decide +kernel
theorem dX9_inLeastTerms_46 : decode cX9_inLeastTerms 46 = .ok (.ldiv, 1) := by decide +kernel
theorem dX9_inLeastTerms_47 : decode cX9_inLeastTerms 47 = .ok (.lreturn, 1) := by decide +kernel
theorem dX9_odds_0 : decode cX9_odds 0 = .ok (.aload_n 0, 1) := by decide +kernel
theorem dX9_odds_1 : decode cX9_odds 1 = .ok (.iload_n 1, 1) := by decide +kernel
theorem dX9_odds_2 : decode cX9_odds 2 = .ok (.invokevirtual 162, 3) := by decide +kernel
theorem dX9_odds_5 : decode cX9_odds 5 = .ok (.ifCond .eq 22, 3) := by decide +kernel
theorem dX9_odds_8 : decode cX9_odds 8 = .ok (.iload_n 2, 1) := by decide +kernel
theorem dX9_odds_9 : decode cX9_odds 9 = .ok (.iconst 0, 1) := by decide +kernel
theorem dX9_odds_10 : decode cX9_odds 10 = .ok (.bipush 8, 2) := by decide +kernel
theorem dX9_odds_12 : decode cX9_odds 12 = .ok (.invokestatic 101, 3) := by decide +kernel
theorem dX9_odds_15 : decode cX9_odds 15 = .ok (.ifCond .eq 12, 3) := by decide +kernel
theorem dX9_odds_18 : decode cX9_odds 18 = .ok (.iload_n 3, 1) := by decide +kernel
theorem dX9_odds_19 : decode cX9_odds 19 = .ok (.iconst 0, 1) := by decide +kernel
theorem dX9_odds_20 : decode cX9_odds 20 = .ok (.iconst 1, 1) := by decide +kernel
theorem dX9_odds_21 : decode cX9_odds 21 = .ok (.invokestatic 101, 3) := by decide +kernel
theorem dX9_odds_24 : decode cX9_odds 24 = .ok (.ifCond .ne 7, 3) := by decide +kernel
theorem dX9_odds_27 : decode cX9_odds 27 = .ok (.ldc2_w 99, 3) := by decide +kernel
theorem dX9_odds_30 : decode cX9_odds 30 = .ok (.lreturn, 1) := by decide +kernel
theorem dX9_odds_31 : decode cX9_odds 31 = .ok (.iconst 0, 1) := by decide +kernel
theorem dX9_odds_32 : decode cX9_odds 32 = .ok (.istore 4, 2) := by decide +kernel
theorem dX9_odds_34 : decode cX9_odds 34 = .ok (.iload 4, 2) := by decide +kernel
theorem dX9_odds_36 : decode cX9_odds 36 = .ok (.bipush 30, 2) := by decide +kernel
theorem dX9_odds_38 : decode cX9_odds 38 = .ok (.if_icmp .ge 23, 3) := by decide +kernel
theorem dX9_odds_41 : decode cX9_odds 41 = .ok (.aload_n 0, 1) := by decide +kernel
theorem dX9_odds_42 : decode cX9_odds 42 = .ok (.getfield 84, 3) := by decide +kernel
theorem dX9_odds_45 : decode cX9_odds 45 = .ok (.iload 4, 2) := by decide +kernel
theorem dX9_odds_47 : decode cX9_odds 47 = .ok (.aload_n 0, 1) := by decide +kernel
theorem dX9_odds_48 : decode cX9_odds 48 = .ok (.getfield 38, 3) := by decide +kernel
theorem dX9_odds_51 : decode cX9_odds 51 = .ok (.iload 4, 2) := by decide +kernel
theorem dX9_odds_53 : decode cX9_odds 53 = .ok (.iaload, 1) := by decide +kernel
theorem dX9_odds_54 : decode cX9_odds 54 = .ok (.iastore, 1) := by decide +kernel
theorem dX9_odds_55 : decode cX9_odds 55 = .ok (.iinc 4 1, 3) := by decide +kernel
theorem dX9_odds_58 : decode cX9_odds 58 = .ok (.goto (-24), 3) := by decide +kernel
theorem dX9_odds_61 : decode cX9_odds 61 = .ok (.iconst 0, 1) := by decide +kernel
theorem dX9_odds_62 : decode cX9_odds 62 = .ok (.istore 4, 2) := by decide +kernel
theorem dX9_odds_64 : decode cX9_odds 64 = .ok (.iconst 0, 1) := by decide +kernel
theorem dX9_odds_65 : decode cX9_odds 65 = .ok (.istore 5, 2) := by decide +kernel
theorem dX9_odds_67 : decode cX9_odds 67 = .ok (.iload 5, 2) := by decide +kernel
theorem dX9_odds_69 : decode cX9_odds 69 = .ok (.iconst 1, 1) := by decide +kernel
theorem dX9_odds_70 : decode cX9_odds 70 = .ok (.iload_n 2, 1) := by decide +kernel
theorem dX9_odds_71 : decode cX9_odds 71 = .ok (.ishl, 1) := by decide +kernel
theorem dX9_odds_72 : decode cX9_odds 72 = .ok (.if_icmp .ge 75, 3) := by decide +kernel
theorem dX9_odds_75 : decode cX9_odds 75 = .ok (.iconst 0, 1) := by decide +kernel
theorem dX9_odds_76 : decode cX9_odds 76 = .ok (.istore 6, 2) := by decide +kernel
theorem dX9_odds_78 : decode cX9_odds 78 = .ok (.iload 6, 2) := by decide +kernel
theorem dX9_odds_80 : decode cX9_odds 80 = .ok (.iload_n 2, 1) := by decide +kernel
theorem dX9_odds_81 : decode cX9_odds 81 = .ok (.if_icmp .ge 32, 3) := by decide +kernel
theorem dX9_odds_84 : decode cX9_odds 84 = .ok (.aload_n 0, 1) := by decide +kernel
theorem dX9_odds_85 : decode cX9_odds 85 = .ok (.getfield 38, 3) := by decide +kernel
theorem dX9_odds_88 : decode cX9_odds 88 = .ok (.iload 6, 2) := by decide +kernel
theorem dX9_odds_90 : decode cX9_odds 90 = .ok (.iload 5, 2) := by decide +kernel
theorem dX9_odds_92 : decode cX9_odds 92 = .ok (.iload 6, 2) := by decide +kernel
theorem dX9_odds_94 : decode cX9_odds 94 = .ok (.ishr, 1) := by decide +kernel
theorem dX9_odds_95 : decode cX9_odds 95 = .ok (.iconst 1, 1) := by decide +kernel
theorem dX9_odds_96 : decode cX9_odds 96 = .ok (.iand, 1) := by decide +kernel
theorem dX9_odds_97 : decode cX9_odds 97 = .ok (.iconst 1, 1) := by decide +kernel
theorem dX9_odds_98 : decode cX9_odds 98 = .ok (.if_icmp .ne 7, 3) := by decide +kernel
theorem dX9_odds_101 : decode cX9_odds 101 = .ok (.iconst 3, 1) := by decide +kernel
theorem dX9_odds_102 : decode cX9_odds 102 = .ok (.goto 4, 3) := by decide +kernel
theorem dX9_odds_105 : decode cX9_odds 105 = .ok (.iconst 0, 1) := by decide +kernel
theorem dX9_odds_106 : decode cX9_odds 106 = .ok (.iastore, 1) := by decide +kernel
theorem dX9_odds_107 : decode cX9_odds 107 = .ok (.iinc 6 1, 3) := by decide +kernel
theorem dX9_odds_110 : decode cX9_odds 110 = .ok (.goto (-32), 3) := by decide +kernel
theorem dX9_odds_113 : decode cX9_odds 113 = .ok (.aload_n 0, 1) := by decide +kernel
theorem dX9_odds_114 : decode cX9_odds 114 = .ok (.iload_n 2, 1) := by decide +kernel
theorem dX9_odds_115 : decode cX9_odds 115 = .ok (.iconst 1, 1) := by decide +kernel
theorem dX9_odds_116 : decode cX9_odds 116 = .ok (.isub, 1) := by decide +kernel
theorem dX9_odds_117 : decode cX9_odds 117 = .ok (.invokevirtual 185, 3) := by decide +kernel
theorem dX9_odds_120 : decode cX9_odds 120 = .ok (.iload 4, 2) := by decide +kernel
theorem dX9_odds_122 : decode cX9_odds 122 = .ok (.aload_n 0, 1) := by decide +kernel
theorem dX9_odds_123 : decode cX9_odds 123 = .ok (.getfield 74, 3) := by decide +kernel
theorem dX9_odds_126 : decode cX9_odds 126 = .ok (.iload_n 1, 1) := by decide +kernel
theorem dX9_odds_127 : decode cX9_odds 127 = .ok (.iaload, 1) := by decide +kernel
theorem dX9_odds_128 : decode cX9_odds 128 = .ok (.bipush (-9), 2) := by decide +kernel
theorem dX9_odds_130 : decode cX9_odds 130 = .ok (.if_icmp .ne 7, 3) := by decide +kernel
theorem dX9_odds_133 : decode cX9_odds 133 = .ok (.iconst 0, 1) := by decide +kernel
theorem dX9_odds_134 : decode cX9_odds 134 = .ok (.goto 4, 3) := by decide +kernel
theorem dX9_odds_137 : decode cX9_odds 137 = .ok (.iconst 1, 1) := by decide +kernel
theorem dX9_odds_138 : decode cX9_odds 138 = .ok (.iadd, 1) := by decide +kernel
theorem dX9_odds_139 : decode cX9_odds 139 = .ok (.istore 4, 2) := by decide +kernel
theorem dX9_odds_141 : decode cX9_odds 141 = .ok (.iinc 5 1, 3) := by decide +kernel
theorem dX9_odds_144 : decode cX9_odds 144 = .ok (.goto (-77), 3) := by decide +kernel
theorem dX9_odds_147 : decode cX9_odds 147 = .ok (.iconst 0, 1) := by decide +kernel
theorem dX9_odds_148 : decode cX9_odds 148 = .ok (.istore 5, 2) := by decide +kernel
theorem dX9_odds_150 : decode cX9_odds 150 = .ok (.iload 5, 2) := by decide +kernel
theorem dX9_odds_152 : decode cX9_odds 152 = .ok (.bipush 30, 2) := by decide +kernel
theorem dX9_odds_154 : decode cX9_odds 154 = .ok (.if_icmp .ge 23, 3) := by decide +kernel
theorem dX9_odds_157 : decode cX9_odds 157 = .ok (.aload_n 0, 1) := by decide +kernel
theorem dX9_odds_158 : decode cX9_odds 158 = .ok (.getfield 38, 3) := by decide +kernel
theorem dX9_odds_161 : decode cX9_odds 161 = .ok (.iload 5, 2) := by decide +kernel
theorem dX9_odds_163 : decode cX9_odds 163 = .ok (.aload_n 0, 1) := by decide +kernel
theorem dX9_odds_164 : decode cX9_odds 164 = .ok (.getfield 84, 3) := by decide +kernel
theorem dX9_odds_167 : decode cX9_odds 167 = .ok (.iload 5, 2) := by decide +kernel
theorem dX9_odds_169 : decode cX9_odds 169 = .ok (.iaload, 1) := by decide +kernel
theorem dX9_odds_170 : decode cX9_odds 170 = .ok (.iastore, 1) := by decide +kernel
theorem dX9_odds_171 : decode cX9_odds 171 = .ok (.iinc 5 1, 3) := by decide +kernel
theorem dX9_odds_174 : decode cX9_odds 174 = .ok (.goto (-24), 3) := by decide +kernel
theorem dX9_odds_177 : decode cX9_odds 177 = .ok (.iload 4, 2) := by decide +kernel
theorem dX9_odds_179 : decode cX9_odds 179 = .ok (.i2l, 1) := by decide +kernel
theorem dX9_odds_180 : decode cX9_odds 180 = .ok (.lconst 1, 1) := by decide +kernel
theorem dX9_odds_181 : decode cX9_odds 181 = .ok (.iload_n 2, 1) := by decide +kernel
theorem dX9_odds_182 : decode cX9_odds 182 = .ok (.lshl, 1) := by decide +kernel
theorem dX9_odds_183 : decode cX9_odds 183 = .ok (.iload_n 3, 1) := by decide +kernel
theorem dX9_odds_184 : decode cX9_odds 184 = .ok (.invokestatic 211, 3) := by decide +kernel
theorem dX9_odds_187 : decode cX9_odds 187 = .ok (.lreturn, 1) := by decide +kernel
theorem dX9_isGreen_0 : decode cX9_isGreen 0 = .ok (.iconst 0, 1) := by decide +kernel
theorem dX9_isGreen_1 : decode cX9_isGreen 1 = .ok (.istore_n 3, 1) := by decide +kernel
theorem dX9_isGreen_2 : decode cX9_isGreen 2 = .ok (.iconst 0, 1) := by decide +kernel
theorem dX9_isGreen_3 : decode cX9_isGreen 3 = .ok (.istore 4, 2) := by decide +kernel
theorem dX9_isGreen_5 : decode cX9_isGreen 5 = .ok (.iload 4, 2) := by decide +kernel
theorem dX9_isGreen_7 : decode cX9_isGreen 7 = .ok (.aload_n 0, 1) := by decide +kernel
theorem dX9_isGreen_8 : decode cX9_isGreen 8 = .ok (.getfield 105, 3) := by decide +kernel
theorem dX9_isGreen_11 : decode cX9_isGreen 11 = .ok (.if_icmp .ge 41, 3) := by decide +kernel
theorem dX9_isGreen_14 : decode cX9_isGreen 14 = .ok (.iload_n 1, 1) := by decide +kernel
theorem dX9_isGreen_15 : decode cX9_isGreen 15 = .ok (.iload 4, 2) := by decide +kernel
theorem dX9_isGreen_17 : decode cX9_isGreen 17 = .ok (.ishr, 1) := by decide +kernel
theorem dX9_isGreen_18 : decode cX9_isGreen 18 = .ok (.iconst 1, 1) := by decide +kernel
theorem dX9_isGreen_19 : decode cX9_isGreen 19 = .ok (.iand, 1) := by decide +kernel
theorem dX9_isGreen_20 : decode cX9_isGreen 20 = .ok (.iconst 1, 1) := by decide +kernel
theorem dX9_isGreen_21 : decode cX9_isGreen 21 = .ok (.if_icmp .ne 25, 3) := by decide +kernel
theorem dX9_isGreen_24 : decode cX9_isGreen 24 = .ok (.aload_n 0, 1) := by decide +kernel
theorem dX9_isGreen_25 : decode cX9_isGreen 25 = .ok (.getfield 28, 3) := by decide +kernel
theorem dX9_isGreen_28 : decode cX9_isGreen 28 = .ok (.iload 4, 2) := by decide +kernel
theorem dX9_isGreen_30 : decode cX9_isGreen 30 = .ok (.baload, 1) := by decide +kernel
theorem dX9_isGreen_31 : decode cX9_isGreen 31 = .ok (.ifCond .eq 5, 3) := by decide +kernel
theorem dX9_isGreen_34 : decode cX9_isGreen 34 = .ok (.iconst 0, 1) := by decide +kernel
theorem dX9_isGreen_35 : decode cX9_isGreen 35 = .ok (.ireturn, 1) := by decide +kernel
theorem dX9_isGreen_36 : decode cX9_isGreen 36 = .ok (.iload_n 3, 1) := by decide +kernel
theorem dX9_isGreen_37 : decode cX9_isGreen 37 = .ok (.aload_n 0, 1) := by decide +kernel
theorem dX9_isGreen_38 : decode cX9_isGreen 38 = .ok (.getfield 22, 3) := by decide +kernel
theorem dX9_isGreen_41 : decode cX9_isGreen 41 = .ok (.iload 4, 2) := by decide +kernel
theorem dX9_isGreen_43 : decode cX9_isGreen 43 = .ok (.iaload, 1) := by decide +kernel
theorem dX9_isGreen_44 : decode cX9_isGreen 44 = .ok (.iadd, 1) := by decide +kernel
theorem dX9_isGreen_45 : decode cX9_isGreen 45 = .ok (.istore_n 3, 1) := by decide +kernel
theorem dX9_isGreen_46 : decode cX9_isGreen 46 = .ok (.iinc 4 1, 3) := by decide +kernel
theorem dX9_isGreen_49 : decode cX9_isGreen 49 = .ok (.goto (-44), 3) := by decide +kernel
theorem dX9_isGreen_52 : decode cX9_isGreen 52 = .ok (.iload_n 1, 1) := by decide +kernel
theorem dX9_isGreen_53 : decode cX9_isGreen 53 = .ok (.invokestatic 201, 3) := by decide +kernel
theorem dX9_isGreen_56 : decode cX9_isGreen 56 = .ok (.iconst 3, 1) := by decide +kernel
theorem dX9_isGreen_57 : decode cX9_isGreen 57 = .ok (.if_icmp .ne 15, 3) := by decide +kernel
theorem dX9_isGreen_60 : decode cX9_isGreen 60 = .ok (.iload_n 3, 1) := by decide +kernel
theorem dX9_isGreen_61 : decode cX9_isGreen 61 = .ok (.bipush 6, 2) := by decide +kernel
theorem dX9_isGreen_63 : decode cX9_isGreen 63 = .ok (.irem, 1) := by decide +kernel
theorem dX9_isGreen_64 : decode cX9_isGreen 64 = .ok (.iload_n 2, 1) := by decide +kernel
theorem dX9_isGreen_65 : decode cX9_isGreen 65 = .ok (.if_icmp .ne 7, 3) := by decide +kernel
theorem dX9_isGreen_68 : decode cX9_isGreen 68 = .ok (.iconst 1, 1) := by decide +kernel
theorem dX9_isGreen_69 : decode cX9_isGreen 69 = .ok (.goto 4, 3) := by decide +kernel
theorem dX9_isGreen_72 : decode cX9_isGreen 72 = .ok (.iconst 0, 1) := by decide +kernel
theorem dX9_isGreen_73 : decode cX9_isGreen 73 = .ok (.ireturn, 1) := by decide +kernel
theorem dX9_green_0 : decode cX9_green 0 = .ok (.iload_n 1, 1) := by decide +kernel
theorem dX9_green_1 : decode cX9_green 1 = .ok (.iconst 0, 1) := by decide +kernel
theorem dX9_green_2 : decode cX9_green 2 = .ok (.iconst 5, 1) := by decide +kernel
theorem dX9_green_3 : decode cX9_green 3 = .ok (.invokestatic 101, 3) := by decide +kernel
theorem dX9_green_6 : decode cX9_green 6 = .ok (.ifCond .ne 6, 3) := by decide +kernel
theorem dX9_green_9 : decode cX9_green 9 = .ok (.bipush (-2), 2) := by decide +kernel
theorem dX9_green_11 : decode cX9_green 11 = .ok (.ireturn, 1) := by decide +kernel
theorem dX9_green_12 : decode cX9_green 12 = .ok (.iload_n 2, 1) := by decide +kernel
theorem dX9_green_13 : decode cX9_green 13 = .ok (.iconst (-1), 1) := by decide +kernel
theorem dX9_green_14 : decode cX9_green 14 = .ok (.if_icmp .ge 5, 3) := by decide +kernel
theorem dX9_green_17 : decode cX9_green 17 = .ok (.iconst (-1), 1) := by decide +kernel
theorem dX9_green_18 : decode cX9_green 18 = .ok (.ireturn, 1) := by decide +kernel
theorem dX9_green_19 : decode cX9_green 19 = .ok (.aload_n 0, 1) := by decide +kernel
theorem dX9_green_20 : decode cX9_green 20 = .ok (.getfield 105, 3) := by decide +kernel
theorem dX9_green_23 : decode cX9_green 23 = .ok (.ifCond .ne 6, 3) := by decide +kernel
theorem dX9_green_26 : decode cX9_green 26 = .ok (.bipush (-3), 2) := by decide +kernel
theorem dX9_green_28 : decode cX9_green 28 = .ok (.ireturn, 1) := by decide +kernel
theorem dX9_green_29 : decode cX9_green 29 = .ok (.iconst 0, 1) := by decide +kernel
theorem dX9_green_30 : decode cX9_green 30 = .ok (.istore_n 3, 1) := by decide +kernel
theorem dX9_green_31 : decode cX9_green 31 = .ok (.iconst 0, 1) := by decide +kernel
theorem dX9_green_32 : decode cX9_green 32 = .ok (.istore 4, 2) := by decide +kernel
theorem dX9_green_34 : decode cX9_green 34 = .ok (.iload 4, 2) := by decide +kernel
theorem dX9_green_36 : decode cX9_green 36 = .ok (.iconst 1, 1) := by decide +kernel
theorem dX9_green_37 : decode cX9_green 37 = .ok (.aload_n 0, 1) := by decide +kernel
theorem dX9_green_38 : decode cX9_green 38 = .ok (.getfield 105, 3) := by decide +kernel
theorem dX9_green_41 : decode cX9_green 41 = .ok (.ishl, 1) := by decide +kernel
theorem dX9_green_42 : decode cX9_green 42 = .ok (.if_icmp .ge 30, 3) := by decide +kernel
theorem dX9_green_45 : decode cX9_green 45 = .ok (.aload_n 0, 1) := by decide +kernel
theorem dX9_green_46 : decode cX9_green 46 = .ok (.iload 4, 2) := by decide +kernel
theorem dX9_green_48 : decode cX9_green 48 = .ok (.iload_n 1, 1) := by decide +kernel
theorem dX9_green_49 : decode cX9_green 49 = .ok (.invokevirtual 215, 3) := by decide +kernel
theorem dX9_green_52 : decode cX9_green 52 = .ok (.ifCond .eq 14, 3) := by decide +kernel
theorem dX9_green_55 : decode cX9_green 55 = .ok (.iload_n 3, 1) := by decide +kernel
theorem dX9_green_56 : decode cX9_green 56 = .ok (.iload_n 2, 1) := by decide +kernel
theorem dX9_green_57 : decode cX9_green 57 = .ok (.if_icmp .ne 6, 3) := by decide +kernel
theorem dX9_green_60 : decode cX9_green 60 = .ok (.iload 4, 2) := by decide +kernel
theorem dX9_green_62 : decode cX9_green 62 = .ok (.ireturn, 1) := by decide +kernel
theorem dX9_green_63 : decode cX9_green 63 = .ok (.iinc 3 1, 3) := by decide +kernel
theorem dX9_green_66 : decode cX9_green 66 = .ok (.iinc 4 1, 3) := by decide +kernel
theorem dX9_green_69 : decode cX9_green 69 = .ok (.goto (-35), 3) := by decide +kernel
theorem dX9_green_72 : decode cX9_green 72 = .ok (.iload_n 2, 1) := by decide +kernel
theorem dX9_green_73 : decode cX9_green 73 = .ok (.iconst (-1), 1) := by decide +kernel
theorem dX9_green_74 : decode cX9_green 74 = .ok (.if_icmp .ne 7, 3) := by decide +kernel
theorem dX9_green_77 : decode cX9_green 77 = .ok (.iload_n 3, 1) := by decide +kernel
theorem dX9_green_78 : decode cX9_green 78 = .ok (.goto 5, 3) := by decide +kernel
theorem dX9_green_81 : decode cX9_green 81 = .ok (.bipush (-9), 2) := by decide +kernel
theorem dX9_green_83 : decode cX9_green 83 = .ok (.ireturn, 1) := by decide +kernel
theorem dX9_reading_0 : decode cX9_reading 0 = .ok (.aload_n 0, 1) := by decide +kernel
theorem dX9_reading_1 : decode cX9_reading 1 = .ok (.iload_n 1, 1) := by decide +kernel
theorem dX9_reading_2 : decode cX9_reading 2 = .ok (.invokevirtual 162, 3) := by decide +kernel
theorem dX9_reading_5 : decode cX9_reading 5 = .ok (.ifCond .eq 10, 3) := by decide +kernel
theorem dX9_reading_8 : decode cX9_reading 8 = .ok (.iload_n 2, 1) := by decide +kernel
theorem dX9_reading_9 : decode cX9_reading 9 = .ok (.invokestatic 165, 3) := by decide +kernel
theorem dX9_reading_12 : decode cX9_reading 12 = .ok (.ifCond .ne 5, 3) := by decide +kernel
theorem dX9_reading_15 : decode cX9_reading 15 = .ok (.iconst (-1), 1) := by decide +kernel
theorem dX9_reading_16 : decode cX9_reading 16 = .ok (.ireturn, 1) := by decide +kernel
theorem dX9_reading_17 : decode cX9_reading 17 = .ok (.aload_n 0, 1) := by decide +kernel
theorem dX9_reading_18 : decode cX9_reading 18 = .ok (.getfield 141, 3) := by decide +kernel
theorem dX9_reading_21 : decode cX9_reading 21 = .ok (.bipush 8, 2) := by decide +kernel
theorem dX9_reading_23 : decode cX9_reading 23 = .ok (.if_icmp .ne 6, 3) := by decide +kernel
theorem dX9_reading_26 : decode cX9_reading 26 = .ok (.bipush (-4), 2) := by decide +kernel
theorem dX9_reading_28 : decode cX9_reading 28 = .ok (.ireturn, 1) := by decide +kernel
theorem dX9_reading_29 : decode cX9_reading 29 = .ok (.aload_n 0, 1) := by decide +kernel
theorem dX9_reading_30 : decode cX9_reading 30 = .ok (.getfield 87, 3) := by decide +kernel
theorem dX9_reading_33 : decode cX9_reading 33 = .ok (.aload_n 0, 1) := by decide +kernel
theorem dX9_reading_34 : decode cX9_reading 34 = .ok (.getfield 141, 3) := by decide +kernel
theorem dX9_reading_37 : decode cX9_reading 37 = .ok (.iload_n 1, 1) := by decide +kernel
theorem dX9_reading_38 : decode cX9_reading 38 = .ok (.iastore, 1) := by decide +kernel
theorem dX9_reading_39 : decode cX9_reading 39 = .ok (.aload_n 0, 1) := by decide +kernel
theorem dX9_reading_40 : decode cX9_reading 40 = .ok (.getfield 90, 3) := by decide +kernel
theorem dX9_reading_43 : decode cX9_reading 43 = .ok (.aload_n 0, 1) := by decide +kernel
theorem dX9_reading_44 : decode cX9_reading 44 = .ok (.getfield 141, 3) := by decide +kernel
theorem dX9_reading_47 : decode cX9_reading 47 = .ok (.iload_n 2, 1) := by decide +kernel
theorem dX9_reading_48 : decode cX9_reading 48 = .ok (.iastore, 1) := by decide +kernel
theorem dX9_reading_49 : decode cX9_reading 49 = .ok (.aload_n 0, 1) := by decide +kernel
theorem dX9_reading_50 : decode cX9_reading 50 = .ok (.getfield 93, 3) := by decide +kernel
theorem dX9_reading_53 : decode cX9_reading 53 = .ok (.aload_n 0, 1) := by decide +kernel
theorem dX9_reading_54 : decode cX9_reading 54 = .ok (.getfield 141, 3) := by decide +kernel
theorem dX9_reading_57 : decode cX9_reading 57 = .ok (.iload_n 3, 1) := by decide +kernel
theorem dX9_reading_58 : decode cX9_reading 58 = .ok (.bastore, 1) := by decide +kernel
theorem dX9_reading_59 : decode cX9_reading 59 = .ok (.aload_n 0, 1) := by decide +kernel
theorem dX9_reading_60 : decode cX9_reading 60 = .ok (.dup, 1) := by decide +kernel
theorem dX9_reading_61 : decode cX9_reading 61 = .ok (.getfield 141, 3) := by decide +kernel
theorem dX9_reading_64 : decode cX9_reading 64 = .ok (.iconst 1, 1) := by decide +kernel
theorem dX9_reading_65 : decode cX9_reading 65 = .ok (.iadd, 1) := by decide +kernel
theorem dX9_reading_66 : decode cX9_reading 66 = .ok (.putfield 141, 3) := by decide +kernel
theorem dX9_reading_69 : decode cX9_reading 69 = .ok (.aload_n 0, 1) := by decide +kernel
theorem dX9_reading_70 : decode cX9_reading 70 = .ok (.getfield 141, 3) := by decide +kernel
theorem dX9_reading_73 : decode cX9_reading 73 = .ok (.iconst 1, 1) := by decide +kernel
theorem dX9_reading_74 : decode cX9_reading 74 = .ok (.isub, 1) := by decide +kernel
theorem dX9_reading_75 : decode cX9_reading 75 = .ok (.ireturn, 1) := by decide +kernel
theorem dX9_back_0 : decode cX9_back 0 = .ok (.iload_n 1, 1) := by decide +kernel
theorem dX9_back_1 : decode cX9_back 1 = .ok (.iconst 0, 1) := by decide +kernel
theorem dX9_back_2 : decode cX9_back 2 = .ok (.aload_n 0, 1) := by decide +kernel
theorem dX9_back_3 : decode cX9_back 3 = .ok (.getfield 141, 3) := by decide +kernel
theorem dX9_back_6 : decode cX9_back 6 = .ok (.invokestatic 101, 3) := by decide +kernel
theorem dX9_back_9 : decode cX9_back 9 = .ok (.ifCond .ne 6, 3) := by decide +kernel
theorem dX9_back_12 : decode cX9_back 12 = .ok (.bipush (-2), 2) := by decide +kernel
theorem dX9_back_14 : decode cX9_back 14 = .ok (.ireturn, 1) := by decide +kernel
theorem dX9_back_15 : decode cX9_back 15 = .ok (.aload_n 0, 1) := by decide +kernel
theorem dX9_back_16 : decode cX9_back 16 = .ok (.dup, 1) := by decide +kernel
theorem dX9_back_17 : decode cX9_back 17 = .ok (.getfield 141, 3) := by decide +kernel
theorem dX9_back_20 : decode cX9_back 20 = .ok (.iload_n 1, 1) := by decide +kernel
theorem dX9_back_21 : decode cX9_back 21 = .ok (.isub, 1) := by decide +kernel
theorem dX9_back_22 : decode cX9_back 22 = .ok (.putfield 141, 3) := by decide +kernel
theorem dX9_back_25 : decode cX9_back 25 = .ok (.aload_n 0, 1) := by decide +kernel
theorem dX9_back_26 : decode cX9_back 26 = .ok (.getfield 141, 3) := by decide +kernel
theorem dX9_back_29 : decode cX9_back 29 = .ok (.ireturn, 1) := by decide +kernel
theorem dX9_areSo_0 : decode cX9_areSo 0 = .ok (.aload_n 0, 1) := by decide +kernel
theorem dX9_areSo_1 : decode cX9_areSo 1 = .ok (.bipush 29, 2) := by decide +kernel
theorem dX9_areSo_3 : decode cX9_areSo 3 = .ok (.invokevirtual 185, 3) := by decide +kernel
theorem dX9_areSo_6 : decode cX9_areSo 6 = .ok (.iconst 0, 1) := by decide +kernel
theorem dX9_areSo_7 : decode cX9_areSo 7 = .ok (.istore_n 1, 1) := by decide +kernel
theorem dX9_areSo_8 : decode cX9_areSo 8 = .ok (.iload_n 1, 1) := by decide +kernel
theorem dX9_areSo_9 : decode cX9_areSo 9 = .ok (.aload_n 0, 1) := by decide +kernel
theorem dX9_areSo_10 : decode cX9_areSo 10 = .ok (.getfield 141, 3) := by decide +kernel
theorem dX9_areSo_13 : decode cX9_areSo 13 = .ok (.if_icmp .ge 47, 3) := by decide +kernel
theorem dX9_areSo_16 : decode cX9_areSo 16 = .ok (.aload_n 0, 1) := by decide +kernel
theorem dX9_areSo_17 : decode cX9_areSo 17 = .ok (.getfield 71, 3) := by decide +kernel
theorem dX9_areSo_20 : decode cX9_areSo 20 = .ok (.aload_n 0, 1) := by decide +kernel
theorem dX9_areSo_21 : decode cX9_areSo 21 = .ok (.getfield 87, 3) := by decide +kernel
theorem dX9_areSo_24 : decode cX9_areSo 24 = .ok (.iload_n 1, 1) := by decide +kernel
theorem dX9_areSo_25 : decode cX9_areSo 25 = .ok (.iaload, 1) := by decide +kernel
theorem dX9_areSo_26 : decode cX9_areSo 26 = .ok (.iaload, 1) := by decide +kernel
theorem dX9_areSo_27 : decode cX9_areSo 27 = .ok (.aload_n 0, 1) := by decide +kernel
theorem dX9_areSo_28 : decode cX9_areSo 28 = .ok (.getfield 90, 3) := by decide +kernel
theorem dX9_areSo_31 : decode cX9_areSo 31 = .ok (.iload_n 1, 1) := by decide +kernel
theorem dX9_areSo_32 : decode cX9_areSo 32 = .ok (.iaload, 1) := by decide +kernel
theorem dX9_areSo_33 : decode cX9_areSo 33 = .ok (.if_icmp .gt 7, 3) := by decide +kernel
theorem dX9_areSo_36 : decode cX9_areSo 36 = .ok (.iconst 1, 1) := by decide +kernel
theorem dX9_areSo_37 : decode cX9_areSo 37 = .ok (.goto 4, 3) := by decide +kernel
theorem dX9_areSo_40 : decode cX9_areSo 40 = .ok (.iconst 0, 1) := by decide +kernel
theorem dX9_areSo_41 : decode cX9_areSo 41 = .ok (.istore_n 2, 1) := by decide +kernel
theorem dX9_areSo_42 : decode cX9_areSo 42 = .ok (.iload_n 2, 1) := by decide +kernel
theorem dX9_areSo_43 : decode cX9_areSo 43 = .ok (.aload_n 0, 1) := by decide +kernel
theorem dX9_areSo_44 : decode cX9_areSo 44 = .ok (.getfield 93, 3) := by decide +kernel
theorem dX9_areSo_47 : decode cX9_areSo 47 = .ok (.iload_n 1, 1) := by decide +kernel
theorem dX9_areSo_48 : decode cX9_areSo 48 = .ok (.baload, 1) := by decide +kernel
theorem dX9_areSo_49 : decode cX9_areSo 49 = .ok (.if_icmp .eq 5, 3) := by decide +kernel
theorem dX9_areSo_52 : decode cX9_areSo 52 = .ok (.iconst 0, 1) := by decide +kernel
theorem dX9_areSo_53 : decode cX9_areSo 53 = .ok (.ireturn, 1) := by decide +kernel
theorem dX9_areSo_54 : decode cX9_areSo 54 = .ok (.iinc 1 1, 3) := by decide +kernel
theorem dX9_areSo_57 : decode cX9_areSo 57 = .ok (.goto (-49), 3) := by decide +kernel
theorem dX9_areSo_60 : decode cX9_areSo 60 = .ok (.iconst 1, 1) := by decide +kernel
theorem dX9_areSo_61 : decode cX9_areSo 61 = .ok (.ireturn, 1) := by decide +kernel
theorem dX9_thief_0 : decode cX9_thief 0 = .ok (.iload_n 1, 1) := by decide +kernel
theorem dX9_thief_1 : decode cX9_thief 1 = .ok (.invokestatic 165, 3) := by decide +kernel
theorem dX9_thief_4 : decode cX9_thief 4 = .ok (.ifCond .ne 5, 3) := by decide +kernel
theorem dX9_thief_7 : decode cX9_thief 7 = .ok (.iconst (-1), 1) := by decide +kernel
theorem dX9_thief_8 : decode cX9_thief 8 = .ok (.ireturn, 1) := by decide +kernel
theorem dX9_thief_9 : decode cX9_thief 9 = .ok (.aload_n 0, 1) := by decide +kernel
theorem dX9_thief_10 : decode cX9_thief 10 = .ok (.getfield 105, 3) := by decide +kernel
theorem dX9_thief_13 : decode cX9_thief 13 = .ok (.ifCond .ne 6, 3) := by decide +kernel
theorem dX9_thief_16 : decode cX9_thief 16 = .ok (.bipush (-3), 2) := by decide +kernel
theorem dX9_thief_18 : decode cX9_thief 18 = .ok (.ireturn, 1) := by decide +kernel
theorem dX9_thief_19 : decode cX9_thief 19 = .ok (.iconst 0, 1) := by decide +kernel
theorem dX9_thief_20 : decode cX9_thief 20 = .ok (.istore_n 2, 1) := by decide +kernel
theorem dX9_thief_21 : decode cX9_thief 21 = .ok (.aload_n 0, 1) := by decide +kernel
theorem dX9_thief_22 : decode cX9_thief 22 = .ok (.getfield 62, 3) := by decide +kernel
theorem dX9_thief_25 : decode cX9_thief 25 = .ok (.aload_n 0, 1) := by decide +kernel
theorem dX9_thief_26 : decode cX9_thief 26 = .ok (.getfield 138, 3) := by decide +kernel
theorem dX9_thief_29 : decode cX9_thief 29 = .ok (.iload_n 1, 1) := by decide +kernel
theorem dX9_thief_30 : decode cX9_thief 30 = .ok (.iastore, 1) := by decide +kernel
theorem dX9_thief_31 : decode cX9_thief 31 = .ok (.aload_n 0, 1) := by decide +kernel
theorem dX9_thief_32 : decode cX9_thief 32 = .ok (.dup, 1) := by decide +kernel
theorem dX9_thief_33 : decode cX9_thief 33 = .ok (.getfield 138, 3) := by decide +kernel
theorem dX9_thief_36 : decode cX9_thief 36 = .ok (.iconst 1, 1) := by decide +kernel
theorem dX9_thief_37 : decode cX9_thief 37 = .ok (.iadd, 1) := by decide +kernel
theorem dX9_thief_38 : decode cX9_thief 38 = .ok (.putfield 138, 3) := by decide +kernel
theorem dX9_thief_41 : decode cX9_thief 41 = .ok (.iconst 0, 1) := by decide +kernel
theorem dX9_thief_42 : decode cX9_thief 42 = .ok (.istore_n 3, 1) := by decide +kernel
theorem dX9_thief_43 : decode cX9_thief 43 = .ok (.iload_n 3, 1) := by decide +kernel
theorem dX9_thief_44 : decode cX9_thief 44 = .ok (.aload_n 0, 1) := by decide +kernel
theorem dX9_thief_45 : decode cX9_thief 45 = .ok (.getfield 105, 3) := by decide +kernel
theorem dX9_thief_48 : decode cX9_thief 48 = .ok (.if_icmp .ge 38, 3) := by decide +kernel
theorem dX9_thief_51 : decode cX9_thief 51 = .ok (.aload_n 0, 1) := by decide +kernel
theorem dX9_thief_52 : decode cX9_thief 52 = .ok (.getfield 65, 3) := by decide +kernel
theorem dX9_thief_55 : decode cX9_thief 55 = .ok (.aload_n 0, 1) := by decide +kernel
theorem dX9_thief_56 : decode cX9_thief 56 = .ok (.getfield 138, 3) := by decide +kernel
theorem dX9_thief_59 : decode cX9_thief 59 = .ok (.iconst 1, 1) := by decide +kernel
theorem dX9_thief_60 : decode cX9_thief 60 = .ok (.isub, 1) := by decide +kernel
theorem dX9_thief_61 : decode cX9_thief 61 = .ok (.iload_n 3, 1) := by decide +kernel
theorem dX9_thief_62 : decode cX9_thief 62 = .ok (.iastore, 1) := by decide +kernel
theorem dX9_thief_63 : decode cX9_thief 63 = .ok (.iload_n 2, 1) := by decide +kernel
theorem dX9_thief_64 : decode cX9_thief 64 = .ok (.aload_n 0, 1) := by decide +kernel
theorem dX9_thief_65 : decode cX9_thief 65 = .ok (.invokevirtual 219, 3) := by decide +kernel
theorem dX9_thief_68 : decode cX9_thief 68 = .ok (.ifCond .eq 9, 3) := by decide +kernel
theorem dX9_thief_71 : decode cX9_thief 71 = .ok (.iconst 1, 1) := by decide +kernel
theorem dX9_thief_72 : decode cX9_thief 72 = .ok (.iload_n 3, 1) := by decide +kernel
theorem dX9_thief_73 : decode cX9_thief 73 = .ok (.ishl, 1) := by decide +kernel
theorem dX9_thief_74 : decode cX9_thief 74 = .ok (.goto 4, 3) := by decide +kernel
theorem dX9_thief_77 : decode cX9_thief 77 = .ok (.iconst 0, 1) := by decide +kernel
theorem dX9_thief_78 : decode cX9_thief 78 = .ok (.ior, 1) := by decide +kernel
theorem dX9_thief_79 : decode cX9_thief 79 = .ok (.istore_n 2, 1) := by decide +kernel
theorem dX9_thief_80 : decode cX9_thief 80 = .ok (.iinc 3 1, 3) := by decide +kernel
theorem dX9_thief_83 : decode cX9_thief 83 = .ok (.goto (-40), 3) := by decide +kernel
theorem dX9_thief_86 : decode cX9_thief 86 = .ok (.aload_n 0, 1) := by decide +kernel
theorem dX9_thief_87 : decode cX9_thief 87 = .ok (.dup, 1) := by decide +kernel
theorem dX9_thief_88 : decode cX9_thief 88 = .ok (.getfield 138, 3) := by decide +kernel
theorem dX9_thief_91 : decode cX9_thief 91 = .ok (.iconst 1, 1) := by decide +kernel
theorem dX9_thief_92 : decode cX9_thief 92 = .ok (.isub, 1) := by decide +kernel
theorem dX9_thief_93 : decode cX9_thief 93 = .ok (.putfield 138, 3) := by decide +kernel
theorem dX9_thief_96 : decode cX9_thief 96 = .ok (.iload_n 2, 1) := by decide +kernel
theorem dX9_thief_97 : decode cX9_thief 97 = .ok (.ireturn, 1) := by decide +kernel
theorem dX9_sheet_0 : decode cX9_sheet 0 = .ok (.aload_n 0, 1) := by decide +kernel
theorem dX9_sheet_1 : decode cX9_sheet 1 = .ok (.iconst 0, 1) := by decide +kernel
theorem dX9_sheet_2 : decode cX9_sheet 2 = .ok (.putfield 96, 3) := by decide +kernel
theorem dX9_sheet_5 : decode cX9_sheet 5 = .ok (.iload_n 1, 1) := by decide +kernel
theorem dX9_sheet_6 : decode cX9_sheet 6 = .ok (.invokestatic 114, 3) := by decide +kernel
theorem dX9_sheet_9 : decode cX9_sheet 9 = .ok (.ifCond .ne 5, 3) := by decide +kernel
theorem dX9_sheet_12 : decode cX9_sheet 12 = .ok (.iconst (-1), 1) := by decide +kernel
theorem dX9_sheet_13 : decode cX9_sheet 13 = .ok (.ireturn, 1) := by decide +kernel
theorem dX9_sheet_14 : decode cX9_sheet 14 = .ok (.iload_n 2, 1) := by decide +kernel
theorem dX9_sheet_15 : decode cX9_sheet 15 = .ok (.invokestatic 118, 3) := by decide +kernel
theorem dX9_sheet_18 : decode cX9_sheet 18 = .ok (.ifCond .eq 9, 3) := by decide +kernel
theorem dX9_sheet_21 : decode cX9_sheet 21 = .ok (.iload_n 3, 1) := by decide +kernel
theorem dX9_sheet_22 : decode cX9_sheet 22 = .ok (.bipush 50, 2) := by decide +kernel
theorem dX9_sheet_24 : decode cX9_sheet 24 = .ok (.if_icmp .le 6, 3) := by decide +kernel
theorem dX9_sheet_27 : decode cX9_sheet 27 = .ok (.bipush (-2), 2) := by decide +kernel
theorem dX9_sheet_29 : decode cX9_sheet 29 = .ok (.ireturn, 1) := by decide +kernel
theorem dX9_sheet_30 : decode cX9_sheet 30 = .ok (.iload_n 3, 1) := by decide +kernel
theorem dX9_sheet_31 : decode cX9_sheet 31 = .ok (.ifCond .ge 9, 3) := by decide +kernel
theorem dX9_sheet_34 : decode cX9_sheet 34 = .ok (.aload_n 0, 1) := by decide +kernel
theorem dX9_sheet_35 : decode cX9_sheet 35 = .ok (.iconst 4, 1) := by decide +kernel
theorem dX9_sheet_36 : decode cX9_sheet 36 = .ok (.invokevirtual 125, 3) := by decide +kernel
theorem dX9_sheet_39 : decode cX9_sheet 39 = .ok (.ireturn, 1) := by decide +kernel
theorem dX9_sheet_40 : decode cX9_sheet 40 = .ok (.aload_n 0, 1) := by decide +kernel
theorem dX9_sheet_41 : decode cX9_sheet 41 = .ok (.getfield 9, 3) := by decide +kernel
theorem dX9_sheet_44 : decode cX9_sheet 44 = .ok (.iload_n 1, 1) := by decide +kernel
theorem dX9_sheet_45 : decode cX9_sheet 45 = .ok (.iload_n 2, 1) := by decide +kernel
theorem dX9_sheet_46 : decode cX9_sheet 46 = .ok (.iastore, 1) := by decide +kernel
theorem dX9_sheet_47 : decode cX9_sheet 47 = .ok (.aload_n 0, 1) := by decide +kernel
theorem dX9_sheet_48 : decode cX9_sheet 48 = .ok (.getfield 13, 3) := by decide +kernel
theorem dX9_sheet_51 : decode cX9_sheet 51 = .ok (.iload_n 1, 1) := by decide +kernel
theorem dX9_sheet_52 : decode cX9_sheet 52 = .ok (.iload_n 3, 1) := by decide +kernel
theorem dX9_sheet_53 : decode cX9_sheet 53 = .ok (.iastore, 1) := by decide +kernel
theorem dX9_sheet_54 : decode cX9_sheet 54 = .ok (.iconst 0, 1) := by decide +kernel
theorem dX9_sheet_55 : decode cX9_sheet 55 = .ok (.istore 4, 2) := by decide +kernel
theorem dX9_sheet_57 : decode cX9_sheet 57 = .ok (.iload 4, 2) := by decide +kernel
theorem dX9_sheet_59 : decode cX9_sheet 59 = .ok (.bipush 50, 2) := by decide +kernel
theorem dX9_sheet_61 : decode cX9_sheet 61 = .ok (.if_icmp .ge 22, 3) := by decide +kernel
theorem dX9_sheet_64 : decode cX9_sheet 64 = .ok (.aload_n 0, 1) := by decide +kernel
theorem dX9_sheet_65 : decode cX9_sheet 65 = .ok (.getfield 16, 3) := by decide +kernel
theorem dX9_sheet_68 : decode cX9_sheet 68 = .ok (.bipush 50, 2) := by decide +kernel
theorem dX9_sheet_70 : decode cX9_sheet 70 = .ok (.iload_n 1, 1) := by decide +kernel
theorem dX9_sheet_71 : decode cX9_sheet 71 = .ok (.imul, 1) := by decide +kernel
theorem dX9_sheet_72 : decode cX9_sheet 72 = .ok (.iload 4, 2) := by decide +kernel
theorem dX9_sheet_74 : decode cX9_sheet 74 = .ok (.iadd, 1) := by decide +kernel
theorem dX9_sheet_75 : decode cX9_sheet 75 = .ok (.iconst 0, 1) := by decide +kernel
theorem dX9_sheet_76 : decode cX9_sheet 76 = .ok (.iastore, 1) := by decide +kernel
theorem dX9_sheet_77 : decode cX9_sheet 77 = .ok (.iinc 4 1, 3) := by decide +kernel
theorem dX9_sheet_80 : decode cX9_sheet 80 = .ok (.goto (-23), 3) := by decide +kernel
theorem dX9_sheet_83 : decode cX9_sheet 83 = .ok (.iconst 1, 1) := by decide +kernel
theorem dX9_sheet_84 : decode cX9_sheet 84 = .ok (.ireturn, 1) := by decide +kernel
theorem dX9_lose_0 : decode cX9_lose 0 = .ok (.iload_n 1, 1) := by decide +kernel
theorem dX9_lose_1 : decode cX9_lose 1 = .ok (.invokestatic 114, 3) := by decide +kernel
theorem dX9_lose_4 : decode cX9_lose 4 = .ok (.ifCond .ne 5, 3) := by decide +kernel
theorem dX9_lose_7 : decode cX9_lose 7 = .ok (.iconst (-1), 1) := by decide +kernel
theorem dX9_lose_8 : decode cX9_lose 8 = .ok (.ireturn, 1) := by decide +kernel
theorem dX9_lose_9 : decode cX9_lose 9 = .ok (.aload_n 0, 1) := by decide +kernel
theorem dX9_lose_10 : decode cX9_lose 10 = .ok (.getfield 9, 3) := by decide +kernel
theorem dX9_lose_13 : decode cX9_lose 13 = .ok (.iload_n 1, 1) := by decide +kernel
theorem dX9_lose_14 : decode cX9_lose 14 = .ok (.iaload, 1) := by decide +kernel
theorem dX9_lose_15 : decode cX9_lose 15 = .ok (.bipush (-9), 2) := by decide +kernel
theorem dX9_lose_17 : decode cX9_lose 17 = .ok (.if_icmp .ne 7, 3) := by decide +kernel
theorem dX9_lose_20 : decode cX9_lose 20 = .ok (.iconst 0, 1) := by decide +kernel
theorem dX9_lose_21 : decode cX9_lose 21 = .ok (.goto 4, 3) := by decide +kernel
theorem dX9_lose_24 : decode cX9_lose 24 = .ok (.iconst 1, 1) := by decide +kernel
theorem dX9_lose_25 : decode cX9_lose 25 = .ok (.istore_n 2, 1) := by decide +kernel
theorem dX9_lose_26 : decode cX9_lose 26 = .ok (.aload_n 0, 1) := by decide +kernel
theorem dX9_lose_27 : decode cX9_lose 27 = .ok (.getfield 9, 3) := by decide +kernel
theorem dX9_lose_30 : decode cX9_lose 30 = .ok (.iload_n 1, 1) := by decide +kernel
theorem dX9_lose_31 : decode cX9_lose 31 = .ok (.bipush (-9), 2) := by decide +kernel
theorem dX9_lose_33 : decode cX9_lose 33 = .ok (.iastore, 1) := by decide +kernel
theorem dX9_lose_34 : decode cX9_lose 34 = .ok (.iload_n 2, 1) := by decide +kernel
theorem dX9_lose_35 : decode cX9_lose 35 = .ok (.ireturn, 1) := by decide +kernel
theorem dX9_put_0 : decode cX9_put 0 = .ok (.aload_n 0, 1) := by decide +kernel
theorem dX9_put_1 : decode cX9_put 1 = .ok (.iconst 0, 1) := by decide +kernel
theorem dX9_put_2 : decode cX9_put 2 = .ok (.putfield 96, 3) := by decide +kernel
theorem dX9_put_5 : decode cX9_put 5 = .ok (.iload_n 1, 1) := by decide +kernel
theorem dX9_put_6 : decode cX9_put 6 = .ok (.invokestatic 114, 3) := by decide +kernel
theorem dX9_put_9 : decode cX9_put 9 = .ok (.ifCond .ne 5, 3) := by decide +kernel
theorem dX9_put_12 : decode cX9_put 12 = .ok (.iconst (-1), 1) := by decide +kernel
theorem dX9_put_13 : decode cX9_put 13 = .ok (.ireturn, 1) := by decide +kernel
theorem dX9_put_14 : decode cX9_put 14 = .ok (.aload_n 0, 1) := by decide +kernel
theorem dX9_put_15 : decode cX9_put 15 = .ok (.getfield 9, 3) := by decide +kernel
theorem dX9_put_18 : decode cX9_put 18 = .ok (.iload_n 1, 1) := by decide +kernel
theorem dX9_put_19 : decode cX9_put 19 = .ok (.iaload, 1) := by decide +kernel
theorem dX9_put_20 : decode cX9_put 20 = .ok (.bipush (-9), 2) := by decide +kernel
theorem dX9_put_22 : decode cX9_put 22 = .ok (.if_icmp .ne 9, 3) := by decide +kernel
theorem dX9_put_25 : decode cX9_put 25 = .ok (.aload_n 0, 1) := by decide +kernel
theorem dX9_put_26 : decode cX9_put 26 = .ok (.iconst 1, 1) := by decide +kernel
theorem dX9_put_27 : decode cX9_put 27 = .ok (.invokevirtual 125, 3) := by decide +kernel
theorem dX9_put_30 : decode cX9_put 30 = .ok (.ireturn, 1) := by decide +kernel
theorem dX9_put_31 : decode cX9_put 31 = .ok (.iload_n 2, 1) := by decide +kernel
theorem dX9_put_32 : decode cX9_put 32 = .ok (.iconst 0, 1) := by decide +kernel
theorem dX9_put_33 : decode cX9_put 33 = .ok (.aload_n 0, 1) := by decide +kernel
theorem dX9_put_34 : decode cX9_put 34 = .ok (.getfield 13, 3) := by decide +kernel
theorem dX9_put_37 : decode cX9_put 37 = .ok (.iload_n 1, 1) := by decide +kernel
theorem dX9_put_38 : decode cX9_put 38 = .ok (.iaload, 1) := by decide +kernel
theorem dX9_put_39 : decode cX9_put 39 = .ok (.iconst 1, 1) := by decide +kernel
theorem dX9_put_40 : decode cX9_put 40 = .ok (.isub, 1) := by decide +kernel
theorem dX9_put_41 : decode cX9_put 41 = .ok (.invokestatic 101, 3) := by decide +kernel
theorem dX9_put_44 : decode cX9_put 44 = .ok (.ifCond .ne 9, 3) := by decide +kernel
theorem dX9_put_47 : decode cX9_put 47 = .ok (.aload_n 0, 1) := by decide +kernel
theorem dX9_put_48 : decode cX9_put 48 = .ok (.iconst 3, 1) := by decide +kernel
theorem dX9_put_49 : decode cX9_put 49 = .ok (.invokevirtual 125, 3) := by decide +kernel
theorem dX9_put_52 : decode cX9_put 52 = .ok (.ireturn, 1) := by decide +kernel
theorem dX9_put_53 : decode cX9_put 53 = .ok (.aload_n 0, 1) := by decide +kernel
theorem dX9_put_54 : decode cX9_put 54 = .ok (.getfield 16, 3) := by decide +kernel
theorem dX9_put_57 : decode cX9_put 57 = .ok (.bipush 50, 2) := by decide +kernel
theorem dX9_put_59 : decode cX9_put 59 = .ok (.iload_n 1, 1) := by decide +kernel
theorem dX9_put_60 : decode cX9_put 60 = .ok (.imul, 1) := by decide +kernel
theorem dX9_put_61 : decode cX9_put 61 = .ok (.iload_n 2, 1) := by decide +kernel
theorem dX9_put_62 : decode cX9_put 62 = .ok (.iadd, 1) := by decide +kernel
theorem dX9_put_63 : decode cX9_put 63 = .ok (.aload_n 0, 1) := by decide +kernel
theorem dX9_put_64 : decode cX9_put 64 = .ok (.getfield 9, 3) := by decide +kernel
theorem dX9_put_67 : decode cX9_put 67 = .ok (.iload_n 1, 1) := by decide +kernel
theorem dX9_put_68 : decode cX9_put 68 = .ok (.iaload, 1) := by decide +kernel
theorem dX9_put_69 : decode cX9_put 69 = .ok (.ifCond .ne 8, 3) := by decide +kernel
theorem dX9_put_72 : decode cX9_put 72 = .ok (.iload_n 3, 1) := by decide +kernel
theorem dX9_put_73 : decode cX9_put 73 = .ok (.i2b, 1) := by decide +kernel
theorem dX9_put_74 : decode cX9_put 74 = .ok (.goto 19, 3) := by decide +kernel
theorem dX9_put_77 : decode cX9_put 77 = .ok (.aload_n 0, 1) := by decide +kernel
theorem dX9_put_78 : decode cX9_put 78 = .ok (.getfield 9, 3) := by decide +kernel
theorem dX9_put_81 : decode cX9_put 81 = .ok (.iload_n 1, 1) := by decide +kernel
theorem dX9_put_82 : decode cX9_put 82 = .ok (.iaload, 1) := by decide +kernel
theorem dX9_put_83 : decode cX9_put 83 = .ok (.iconst 1, 1) := by decide +kernel
theorem dX9_put_84 : decode cX9_put 84 = .ok (.if_icmp .ne 8, 3) := by decide +kernel
theorem dX9_put_87 : decode cX9_put 87 = .ok (.iload_n 3, 1) := by decide +kernel
theorem dX9_put_88 : decode cX9_put 88 = .ok (.i2s, 1) := by decide +kernel
theorem dX9_put_89 : decode cX9_put 89 = .ok (.goto 4, 3) := by decide +kernel
theorem dX9_put_92 : decode cX9_put 92 = .ok (.iload_n 3, 1) := by decide +kernel
theorem dX9_put_93 : decode cX9_put 93 = .ok (.iastore, 1) := by decide +kernel
theorem dX9_put_94 : decode cX9_put 94 = .ok (.iconst 1, 1) := by decide +kernel
theorem dX9_put_95 : decode cX9_put 95 = .ok (.ireturn, 1) := by decide +kernel
theorem dX9_cell_0 : decode cX9_cell 0 = .ok (.aload_n 0, 1) := by decide +kernel
theorem dX9_cell_1 : decode cX9_cell 1 = .ok (.iconst 0, 1) := by decide +kernel
theorem dX9_cell_2 : decode cX9_cell 2 = .ok (.putfield 96, 3) := by decide +kernel
theorem dX9_cell_5 : decode cX9_cell 5 = .ok (.iload_n 1, 1) := by decide +kernel
theorem dX9_cell_6 : decode cX9_cell 6 = .ok (.invokestatic 114, 3) := by decide +kernel
theorem dX9_cell_9 : decode cX9_cell 9 = .ok (.ifCond .eq 10, 3) := by decide +kernel
theorem dX9_cell_12 : decode cX9_cell 12 = .ok (.iload_n 3, 1) := by decide +kernel
theorem dX9_cell_13 : decode cX9_cell 13 = .ok (.invokestatic 118, 3) := by decide +kernel
theorem dX9_cell_16 : decode cX9_cell 16 = .ok (.ifCond .ne 7, 3) := by decide +kernel
theorem dX9_cell_19 : decode cX9_cell 19 = .ok (.ldc2_w 99, 3) := by decide +kernel
theorem dX9_cell_22 : decode cX9_cell 22 = .ok (.lreturn, 1) := by decide +kernel
theorem dX9_cell_23 : decode cX9_cell 23 = .ok (.aload_n 0, 1) := by decide +kernel
theorem dX9_cell_24 : decode cX9_cell 24 = .ok (.getfield 9, 3) := by decide +kernel
theorem dX9_cell_27 : decode cX9_cell 27 = .ok (.iload_n 1, 1) := by decide +kernel
theorem dX9_cell_28 : decode cX9_cell 28 = .ok (.iaload, 1) := by decide +kernel
theorem dX9_cell_29 : decode cX9_cell 29 = .ok (.bipush (-9), 2) := by decide +kernel
theorem dX9_cell_31 : decode cX9_cell 31 = .ok (.if_icmp .eq 19, 3) := by decide +kernel
theorem dX9_cell_34 : decode cX9_cell 34 = .ok (.aload_n 0, 1) := by decide +kernel
theorem dX9_cell_35 : decode cX9_cell 35 = .ok (.getfield 9, 3) := by decide +kernel
theorem dX9_cell_38 : decode cX9_cell 38 = .ok (.iload_n 1, 1) := by decide +kernel
theorem dX9_cell_39 : decode cX9_cell 39 = .ok (.iaload, 1) := by decide +kernel
theorem dX9_cell_40 : decode cX9_cell 40 = .ok (.iload_n 3, 1) := by decide +kernel
theorem dX9_cell_41 : decode cX9_cell 41 = .ok (.if_icmp .eq 9, 3) := by decide +kernel
theorem dX9_cell_44 : decode cX9_cell 44 = .ok (.aload_n 0, 1) := by decide +kernel
theorem dX9_cell_45 : decode cX9_cell 45 = .ok (.iconst 2, 1) := by decide +kernel
theorem dX9_cell_46 : decode cX9_cell 46 = .ok (.invokevirtual 223, 3) := by decide +kernel
theorem dX9_cell_49 : decode cX9_cell 49 = .ok (.lreturn, 1) := by decide +kernel
theorem dX9_cell_50 : decode cX9_cell 50 = .ok (.aload_n 0, 1) := by decide +kernel
theorem dX9_cell_51 : decode cX9_cell 51 = .ok (.getfield 9, 3) := by decide +kernel
theorem dX9_cell_54 : decode cX9_cell 54 = .ok (.iload_n 1, 1) := by decide +kernel
theorem dX9_cell_55 : decode cX9_cell 55 = .ok (.iaload, 1) := by decide +kernel
theorem dX9_cell_56 : decode cX9_cell 56 = .ok (.bipush (-9), 2) := by decide +kernel
theorem dX9_cell_58 : decode cX9_cell 58 = .ok (.if_icmp .ne 9, 3) := by decide +kernel
theorem dX9_cell_61 : decode cX9_cell 61 = .ok (.aload_n 0, 1) := by decide +kernel
theorem dX9_cell_62 : decode cX9_cell 62 = .ok (.iconst 1, 1) := by decide +kernel
theorem dX9_cell_63 : decode cX9_cell 63 = .ok (.invokevirtual 223, 3) := by decide +kernel
theorem dX9_cell_66 : decode cX9_cell 66 = .ok (.lreturn, 1) := by decide +kernel
theorem dX9_cell_67 : decode cX9_cell 67 = .ok (.iload_n 2, 1) := by decide +kernel
theorem dX9_cell_68 : decode cX9_cell 68 = .ok (.iconst 0, 1) := by decide +kernel
theorem dX9_cell_69 : decode cX9_cell 69 = .ok (.aload_n 0, 1) := by decide +kernel
theorem dX9_cell_70 : decode cX9_cell 70 = .ok (.getfield 13, 3) := by decide +kernel
theorem dX9_cell_73 : decode cX9_cell 73 = .ok (.iload_n 1, 1) := by decide +kernel
theorem dX9_cell_74 : decode cX9_cell 74 = .ok (.iaload, 1) := by decide +kernel
theorem dX9_cell_75 : decode cX9_cell 75 = .ok (.iconst 1, 1) := by decide +kernel
theorem dX9_cell_76 : decode cX9_cell 76 = .ok (.isub, 1) := by decide +kernel
theorem dX9_cell_77 : decode cX9_cell 77 = .ok (.invokestatic 101, 3) := by decide +kernel
theorem dX9_cell_80 : decode cX9_cell 80 = .ok (.ifCond .ne 9, 3) := by decide +kernel
theorem dX9_cell_83 : decode cX9_cell 83 = .ok (.aload_n 0, 1) := by decide +kernel
theorem dX9_cell_84 : decode cX9_cell 84 = .ok (.iconst 3, 1) := by decide +kernel
theorem dX9_cell_85 : decode cX9_cell 85 = .ok (.invokevirtual 223, 3) := by decide +kernel
theorem dX9_cell_88 : decode cX9_cell 88 = .ok (.lreturn, 1) := by decide +kernel
theorem dX9_cell_89 : decode cX9_cell 89 = .ok (.aload_n 0, 1) := by decide +kernel
theorem dX9_cell_90 : decode cX9_cell 90 = .ok (.getfield 16, 3) := by decide +kernel
theorem dX9_cell_93 : decode cX9_cell 93 = .ok (.bipush 50, 2) := by decide +kernel
theorem dX9_cell_95 : decode cX9_cell 95 = .ok (.iload_n 1, 1) := by decide +kernel
theorem dX9_cell_96 : decode cX9_cell 96 = .ok (.imul, 1) := by decide +kernel
theorem dX9_cell_97 : decode cX9_cell 97 = .ok (.iload_n 2, 1) := by decide +kernel
theorem dX9_cell_98 : decode cX9_cell 98 = .ok (.iadd, 1) := by decide +kernel
theorem dX9_cell_99 : decode cX9_cell 99 = .ok (.iaload, 1) := by decide +kernel
theorem dX9_cell_100 : decode cX9_cell 100 = .ok (.i2l, 1) := by decide +kernel
theorem dX9_cell_101 : decode cX9_cell 101 = .ok (.lreturn, 1) := by decide +kernel
theorem dX9_copy_0 : decode cX9_copy 0 = .ok (.aload_n 0, 1) := by decide +kernel
theorem dX9_copy_1 : decode cX9_copy 1 = .ok (.iconst 0, 1) := by decide +kernel
theorem dX9_copy_2 : decode cX9_copy 2 = .ok (.putfield 96, 3) := by decide +kernel
theorem dX9_copy_5 : decode cX9_copy 5 = .ok (.iload_n 1, 1) := by decide +kernel
theorem dX9_copy_6 : decode cX9_copy 6 = .ok (.invokestatic 114, 3) := by decide +kernel
theorem dX9_copy_9 : decode cX9_copy 9 = .ok (.ifCond .eq 10, 3) := by decide +kernel
theorem dX9_copy_12 : decode cX9_copy 12 = .ok (.iload_n 3, 1) := by decide +kernel
theorem dX9_copy_13 : decode cX9_copy 13 = .ok (.invokestatic 114, 3) := by decide +kernel
theorem dX9_copy_16 : decode cX9_copy 16 = .ok (.ifCond .ne 5, 3) := by decide +kernel
theorem dX9_copy_19 : decode cX9_copy 19 = .ok (.iconst (-1), 1) := by decide +kernel
theorem dX9_copy_20 : decode cX9_copy 20 = .ok (.ireturn, 1) := by decide +kernel
theorem dX9_copy_21 : decode cX9_copy 21 = .ok (.aload_n 0, 1) := by decide +kernel
theorem dX9_copy_22 : decode cX9_copy 22 = .ok (.getfield 9, 3) := by decide +kernel
theorem dX9_copy_25 : decode cX9_copy 25 = .ok (.iload_n 1, 1) := by decide +kernel
theorem dX9_copy_26 : decode cX9_copy 26 = .ok (.iaload, 1) := by decide +kernel
theorem dX9_copy_27 : decode cX9_copy 27 = .ok (.bipush (-9), 2) := by decide +kernel
theorem dX9_copy_29 : decode cX9_copy 29 = .ok (.if_icmp .eq 14, 3) := by decide +kernel
theorem dX9_copy_32 : decode cX9_copy 32 = .ok (.aload_n 0, 1) := by decide +kernel
theorem dX9_copy_33 : decode cX9_copy 33 = .ok (.getfield 9, 3) := by decide +kernel
theorem dX9_copy_36 : decode cX9_copy 36 = .ok (.iload_n 3, 1) := by decide +kernel
theorem dX9_copy_37 : decode cX9_copy 37 = .ok (.iaload, 1) := by decide +kernel
theorem dX9_copy_38 : decode cX9_copy 38 = .ok (.bipush (-9), 2) := by decide +kernel
theorem dX9_copy_40 : decode cX9_copy 40 = .ok (.if_icmp .ne 9, 3) := by decide +kernel
theorem dX9_copy_43 : decode cX9_copy 43 = .ok (.aload_n 0, 1) := by decide +kernel
theorem dX9_copy_44 : decode cX9_copy 44 = .ok (.iconst 1, 1) := by decide +kernel
theorem dX9_copy_45 : decode cX9_copy 45 = .ok (.invokevirtual 125, 3) := by decide +kernel
theorem dX9_copy_48 : decode cX9_copy 48 = .ok (.ireturn, 1) := by decide +kernel
theorem dX9_copy_49 : decode cX9_copy 49 = .ok (.aload_n 0, 1) := by decide +kernel
theorem dX9_copy_50 : decode cX9_copy 50 = .ok (.getfield 9, 3) := by decide +kernel
theorem dX9_copy_53 : decode cX9_copy 53 = .ok (.iload_n 1, 1) := by decide +kernel
theorem dX9_copy_54 : decode cX9_copy 54 = .ok (.iaload, 1) := by decide +kernel
theorem dX9_copy_55 : decode cX9_copy 55 = .ok (.aload_n 0, 1) := by decide +kernel
theorem dX9_copy_56 : decode cX9_copy 56 = .ok (.getfield 9, 3) := by decide +kernel
theorem dX9_copy_59 : decode cX9_copy 59 = .ok (.iload_n 3, 1) := by decide +kernel
theorem dX9_copy_60 : decode cX9_copy 60 = .ok (.iaload, 1) := by decide +kernel
theorem dX9_copy_61 : decode cX9_copy 61 = .ok (.if_icmp .eq 9, 3) := by decide +kernel
theorem dX9_copy_64 : decode cX9_copy 64 = .ok (.aload_n 0, 1) := by decide +kernel
theorem dX9_copy_65 : decode cX9_copy 65 = .ok (.iconst 2, 1) := by decide +kernel
theorem dX9_copy_66 : decode cX9_copy 66 = .ok (.invokevirtual 125, 3) := by decide +kernel
theorem dX9_copy_69 : decode cX9_copy 69 = .ok (.ireturn, 1) := by decide +kernel
theorem dX9_copy_70 : decode cX9_copy 70 = .ok (.iload_n 2, 1) := by decide +kernel
theorem dX9_copy_71 : decode cX9_copy 71 = .ok (.ifCond .lt 38, 3) := by decide +kernel
theorem dX9_copy_74 : decode cX9_copy 74 = .ok (.iload 4, 2) := by decide +kernel
theorem dX9_copy_76 : decode cX9_copy 76 = .ok (.ifCond .lt 33, 3) := by decide +kernel
theorem dX9_copy_79 : decode cX9_copy 79 = .ok (.iload 5, 2) := by decide +kernel
theorem dX9_copy_81 : decode cX9_copy 81 = .ok (.ifCond .lt 28, 3) := by decide +kernel
theorem dX9_copy_84 : decode cX9_copy 84 = .ok (.iload_n 2, 1) := by decide +kernel
theorem dX9_copy_85 : decode cX9_copy 85 = .ok (.aload_n 0, 1) := by decide +kernel
theorem dX9_copy_86 : decode cX9_copy 86 = .ok (.getfield 13, 3) := by decide +kernel
theorem dX9_copy_89 : decode cX9_copy 89 = .ok (.iload_n 1, 1) := by decide +kernel
theorem dX9_copy_90 : decode cX9_copy 90 = .ok (.iaload, 1) := by decide +kernel
theorem dX9_copy_91 : decode cX9_copy 91 = .ok (.if_icmp .gt 18, 3) := by decide +kernel
theorem dX9_copy_94 : decode cX9_copy 94 = .ok (.iload 4, 2) := by decide +kernel
theorem dX9_copy_96 : decode cX9_copy 96 = .ok (.aload_n 0, 1) := by decide +kernel
theorem dX9_copy_97 : decode cX9_copy 97 = .ok (.getfield 13, 3) := by decide +kernel
theorem dX9_copy_100 : decode cX9_copy 100 = .ok (.iload_n 3, 1) := by decide +kernel
theorem dX9_copy_101 : decode cX9_copy 101 = .ok (.iaload, 1) := by decide +kernel
theorem dX9_copy_102 : decode cX9_copy 102 = .ok (.if_icmp .gt 7, 3) := by decide +kernel
theorem dX9_copy_105 : decode cX9_copy 105 = .ok (.iconst 1, 1) := by decide +kernel
theorem dX9_copy_106 : decode cX9_copy 106 = .ok (.goto 4, 3) := by decide +kernel
theorem dX9_copy_109 : decode cX9_copy 109 = .ok (.iconst 0, 1) := by decide +kernel
theorem dX9_copy_110 : decode cX9_copy 110 = .ok (.istore 6, 2) := by decide +kernel
theorem dX9_copy_112 : decode cX9_copy 112 = .ok (.iload 6, 2) := by decide +kernel
theorem dX9_copy_114 : decode cX9_copy 114 = .ok (.ifCond .eq 30, 3) := by decide +kernel
theorem dX9_copy_117 : decode cX9_copy 117 = .ok (.iload 5, 2) := by decide +kernel
theorem dX9_copy_119 : decode cX9_copy 119 = .ok (.aload_n 0, 1) := by decide +kernel
theorem dX9_copy_120 : decode cX9_copy 120 = .ok (.getfield 13, 3) := by decide +kernel
theorem dX9_copy_123 : decode cX9_copy 123 = .ok (.iload_n 1, 1) := by decide +kernel
theorem dX9_copy_124 : decode cX9_copy 124 = .ok (.iaload, 1) := by decide +kernel
theorem dX9_copy_125 : decode cX9_copy 125 = .ok (.iload_n 2, 1) := by decide +kernel
theorem dX9_copy_126 : decode cX9_copy 126 = .ok (.isub, 1) := by decide +kernel
theorem dX9_copy_127 : decode cX9_copy 127 = .ok (.if_icmp .gt 17, 3) := by decide +kernel
theorem dX9_copy_130 : decode cX9_copy 130 = .ok (.iload 5, 2) := by decide +kernel
theorem dX9_copy_132 : decode cX9_copy 132 = .ok (.aload_n 0, 1) := by decide +kernel
theorem dX9_copy_133 : decode cX9_copy 133 = .ok (.getfield 13, 3) := by decide +kernel
theorem dX9_copy_136 : decode cX9_copy 136 = .ok (.iload_n 3, 1) := by decide +kernel
theorem dX9_copy_137 : decode cX9_copy 137 = .ok (.iaload, 1) := by decide +kernel
theorem dX9_copy_138 : decode cX9_copy 138 = .ok (.iload 4, 2) := by decide +kernel
theorem dX9_copy_140 : decode cX9_copy 140 = .ok (.isub, 1) := by decide +kernel
theorem dX9_copy_141 : decode cX9_copy 141 = .ok (.if_icmp .le 9, 3) := by decide +kernel
theorem dX9_copy_144 : decode cX9_copy 144 = .ok (.aload_n 0, 1) := by decide +kernel
theorem dX9_copy_145 : decode cX9_copy 145 = .ok (.iconst 3, 1) := by decide +kernel
theorem dX9_copy_146 : decode cX9_copy 146 = .ok (.invokevirtual 125, 3) := by decide +kernel
theorem dX9_copy_149 : decode cX9_copy 149 = .ok (.ireturn, 1) := by decide +kernel
theorem dX9_copy_150 : decode cX9_copy 150 = .ok (.iload_n 2, 1) := by decide +kernel
theorem dX9_copy_151 : decode cX9_copy 151 = .ok (.iload 4, 2) := by decide +kernel
theorem dX9_copy_153 : decode cX9_copy 153 = .ok (.if_icmp .ge 7, 3) := by decide +kernel
theorem dX9_copy_156 : decode cX9_copy 156 = .ok (.iconst 1, 1) := by decide +kernel
theorem dX9_copy_157 : decode cX9_copy 157 = .ok (.goto 4, 3) := by decide +kernel
theorem dX9_copy_160 : decode cX9_copy 160 = .ok (.iconst 0, 1) := by decide +kernel
theorem dX9_copy_161 : decode cX9_copy 161 = .ok (.istore 7, 2) := by decide +kernel
theorem dX9_copy_163 : decode cX9_copy 163 = .ok (.iconst 0, 1) := by decide +kernel
theorem dX9_copy_164 : decode cX9_copy 164 = .ok (.istore 8, 2) := by decide +kernel
theorem dX9_copy_166 : decode cX9_copy 166 = .ok (.iload 8, 2) := by decide +kernel
theorem dX9_copy_168 : decode cX9_copy 168 = .ok (.iload 5, 2) := by decide +kernel
theorem dX9_copy_170 : decode cX9_copy 170 = .ok (.if_icmp .ge 57, 3) := by decide +kernel
theorem dX9_copy_173 : decode cX9_copy 173 = .ok (.iload 7, 2) := by decide +kernel
theorem dX9_copy_175 : decode cX9_copy 175 = .ok (.ifCond .eq 13, 3) := by decide +kernel
theorem dX9_copy_178 : decode cX9_copy 178 = .ok (.iload 5, 2) := by decide +kernel
theorem dX9_copy_180 : decode cX9_copy 180 = .ok (.iconst 1, 1) := by decide +kernel
theorem dX9_copy_181 : decode cX9_copy 181 = .ok (.isub, 1) := by decide +kernel
theorem dX9_copy_182 : decode cX9_copy 182 = .ok (.iload 8, 2) := by decide +kernel
theorem dX9_copy_184 : decode cX9_copy 184 = .ok (.isub, 1) := by decide +kernel
theorem dX9_copy_185 : decode cX9_copy 185 = .ok (.goto 5, 3) := by decide +kernel
theorem dX9_copy_188 : decode cX9_copy 188 = .ok (.iload 8, 2) := by decide +kernel
theorem dX9_copy_190 : decode cX9_copy 190 = .ok (.istore 9, 2) := by decide +kernel
theorem dX9_copy_192 : decode cX9_copy 192 = .ok (.aload_n 0, 1) := by decide +kernel
theorem dX9_copy_193 : decode cX9_copy 193 = .ok (.getfield 16, 3) := by decide +kernel
theorem dX9_copy_196 : decode cX9_copy 196 = .ok (.bipush 50, 2) := by decide +kernel
theorem dX9_copy_198 : decode cX9_copy 198 = .ok (.iload_n 3, 1) := by decide +kernel
theorem dX9_copy_199 : decode cX9_copy 199 = .ok (.imul, 1) := by decide +kernel
theorem dX9_copy_200 : decode cX9_copy 200 = .ok (.iload 4, 2) := by decide +kernel
theorem dX9_copy_202 : decode cX9_copy 202 = .ok (.iadd, 1) := by decide +kernel
theorem dX9_copy_203 : decode cX9_copy 203 = .ok (.iload 9, 2) := by decide +kernel
theorem dX9_copy_205 : decode cX9_copy 205 = .ok (.iadd, 1) := by decide +kernel
theorem dX9_copy_206 : decode cX9_copy 206 = .ok (.aload_n 0, 1) := by decide +kernel
theorem dX9_copy_207 : decode cX9_copy 207 = .ok (.getfield 16, 3) := by decide +kernel
theorem dX9_copy_210 : decode cX9_copy 210 = .ok (.bipush 50, 2) := by decide +kernel
theorem dX9_copy_212 : decode cX9_copy 212 = .ok (.iload_n 1, 1) := by decide +kernel
theorem dX9_copy_213 : decode cX9_copy 213 = .ok (.imul, 1) := by decide +kernel
theorem dX9_copy_214 : decode cX9_copy 214 = .ok (.iload_n 2, 1) := by decide +kernel
theorem dX9_copy_215 : decode cX9_copy 215 = .ok (.iadd, 1) := by decide +kernel
theorem dX9_copy_216 : decode cX9_copy 216 = .ok (.iload 9, 2) := by decide +kernel
theorem dX9_copy_218 : decode cX9_copy 218 = .ok (.iadd, 1) := by decide +kernel
theorem dX9_copy_219 : decode cX9_copy 219 = .ok (.iaload, 1) := by decide +kernel
theorem dX9_copy_220 : decode cX9_copy 220 = .ok (.iastore, 1) := by decide +kernel
theorem dX9_copy_221 : decode cX9_copy 221 = .ok (.iinc 8 1, 3) := by decide +kernel
theorem dX9_copy_224 : decode cX9_copy 224 = .ok (.goto (-58), 3) := by decide +kernel
theorem dX9_copy_227 : decode cX9_copy 227 = .ok (.iload 5, 2) := by decide +kernel
theorem dX9_copy_229 : decode cX9_copy 229 = .ok (.ireturn, 1) := by decide +kernel
theorem dX9_begins_0 : decode cX9_begins 0 = .ok (.aload_n 0, 1) := by decide +kernel
theorem dX9_begins_1 : decode cX9_begins 1 = .ok (.bipush 31, 2) := by decide +kernel
theorem dX9_begins_3 : decode cX9_begins 3 = .ok (.aload_n 0, 1) := by decide +kernel
theorem dX9_begins_4 : decode cX9_begins 4 = .ok (.getfield 227, 3) := by decide +kernel
theorem dX9_begins_7 : decode cX9_begins 7 = .ok (.imul, 1) := by decide +kernel
theorem dX9_begins_8 : decode cX9_begins 8 = .ok (.iload_n 1, 1) := by decide +kernel
theorem dX9_begins_9 : decode cX9_begins 9 = .ok (.iadd, 1) := by decide +kernel
theorem dX9_begins_10 : decode cX9_begins 10 = .ok (.putfield 227, 3) := by decide +kernel
theorem dX9_begins_13 : decode cX9_begins 13 = .ok (.return_, 1) := by decide +kernel
theorem dX9_tell_0 : decode cX9_tell 0 = .ok (.aload_n 0, 1) := by decide +kernel
theorem dX9_tell_1 : decode cX9_tell 1 = .ok (.iload_n 1, 1) := by decide +kernel
theorem dX9_tell_2 : decode cX9_tell 2 = .ok (.invokevirtual 153, 3) := by decide +kernel
theorem dX9_tell_5 : decode cX9_tell 5 = .ok (.ifCond .ne 5, 3) := by decide +kernel
theorem dX9_tell_8 : decode cX9_tell 8 = .ok (.iconst (-1), 1) := by decide +kernel
theorem dX9_tell_9 : decode cX9_tell 9 = .ok (.ireturn, 1) := by decide +kernel
theorem dX9_tell_10 : decode cX9_tell 10 = .ok (.aload_n 0, 1) := by decide +kernel
theorem dX9_tell_11 : decode cX9_tell 11 = .ok (.getfield 25, 3) := by decide +kernel
theorem dX9_tell_14 : decode cX9_tell 14 = .ok (.iload_n 1, 1) := by decide +kernel
theorem dX9_tell_15 : decode cX9_tell 15 = .ok (.iaload, 1) := by decide +kernel
theorem dX9_tell_16 : decode cX9_tell 16 = .ok (.istore_n 2, 1) := by decide +kernel
theorem dX9_tell_17 : decode cX9_tell 17 = .ok (.aload_n 0, 1) := by decide +kernel
theorem dX9_tell_18 : decode cX9_tell 18 = .ok (.getfield 19, 3) := by decide +kernel
theorem dX9_tell_21 : decode cX9_tell 21 = .ok (.iload_n 1, 1) := by decide +kernel
theorem dX9_tell_22 : decode cX9_tell 22 = .ok (.iaload, 1) := by decide +kernel
theorem dX9_tell_23 : decode cX9_tell 23 = .ok (.lookupswitch 67 #[(1, 25), (2, 40)], 25) := by decide +kernel
theorem dX9_tell_48 : decode cX9_tell 48 = .ok (.aload_n 0, 1) := by decide +kernel
theorem dX9_tell_49 : decode cX9_tell 49 = .ok (.iconst 2, 1) := by decide +kernel
theorem dX9_tell_50 : decode cX9_tell 50 = .ok (.invokevirtual 230, 3) := by decide +kernel
theorem dX9_tell_53 : decode cX9_tell 53 = .ok (.aload_n 0, 1) := by decide +kernel
theorem dX9_tell_54 : decode cX9_tell 54 = .ok (.iconst 1, 1) := by decide +kernel
theorem dX9_tell_55 : decode cX9_tell 55 = .ok (.invokevirtual 230, 3) := by decide +kernel
theorem dX9_tell_58 : decode cX9_tell 58 = .ok (.iload_n 2, 1) := by decide +kernel
theorem dX9_tell_59 : decode cX9_tell 59 = .ok (.bipush 100, 2) := by decide +kernel
theorem dX9_tell_61 : decode cX9_tell 61 = .ok (.iadd, 1) := by decide +kernel
theorem dX9_tell_62 : decode cX9_tell 62 = .ok (.ireturn, 1) := by decide +kernel
theorem dX9_tell_63 : decode cX9_tell 63 = .ok (.aload_n 0, 1) := by decide +kernel
theorem dX9_tell_64 : decode cX9_tell 64 = .ok (.iconst 3, 1) := by decide +kernel
theorem dX9_tell_65 : decode cX9_tell 65 = .ok (.invokevirtual 230, 3) := by decide +kernel
theorem dX9_tell_68 : decode cX9_tell 68 = .ok (.aload_n 0, 1) := by decide +kernel
theorem dX9_tell_69 : decode cX9_tell 69 = .ok (.iconst 2, 1) := by decide +kernel
theorem dX9_tell_70 : decode cX9_tell 70 = .ok (.invokevirtual 230, 3) := by decide +kernel
theorem dX9_tell_73 : decode cX9_tell 73 = .ok (.aload_n 0, 1) := by decide +kernel
theorem dX9_tell_74 : decode cX9_tell 74 = .ok (.iconst 1, 1) := by decide +kernel
theorem dX9_tell_75 : decode cX9_tell 75 = .ok (.invokevirtual 230, 3) := by decide +kernel
theorem dX9_tell_78 : decode cX9_tell 78 = .ok (.aload_n 0, 1) := by decide +kernel
theorem dX9_tell_79 : decode cX9_tell 79 = .ok (.iconst 1, 1) := by decide +kernel
theorem dX9_tell_80 : decode cX9_tell 80 = .ok (.invokevirtual 230, 3) := by decide +kernel
theorem dX9_tell_83 : decode cX9_tell 83 = .ok (.iconst 2, 1) := by decide +kernel
theorem dX9_tell_84 : decode cX9_tell 84 = .ok (.iload_n 2, 1) := by decide +kernel
theorem dX9_tell_85 : decode cX9_tell 85 = .ok (.imul, 1) := by decide +kernel
theorem dX9_tell_86 : decode cX9_tell 86 = .ok (.bipush 100, 2) := by decide +kernel
theorem dX9_tell_88 : decode cX9_tell 88 = .ok (.iadd, 1) := by decide +kernel
theorem dX9_tell_89 : decode cX9_tell 89 = .ok (.ireturn, 1) := by decide +kernel
theorem dX9_tell_90 : decode cX9_tell 90 = .ok (.aload_n 0, 1) := by decide +kernel
theorem dX9_tell_91 : decode cX9_tell 91 = .ok (.iconst 1, 1) := by decide +kernel
theorem dX9_tell_92 : decode cX9_tell 92 = .ok (.invokevirtual 230, 3) := by decide +kernel
theorem dX9_tell_95 : decode cX9_tell 95 = .ok (.iload_n 2, 1) := by decide +kernel
theorem dX9_tell_96 : decode cX9_tell 96 = .ok (.ireturn, 1) := by decide +kernel
theorem dX9_shake_0 : decode cX9_shake 0 = .ok (.aload_n 0, 1) := by decide +kernel
theorem dX9_shake_1 : decode cX9_shake 1 = .ok (.iload_n 1, 1) := by decide +kernel
theorem dX9_shake_2 : decode cX9_shake 2 = .ok (.invokevirtual 153, 3) := by decide +kernel
theorem dX9_shake_5 : decode cX9_shake 5 = .ok (.ifCond .ne 5, 3) := by decide +kernel
theorem dX9_shake_8 : decode cX9_shake 8 = .ok (.iconst (-1), 1) := by decide +kernel
theorem dX9_shake_9 : decode cX9_shake 9 = .ok (.ireturn, 1) := by decide +kernel
theorem dX9_shake_10 : decode cX9_shake 10 = .ok (.aload_n 0, 1) := by decide +kernel
theorem dX9_shake_11 : decode cX9_shake 11 = .ok (.aload_n 0, 1) := by decide +kernel
theorem dX9_shake_12 : decode cX9_shake 12 = .ok (.getfield 19, 3) := by decide +kernel
theorem dX9_shake_15 : decode cX9_shake 15 = .ok (.iload_n 1, 1) := by decide +kernel
theorem dX9_shake_16 : decode cX9_shake 16 = .ok (.iaload, 1) := by decide +kernel
theorem dX9_shake_17 : decode cX9_shake 17 = .ok (.iconst 2, 1) := by decide +kernel
theorem dX9_shake_18 : decode cX9_shake 18 = .ok (.if_icmp .ne 7, 3) := by decide +kernel
theorem dX9_shake_21 : decode cX9_shake 21 = .ok (.iconst 5, 1) := by decide +kernel
theorem dX9_shake_22 : decode cX9_shake 22 = .ok (.goto 4, 3) := by decide +kernel
theorem dX9_shake_25 : decode cX9_shake 25 = .ok (.iconst 4, 1) := by decide +kernel
theorem dX9_shake_26 : decode cX9_shake 26 = .ok (.invokevirtual 230, 3) := by decide +kernel
theorem dX9_shake_29 : decode cX9_shake 29 = .ok (.aload_n 0, 1) := by decide +kernel
theorem dX9_shake_30 : decode cX9_shake 30 = .ok (.getfield 19, 3) := by decide +kernel
theorem dX9_shake_33 : decode cX9_shake 33 = .ok (.iload_n 1, 1) := by decide +kernel
theorem dX9_shake_34 : decode cX9_shake 34 = .ok (.iaload, 1) := by decide +kernel
theorem dX9_shake_35 : decode cX9_shake 35 = .ok (.iconst 2, 1) := by decide +kernel
theorem dX9_shake_36 : decode cX9_shake 36 = .ok (.if_icmp .ne 8, 3) := by decide +kernel
theorem dX9_shake_39 : decode cX9_shake 39 = .ok (.bipush 60, 2) := by decide +kernel
theorem dX9_shake_41 : decode cX9_shake 41 = .ok (.goto 4, 3) := by decide +kernel
theorem dX9_shake_44 : decode cX9_shake 44 = .ok (.iload_n 1, 1) := by decide +kernel
theorem dX9_shake_45 : decode cX9_shake 45 = .ok (.ireturn, 1) := by decide +kernel
theorem dX9_as_0 : decode cX9_as 0 = .ok (.aload_n 0, 1) := by decide +kernel
theorem dX9_as_1 : decode cX9_as 1 = .ok (.iconst 0, 1) := by decide +kernel
theorem dX9_as_2 : decode cX9_as 2 = .ok (.putfield 96, 3) := by decide +kernel
theorem dX9_as_5 : decode cX9_as 5 = .ok (.aload_n 0, 1) := by decide +kernel
theorem dX9_as_6 : decode cX9_as 6 = .ok (.iload_n 1, 1) := by decide +kernel
theorem dX9_as_7 : decode cX9_as 7 = .ok (.invokevirtual 153, 3) := by decide +kernel
theorem dX9_as_10 : decode cX9_as 10 = .ok (.ifCond .ne 5, 3) := by decide +kernel
theorem dX9_as_13 : decode cX9_as 13 = .ok (.iconst (-1), 1) := by decide +kernel
theorem dX9_as_14 : decode cX9_as 14 = .ok (.ireturn, 1) := by decide +kernel
theorem dX9_as_15 : decode cX9_as 15 = .ok (.iload_n 2, 1) := by decide +kernel
theorem dX9_as_16 : decode cX9_as 16 = .ok (.iconst 0, 1) := by decide +kernel
theorem dX9_as_17 : decode cX9_as 17 = .ok (.iconst 2, 1) := by decide +kernel
theorem dX9_as_18 : decode cX9_as 18 = .ok (.invokestatic 101, 3) := by decide +kernel
theorem dX9_as_21 : decode cX9_as 21 = .ok (.ifCond .ne 6, 3) := by decide +kernel
theorem dX9_as_24 : decode cX9_as 24 = .ok (.bipush (-2), 2) := by decide +kernel
theorem dX9_as_26 : decode cX9_as 26 = .ok (.ireturn, 1) := by decide +kernel
theorem dX9_as_27 : decode cX9_as 27 = .ok (.aload_n 0, 1) := by decide +kernel
theorem dX9_as_28 : decode cX9_as 28 = .ok (.getfield 19, 3) := by decide +kernel
theorem dX9_as_31 : decode cX9_as 31 = .ok (.iload_n 1, 1) := by decide +kernel
theorem dX9_as_32 : decode cX9_as 32 = .ok (.iaload, 1) := by decide +kernel
theorem dX9_as_33 : decode cX9_as 33 = .ok (.iload_n 2, 1) := by decide +kernel
theorem dX9_as_34 : decode cX9_as 34 = .ok (.if_icmp .lt 7, 3) := by decide +kernel
theorem dX9_as_37 : decode cX9_as 37 = .ok (.iconst 1, 1) := by decide +kernel
theorem dX9_as_38 : decode cX9_as 38 = .ok (.goto 8, 3) := by decide +kernel
theorem dX9_as_41 : decode cX9_as 41 = .ok (.aload_n 0, 1) := by decide +kernel
theorem dX9_as_42 : decode cX9_as 42 = .ok (.iconst 2, 1) := by decide +kernel
theorem dX9_as_43 : decode cX9_as 43 = .ok (.invokevirtual 125, 3) := by decide +kernel
theorem dX9_as_46 : decode cX9_as 46 = .ok (.ireturn, 1) := by decide +kernel
theorem dX9_trace_0 : decode cX9_trace 0 = .ok (.aload_n 0, 1) := by decide +kernel
theorem dX9_trace_1 : decode cX9_trace 1 = .ok (.getfield 227, 3) := by decide +kernel
theorem dX9_trace_4 : decode cX9_trace 4 = .ok (.ireturn, 1) := by decide +kernel
theorem dX9_fault_0 : decode cX9_fault 0 = .ok (.aload_n 0, 1) := by decide +kernel
theorem dX9_fault_1 : decode cX9_fault 1 = .ok (.getfield 96, 3) := by decide +kernel
theorem dX9_fault_4 : decode cX9_fault 4 = .ok (.ireturn, 1) := by decide +kernel
theorem dX9_many_0 : decode cX9_many 0 = .ok (.iload_n 1, 1) := by decide +kernel
theorem dX9_many_1 : decode cX9_many 1 = .ok (.ifCond .ne 10, 3) := by decide +kernel
theorem dX9_many_4 : decode cX9_many 4 = .ok (.aload_n 0, 1) := by decide +kernel
theorem dX9_many_5 : decode cX9_many 5 = .ok (.getfield 105, 3) := by decide +kernel
theorem dX9_many_8 : decode cX9_many 8 = .ok (.goto 41, 3) := by decide +kernel
theorem dX9_many_11 : decode cX9_many 11 = .ok (.iload_n 1, 1) := by decide +kernel
theorem dX9_many_12 : decode cX9_many 12 = .ok (.iconst 1, 1) := by decide +kernel
theorem dX9_many_13 : decode cX9_many 13 = .ok (.if_icmp .ne 10, 3) := by decide +kernel
theorem dX9_many_16 : decode cX9_many 16 = .ok (.aload_n 0, 1) := by decide +kernel
theorem dX9_many_17 : decode cX9_many 17 = .ok (.getfield 108, 3) := by decide +kernel
theorem dX9_many_20 : decode cX9_many 20 = .ok (.goto 29, 3) := by decide +kernel
theorem dX9_many_23 : decode cX9_many 23 = .ok (.iload_n 1, 1) := by decide +kernel
theorem dX9_many_24 : decode cX9_many 24 = .ok (.iconst 2, 1) := by decide +kernel
theorem dX9_many_25 : decode cX9_many 25 = .ok (.if_icmp .ne 10, 3) := by decide +kernel
theorem dX9_many_28 : decode cX9_many 28 = .ok (.aload_n 0, 1) := by decide +kernel
theorem dX9_many_29 : decode cX9_many 29 = .ok (.getfield 138, 3) := by decide +kernel
theorem dX9_many_32 : decode cX9_many 32 = .ok (.goto 17, 3) := by decide +kernel
theorem dX9_many_35 : decode cX9_many 35 = .ok (.iload_n 1, 1) := by decide +kernel
theorem dX9_many_36 : decode cX9_many 36 = .ok (.iconst 3, 1) := by decide +kernel
theorem dX9_many_37 : decode cX9_many 37 = .ok (.if_icmp .ne 10, 3) := by decide +kernel
theorem dX9_many_40 : decode cX9_many 40 = .ok (.aload_n 0, 1) := by decide +kernel
theorem dX9_many_41 : decode cX9_many 41 = .ok (.getfield 141, 3) := by decide +kernel
theorem dX9_many_44 : decode cX9_many 44 = .ok (.goto 5, 3) := by decide +kernel
theorem dX9_many_47 : decode cX9_many 47 = .ok (.bipush (-2), 2) := by decide +kernel
theorem dX9_many_49 : decode cX9_many 49 = .ok (.ireturn, 1) := by decide +kernel
