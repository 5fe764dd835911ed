theorem dX10_within_0 : decode cX10_within 0 = .ok (.lload_n 0, 1) := by decide +kernel
theorem dX10_within_1 : decode cX10_within 1 = .ok (.lload_n 2, 1) := by decide +kernel
theorem dX10_within_2 : decode cX10_within 2 = .ok (.lcmp, 1) := by decide +kernel
theorem dX10_within_3 : decode cX10_within 3 = .ok (.ifCond .lt 14, 3) := by decide +kernel
theorem dX10_within_6 : decode cX10_within 6 = .ok (.lload_n 0, 1) := by decide +kernel
theorem dX10_within_7 : decode cX10_within 7 = .ok (.lload 4, 2) := by decide +kernel
theorem dX10_within_9 : decode cX10_within 9 = .ok (.lcmp, 1) := by decide +kernel
theorem dX10_within_10 : decode cX10_within 10 = .ok (.ifCond .gt 7, 3) := by decide +kernel
theorem dX10_within_13 : decode cX10_within 13 = .ok (.iconst 1, 1) := by decide +kernel
theorem dX10_within_14 : decode cX10_within 14 = .ok (.goto 4, 3) := by decide +kernel
theorem dX10_within_17 : decode cX10_within 17 = .ok (.iconst 0, 1) := by decide +kernel
theorem dX10_within_18 : decode cX10_within 18 = .ok (.ireturn, 1) := by decide +kernel
theorem dX10_isIn_0 : decode cX10_isIn 0 = .ok (.iload_n 0, 1) := by decide +kernel
theorem dX10_isIn_1 : decode cX10_isIn 1 = .ok (.iload_n 1, 1) := by decide +kernel
theorem dX10_isIn_2 : decode cX10_isIn 2 = .ok (.ishr, 1) := by decide +kernel
theorem dX10_isIn_3 : decode cX10_isIn 3 = .ok (.iconst 1, 1) := by decide +kernel
theorem dX10_isIn_4 : decode cX10_isIn 4 = .ok (.iand, 1) := by decide +kernel
theorem dX10_isIn_5 : decode cX10_isIn 5 = .ok (.iconst 1, 1) := by decide +kernel
theorem dX10_isIn_6 : decode cX10_isIn 6 = .ok (.if_icmp .ne 7, 3) := by decide +kernel
theorem dX10_isIn_9 : decode cX10_isIn 9 = .ok (.iconst 1, 1) := by decide +kernel
theorem dX10_isIn_10 : decode cX10_isIn 10 = .ok (.goto 4, 3) := by decide +kernel
theorem dX10_isIn_13 : decode cX10_isIn 13 = .ok (.iconst 0, 1) := by decide +kernel
theorem dX10_isIn_14 : decode cX10_isIn 14 = .ok (.ireturn, 1) := by decide +kernel
theorem dX10_init_0 : decode cX10_init 0 = .ok (.aload_n 0, 1) := by decide +kernel
theorem dX10_init_1 : decode cX10_init 1 = .ok (.invokespecial 3, 3) := by decide +kernel
theorem dX10_init_4 : decode cX10_init 4 = .ok (.aload_n 0, 1) := by decide +kernel
theorem dX10_init_5 : decode cX10_init 5 = .ok (.bipush 28, 2) := by decide +kernel
theorem dX10_init_7 : decode cX10_init 7 = .ok (.newarray .int, 2) := by decide +kernel
theorem dX10_init_9 : decode cX10_init 9 = .ok (.putfield 9, 3) := by decide +kernel
theorem dX10_init_12 : decode cX10_init 12 = .ok (.aload_n 0, 1) := by decide +kernel
theorem dX10_init_13 : decode cX10_init 13 = .ok (.bipush 40, 2) := by decide +kernel
theorem dX10_init_15 : decode cX10_init 15 = .ok (.newarray .int, 2) := by decide +kernel
theorem dX10_init_17 : decode cX10_init 17 = .ok (.putfield 13, 3) := by decide +kernel
theorem dX10_init_20 : decode cX10_init 20 = .ok (.aload_n 0, 1) := by decide +kernel
theorem dX10_init_21 : decode cX10_init 21 = .ok (.bipush 40, 2) := by decide +kernel
theorem dX10_init_23 : decode cX10_init 23 = .ok (.newarray .int, 2) := by decide +kernel
theorem dX10_init_25 : decode cX10_init 25 = .ok (.putfield 16, 3) := by decide +kernel
theorem dX10_init_28 : decode cX10_init 28 = .ok (.aload_n 0, 1) := by decide +kernel
theorem dX10_init_29 : decode cX10_init 29 = .ok (.bipush 40, 2) := by decide +kernel
theorem dX10_init_31 : decode cX10_init 31 = .ok (.newarray .int, 2) := by decide +kernel
theorem dX10_init_33 : decode cX10_init 33 = .ok (.putfield 19, 3) := by decide +kernel
theorem dX10_init_36 : decode cX10_init 36 = .ok (.aload_n 0, 1) := by decide +kernel
theorem dX10_init_37 : decode cX10_init 37 = .ok (.iconst 3, 1) := by decide +kernel
theorem dX10_init_38 : decode cX10_init 38 = .ok (.newarray .int, 2) := by decide +kernel
theorem dX10_init_40 : decode cX10_init 40 = .ok (.putfield 22, 3) := by decide +kernel
theorem dX10_init_43 : decode cX10_init 43 = .ok (.aload_n 0, 1) := by decide +kernel
theorem dX10_init_44 : decode cX10_init 44 = .ok (.bipush 120, 2) := by decide +kernel
theorem dX10_init_46 : decode cX10_init 46 = .ok (.newarray .int, 2) := by decide +kernel
theorem dX10_init_48 : decode cX10_init 48 = .ok (.putfield 25, 3) := by decide +kernel
theorem dX10_init_51 : decode cX10_init 51 = .ok (.aload_n 0, 1) := by decide +kernel
theorem dX10_init_52 : decode cX10_init 52 = .ok (.bipush 120, 2) := by decide +kernel
theorem dX10_init_54 : decode cX10_init 54 = .ok (.newarray .int, 2) := by decide +kernel
theorem dX10_init_56 : decode cX10_init 56 = .ok (.putfield 28, 3) := by decide +kernel
theorem dX10_init_59 : decode cX10_init 59 = .ok (.aload_n 0, 1) := by decide +kernel
theorem dX10_init_60 : decode cX10_init 60 = .ok (.bipush 6, 2) := by decide +kernel
theorem dX10_init_62 : decode cX10_init 62 = .ok (.newarray .int, 2) := by decide +kernel
theorem dX10_init_64 : decode cX10_init 64 = .ok (.putfield 31, 3) := by decide +kernel
theorem dX10_init_67 : decode cX10_init 67 = .ok (.aload_n 0, 1) := by decide +kernel
theorem dX10_init_68 : decode cX10_init 68 = .ok (.iconst 3, 1) := by decide +kernel
theorem dX10_init_69 : decode cX10_init 69 = .ok (.newarray .int, 2) := by decide +kernel
theorem dX10_init_71 : decode cX10_init 71 = .ok (.putfield 34, 3) := by decide +kernel
theorem dX10_init_74 : decode cX10_init 74 = .ok (.aload_n 0, 1) := by decide +kernel
theorem dX10_init_75 : decode cX10_init 75 = .ok (.iconst 3, 1) := by decide +kernel
theorem dX10_init_76 : decode cX10_init 76 = .ok (.newarray .int, 2) := by decide +kernel
theorem dX10_init_78 : decode cX10_init 78 = .ok (.putfield 37, 3) := by decide +kernel
theorem dX10_init_81 : decode cX10_init 81 = .ok (.aload_n 0, 1) := by decide +kernel
theorem dX10_init_82 : decode cX10_init 82 = .ok (.iconst 3, 1) := by decide +kernel
theorem dX10_init_83 : decode cX10_init 83 = .ok (.newarray .int, 2) := by decide +kernel
theorem dX10_init_85 : decode cX10_init 85 = .ok (.putfield 40, 3) := by decide +kernel
theorem dX10_init_88 : decode cX10_init 88 = .ok (.aload_n 0, 1) := by decide +kernel
theorem dX10_init_89 : decode cX10_init 89 = .ok (.iconst 3, 1) := by decide +kernel
theorem dX10_init_90 : decode cX10_init 90 = .ok (.newarray .int, 2) := by decide +kernel
theorem dX10_init_92 : decode cX10_init 92 = .ok (.putfield 43, 3) := by decide +kernel
theorem dX10_init_95 : decode cX10_init 95 = .ok (.aload_n 0, 1) := by decide +kernel
theorem dX10_init_96 : decode cX10_init 96 = .ok (.sipush 1000, 3) := by decide +kernel
theorem dX10_init_99 : decode cX10_init 99 = .ok (.newarray .int, 2) := by decide +kernel
theorem dX10_init_101 : decode cX10_init 101 = .ok (.putfield 46, 3) := by decide +kernel
theorem dX10_init_104 : decode cX10_init 104 = .ok (.aload_n 0, 1) := by decide +kernel
theorem dX10_init_105 : decode cX10_init 105 = .ok (.sipush 1000, 3) := by decide +kernel
theorem dX10_init_108 : decode cX10_init 108 = .ok (.newarray .int, 2) := by decide +kernel
theorem dX10_init_110 : decode cX10_init 110 = .ok (.putfield 49, 3) := by decide +kernel
theorem dX10_init_113 : decode cX10_init 113 = .ok (.aload_n 0, 1) := by decide +kernel
theorem dX10_init_114 : decode cX10_init 114 = .ok (.sipush 441, 3) := by decide +kernel
theorem dX10_init_117 : decode cX10_init 117 = .ok (.newarray .int, 2) := by decide +kernel
theorem dX10_init_119 : decode cX10_init 119 = .ok (.putfield 52, 3) := by decide +kernel
theorem dX10_init_122 : decode cX10_init 122 = .ok (.aload_n 0, 1) := by decide +kernel
theorem dX10_init_123 : decode cX10_init 123 = .ok (.sipush 441, 3) := by decide +kernel
theorem dX10_init_126 : decode cX10_init 126 = .ok (.newarray .int, 2) := by decide +kernel
theorem dX10_init_128 : decode cX10_init 128 = .ok (.putfield 55, 3) := by decide +kernel
theorem dX10_init_131 : decode cX10_init 131 = .ok (.aload_n 0, 1) := by decide +kernel
theorem dX10_init_132 : decode cX10_init 132 = .ok (.iconst 3, 1) := by decide +kernel
theorem dX10_init_133 : decode cX10_init 133 = .ok (.newarray .int, 2) := by decide +kernel
theorem dX10_init_135 : decode cX10_init 135 = .ok (.putfield 58, 3) := by decide +kernel
theorem dX10_init_138 : decode cX10_init 138 = .ok (.aload_n 0, 1) := by decide +kernel
theorem dX10_init_139 : decode cX10_init 139 = .ok (.iconst 3, 1) := by decide +kernel
theorem dX10_init_140 : decode cX10_init 140 = .ok (.newarray .int, 2) := by decide +kernel
theorem dX10_init_142 : decode cX10_init 142 = .ok (.putfield 61, 3) := by decide +kernel
theorem dX10_init_145 : decode cX10_init 145 = .ok (.aload_n 0, 1) := by decide +kernel
theorem dX10_init_146 : decode cX10_init 146 = .ok (.iconst 3, 1) := by decide +kernel
theorem dX10_init_147 : decode cX10_init 147 = .ok (.newarray .int, 2) := by decide +kernel
theorem dX10_init_149 : decode cX10_init 149 = .ok (.putfield 64, 3) := by decide +kernel
theorem dX10_init_152 : decode cX10_init 152 = .ok (.aload_n 0, 1) := by decide +kernel
theorem dX10_init_153 : decode cX10_init 153 = .ok (.bipush 17, 2) := by decide +kernel
theorem dX10_init_155 : decode cX10_init 155 = .ok (.newarray .int, 2) := by decide +kernel
theorem dX10_init_157 : decode cX10_init 157 = .ok (.putfield 67, 3) := by decide +kernel
theorem dX10_init_160 : decode cX10_init 160 = .ok (.aload_n 0, 1) := by decide +kernel
theorem dX10_init_161 : decode cX10_init 161 = .ok (.bipush 50, 2) := by decide +kernel
theorem dX10_init_163 : decode cX10_init 163 = .ok (.newarray .int, 2) := by decide +kernel
theorem dX10_init_165 : decode cX10_init 165 = .ok (.putfield 70, 3) := by decide +kernel
theorem dX10_init_168 : decode cX10_init 168 = .ok (.aload_n 0, 1) := by decide +kernel
theorem dX10_init_169 : decode cX10_init 169 = .ok (.bipush 24, 2) := by decide +kernel
theorem dX10_init_171 : decode cX10_init 171 = .ok (.newarray .int, 2) := by decide +kernel
theorem dX10_init_173 : decode cX10_init 173 = .ok (.putfield 73, 3) := by decide +kernel
theorem dX10_init_176 : decode cX10_init 176 = .ok (.aload_n 0, 1) := by decide +kernel
theorem dX10_init_177 : decode cX10_init 177 = .ok (.bipush 6, 2) := by decide +kernel
theorem dX10_init_179 : decode cX10_init 179 = .ok (.newarray .int, 2) := by decide +kernel
theorem dX10_init_181 : decode cX10_init 181 = .ok (.putfield 76, 3) := by decide +kernel
theorem dX10_init_184 : decode cX10_init 184 = .ok (.aload_n 0, 1) := by decide +kernel
theorem dX10_init_185 : decode cX10_init 185 = .ok (.bipush 6, 2) := by decide +kernel
theorem dX10_init_187 : decode cX10_init 187 = .ok (.newarray .int, 2) := by decide +kernel
theorem dX10_init_189 : decode cX10_init 189 = .ok (.putfield 79, 3) := by decide +kernel
theorem dX10_init_192 : decode cX10_init 192 = .ok (.aload_n 0, 1) := by decide +kernel
theorem dX10_init_193 : decode cX10_init 193 = .ok (.sipush 360, 3) := by decide +kernel
theorem dX10_init_196 : decode cX10_init 196 = .ok (.newarray .long, 2) := by decide +kernel
theorem dX10_init_198 : decode cX10_init 198 = .ok (.putfield 82, 3) := by decide +kernel
theorem dX10_init_201 : decode cX10_init 201 = .ok (.aload_n 0, 1) := by decide +kernel
theorem dX10_init_202 : decode cX10_init 202 = .ok (.bipush 60, 2) := by decide +kernel
theorem dX10_init_204 : decode cX10_init 204 = .ok (.newarray .long, 2) := by decide +kernel
theorem dX10_init_206 : decode cX10_init 206 = .ok (.putfield 86, 3) := by decide +kernel
theorem dX10_init_209 : decode cX10_init 209 = .ok (.iconst 0, 1) := by decide +kernel
theorem dX10_init_210 : decode cX10_init 210 = .ok (.istore_n 1, 1) := by decide +kernel
theorem dX10_init_211 : decode cX10_init 211 = .ok (.iload_n 1, 1) := by decide +kernel
theorem dX10_init_212 : decode cX10_init 212 = .ok (.bipush 6, 2) := by decide +kernel
theorem dX10_init_214 : decode cX10_init 214 = .ok (.if_icmp .ge 16, 3) := by decide +kernel
theorem dX10_init_217 : decode cX10_init 217 = .ok (.aload_n 0, 1) := by decide +kernel
theorem dX10_init_218 : decode cX10_init 218 = .ok (.getfield 76, 3) := by decide +kernel
theorem dX10_init_221 : decode cX10_init 221 = .ok (.iload_n 1, 1) := by decide +kernel
theorem dX10_init_222 : decode cX10_init 222 = .ok (.iconst (-1), 1) := by decide +kernel
theorem dX10_init_223 : decode cX10_init 223 = .ok (.iastore, 1) := by decide +kernel
theorem dX10_init_224 : decode cX10_init 224 = .ok (.iinc 1 1, 3) := by decide +kernel
theorem dX10_init_227 : decode cX10_init 227 = .ok (.goto (-16), 3) := by decide +kernel
theorem dX10_init_230 : decode cX10_init 230 = .ok (.aload_n 0, 1) := by decide +kernel
theorem dX10_init_231 : decode cX10_init 231 = .ok (.iconst (-1), 1) := by decide +kernel
theorem dX10_init_232 : decode cX10_init 232 = .ok (.putfield 89, 3) := by decide +kernel
theorem dX10_init_235 : decode cX10_init 235 = .ok (.aload_n 0, 1) := by decide +kernel
theorem dX10_init_236 : decode cX10_init 236 = .ok (.getfield 9, 3) := by decide +kernel
theorem dX10_init_239 : decode cX10_init 239 = .ok (.bipush 24, 2) := by decide +kernel
theorem dX10_init_241 : decode cX10_init 241 = .ok (.iconst 1, 1) := by decide +kernel
theorem dX10_init_242 : decode cX10_init 242 = .ok (.iastore, 1) := by decide +kernel
theorem dX10_init_243 : decode cX10_init 243 = .ok (.aload_n 0, 1) := by decide +kernel
theorem dX10_init_244 : decode cX10_init 244 = .ok (.getfield 9, 3) := by decide +kernel
theorem dX10_init_247 : decode cX10_init 247 = .ok (.bipush 26, 2) := by decide +kernel
theorem dX10_init_249 : decode cX10_init 249 = .ok (.iconst 1, 1) := by decide +kernel
theorem dX10_init_250 : decode cX10_init 250 = .ok (.iastore, 1) := by decide +kernel
theorem dX10_init_251 : decode cX10_init 251 = .ok (.aload_n 0, 1) := by decide +kernel
theorem dX10_init_252 : decode cX10_init 252 = .ok (.sipush 200, 3) := by decide +kernel
theorem dX10_init_255 : decode cX10_init 255 = .ok (.putfield 93, 3) := by decide +kernel
theorem dX10_init_258 : decode cX10_init 258 = .ok (.return_, 1) := by decide +kernel
theorem dX10_becomes_0 : decode cX10_becomes 0 = .ok (.aload_n 0, 1) := by decide +kernel
theorem dX10_becomes_1 : decode cX10_becomes 1 = .ok (.getfield 9, 3) := by decide +kernel
theorem dX10_becomes_4 : decode cX10_becomes 4 = .ok (.iload_n 1, 1) := by decide +kernel
theorem dX10_becomes_5 : decode cX10_becomes 5 = .ok (.iaload, 1) := by decide +kernel
theorem dX10_becomes_6 : decode cX10_becomes 6 = .ok (.istore_n 3, 1) := by decide +kernel
theorem dX10_becomes_7 : decode cX10_becomes 7 = .ok (.iload_n 3, 1) := by decide +kernel
theorem dX10_becomes_8 : decode cX10_becomes 8 = .ok (.iload_n 2, 1) := by decide +kernel
theorem dX10_becomes_9 : decode cX10_becomes 9 = .ok (.if_icmp .ne 5, 3) := by decide +kernel
theorem dX10_becomes_12 : decode cX10_becomes 12 = .ok (.iload_n 3, 1) := by decide +kernel
theorem dX10_becomes_13 : decode cX10_becomes 13 = .ok (.ireturn, 1) := by decide +kernel
theorem dX10_becomes_14 : decode cX10_becomes 14 = .ok (.aload_n 0, 1) := by decide +kernel
theorem dX10_becomes_15 : decode cX10_becomes 15 = .ok (.getfield 96, 3) := by decide +kernel
theorem dX10_becomes_18 : decode cX10_becomes 18 = .ok (.bipush 40, 2) := by decide +kernel
theorem dX10_becomes_20 : decode cX10_becomes 20 = .ok (.if_icmp .ne 77, 3) := by decide +kernel
theorem dX10_becomes_23 : decode cX10_becomes 23 = .ok (.iconst 1, 1) := by decide +kernel
theorem dX10_becomes_24 : decode cX10_becomes 24 = .ok (.istore 4, 2) := by decide +kernel
theorem dX10_becomes_26 : decode cX10_becomes 26 = .ok (.iload 4, 2) := by decide +kernel
theorem dX10_becomes_28 : decode cX10_becomes 28 = .ok (.bipush 40, 2) := by decide +kernel
theorem dX10_becomes_30 : decode cX10_becomes 30 = .ok (.if_icmp .ge 57, 3) := by decide +kernel
theorem dX10_becomes_33 : decode cX10_becomes 33 = .ok (.aload_n 0, 1) := by decide +kernel
theorem dX10_becomes_34 : decode cX10_becomes 34 = .ok (.getfield 13, 3) := by decide +kernel
theorem dX10_becomes_37 : decode cX10_becomes 37 = .ok (.iload 4, 2) := by decide +kernel
theorem dX10_becomes_39 : decode cX10_becomes 39 = .ok (.iconst 1, 1) := by decide +kernel
theorem dX10_becomes_40 : decode cX10_becomes 40 = .ok (.isub, 1) := by decide +kernel
theorem dX10_becomes_41 : decode cX10_becomes 41 = .ok (.aload_n 0, 1) := by decide +kernel
theorem dX10_becomes_42 : decode cX10_becomes 42 = .ok (.getfield 13, 3) := by decide +kernel
theorem dX10_becomes_45 : decode cX10_becomes 45 = .ok (.iload 4, 2) := by decide +kernel
theorem dX10_becomes_47 : decode cX10_becomes 47 = .ok (.iaload, 1) := by decide +kernel
theorem dX10_becomes_48 : decode cX10_becomes 48 = .ok (.iastore, 1) := by decide +kernel
theorem dX10_becomes_49 : decode cX10_becomes 49 = .ok (.aload_n 0, 1) := by decide +kernel
theorem dX10_becomes_50 : decode cX10_becomes 50 = .ok (.getfield 16, 3) := by decide +kernel
theorem dX10_becomes_53 : decode cX10_becomes 53 = .ok (.iload 4, 2) := by decide +kernel
theorem dX10_becomes_55 : decode cX10_becomes 55 = .ok (.iconst 1, 1) := by decide +kernel
theorem dX10_becomes_56 : decode cX10_becomes 56 = .ok (.isub, 1) := by decide +kernel
theorem dX10_becomes_57 : decode cX10_becomes 57 = .ok (.aload_n 0, 1) := by decide +kernel
theorem dX10_becomes_58 : decode cX10_becomes 58 = .ok (.getfield 16, 3) := by decide +kernel
theorem dX10_becomes_61 : decode cX10_becomes 61 = .ok (.iload 4, 2) := by decide +kernel
theorem dX10_becomes_63 : decode cX10_becomes 63 = .ok (.iaload, 1) := by decide +kernel
theorem dX10_becomes_64 : decode cX10_becomes 64 = .ok (.iastore, 1) := by decide +kernel
theorem dX10_becomes_65 : decode cX10_becomes 65 = .ok (.aload_n 0, 1) := by decide +kernel
theorem dX10_becomes_66 : decode cX10_becomes 66 = .ok (.getfield 19, 3) := by decide +kernel
theorem dX10_becomes_69 : decode cX10_becomes 69 = .ok (.iload 4, 2) := by decide +kernel
theorem dX10_becomes_71 : decode cX10_becomes 71 = .ok (.iconst 1, 1) := by decide +kernel
theorem dX10_becomes_72 : decode cX10_becomes 72 = .ok (.isub, 1) := by decide +kernel
theorem dX10_becomes_73 : decode cX10_becomes 73 = .ok (.aload_n 0, 1) := by decide +kernel
theorem dX10_becomes_74 : decode cX10_becomes 74 = .ok (.getfield 19, 3) := by decide +kernel
theorem dX10_becomes_77 : decode cX10_becomes 77 = .ok (.iload 4, 2) := by decide +kernel
theorem dX10_becomes_79 : decode cX10_becomes 79 = .ok (.iaload, 1) := by decide +kernel
theorem dX10_becomes_80 : decode cX10_becomes 80 = .ok (.iastore, 1) := by decide +kernel
theorem dX10_becomes_81 : decode cX10_becomes 81 = .ok (.iinc 4 1, 3) := by decide +kernel
theorem dX10_becomes_84 : decode cX10_becomes 84 = .ok (.goto (-58), 3) := by decide +kernel
theorem dX10_becomes_87 : decode cX10_becomes 87 = .ok (.aload_n 0, 1) := by decide +kernel
theorem dX10_becomes_88 : decode cX10_becomes 88 = .ok (.dup, 1) := by decide +kernel
theorem dX10_becomes_89 : decode cX10_becomes 89 = .ok (.getfield 96, 3) := by decide +kernel
theorem dX10_becomes_92 : decode cX10_becomes 92 = .ok (.iconst 1, 1) := by decide +kernel
theorem dX10_becomes_93 : decode cX10_becomes 93 = .ok (.isub, 1) := by decide +kernel
theorem dX10_becomes_94 : decode cX10_becomes 94 = .ok (.putfield 96, 3) := by decide +kernel
theorem dX10_becomes_97 : decode cX10_becomes 97 = .ok (.aload_n 0, 1) := by decide +kernel
theorem dX10_becomes_98 : decode cX10_becomes 98 = .ok (.getfield 13, 3) := by decide +kernel
theorem dX10_becomes_101 : decode cX10_becomes 101 = .ok (.aload_n 0, 1) := by decide +kernel
theorem dX10_becomes_102 : decode cX10_becomes 102 = .ok (.getfield 96, 3) := by decide +kernel
theorem dX10_becomes_105 : decode cX10_becomes 105 = .ok (.iload_n 1, 1) := by decide +kernel
theorem dX10_becomes_106 : decode cX10_becomes 106 = .ok (.iastore, 1) := by decide +kernel
theorem dX10_becomes_107 : decode cX10_becomes 107 = .ok (.aload_n 0, 1) := by decide +kernel
theorem dX10_becomes_108 : decode cX10_becomes 108 = .ok (.getfield 16, 3) := by decide +kernel
theorem dX10_becomes_111 : decode cX10_becomes 111 = .ok (.aload_n 0, 1) := by decide +kernel
theorem dX10_becomes_112 : decode cX10_becomes 112 = .ok (.getfield 96, 3) := by decide +kernel
theorem dX10_becomes_115 : decode cX10_becomes 115 = .ok (.iload_n 3, 1) := by decide +kernel
theorem dX10_becomes_116 : decode cX10_becomes 116 = .ok (.iastore, 1) := by decide +kernel
theorem dX10_becomes_117 : decode cX10_becomes 117 = .ok (.aload_n 0, 1) := by decide +kernel
theorem dX10_becomes_118 : decode cX10_becomes 118 = .ok (.getfield 19, 3) := by decide +kernel
theorem dX10_becomes_121 : decode cX10_becomes 121 = .ok (.aload_n 0, 1) := by decide +kernel
theorem dX10_becomes_122 : decode cX10_becomes 122 = .ok (.getfield 96, 3) := by decide +kernel
theorem dX10_becomes_125 : decode cX10_becomes 125 = .ok (.iload_n 2, 1) := by decide +kernel
theorem dX10_becomes_126 : decode cX10_becomes 126 = .ok (.iastore, 1) := by decide +kernel
theorem dX10_becomes_127 : decode cX10_becomes 127 = .ok (.aload_n 0, 1) := by decide +kernel
theorem dX10_becomes_128 : decode cX10_becomes 128 = .ok (.dup, 1) := by decide +kernel
theorem dX10_becomes_129 : decode cX10_becomes 129 = .ok (.getfield 96, 3) := by decide +kernel
theorem dX10_becomes_132 : decode cX10_becomes 132 = .ok (.iconst 1, 1) := by decide +kernel
theorem dX10_becomes_133 : decode cX10_becomes 133 = .ok (.iadd, 1) := by decide +kernel
theorem dX10_becomes_134 : decode cX10_becomes 134 = .ok (.putfield 96, 3) := by decide +kernel
theorem dX10_becomes_137 : decode cX10_becomes 137 = .ok (.aload_n 0, 1) := by decide +kernel
theorem dX10_becomes_138 : decode cX10_becomes 138 = .ok (.aload_n 0, 1) := by decide +kernel
theorem dX10_becomes_139 : decode cX10_becomes 139 = .ok (.getfield 96, 3) := by decide +kernel
theorem dX10_becomes_142 : decode cX10_becomes 142 = .ok (.putfield 99, 3) := by decide +kernel
theorem dX10_becomes_145 : decode cX10_becomes 145 = .ok (.aload_n 0, 1) := by decide +kernel
theorem dX10_becomes_146 : decode cX10_becomes 146 = .ok (.getfield 9, 3) := by decide +kernel
theorem dX10_becomes_149 : decode cX10_becomes 149 = .ok (.iload_n 1, 1) := by decide +kernel
theorem dX10_becomes_150 : decode cX10_becomes 150 = .ok (.iload_n 2, 1) := by decide +kernel
theorem dX10_becomes_151 : decode cX10_becomes 151 = .ok (.iastore, 1) := by decide +kernel
theorem dX10_becomes_152 : decode cX10_becomes 152 = .ok (.iload_n 3, 1) := by decide +kernel
theorem dX10_becomes_153 : decode cX10_becomes 153 = .ok (.ireturn, 1) := by decide +kernel
theorem dX10_undo_0 : decode cX10_undo 0 = .ok (.aload_n 0, 1) := by decide +kernel
theorem dX10_undo_1 : decode cX10_undo 1 = .ok (.getfield 96, 3) := by decide +kernel
theorem dX10_undo_4 : decode cX10_undo 4 = .ok (.ifCond .ne 6, 3) := by decide +kernel
theorem dX10_undo_7 : decode cX10_undo 7 = .ok (.bipush (-5), 2) := by decide +kernel
theorem dX10_undo_9 : decode cX10_undo 9 = .ok (.ireturn, 1) := by decide +kernel
theorem dX10_undo_10 : decode cX10_undo 10 = .ok (.aload_n 0, 1) := by decide +kernel
theorem dX10_undo_11 : decode cX10_undo 11 = .ok (.dup, 1) := by decide +kernel
theorem dX10_undo_12 : decode cX10_undo 12 = .ok (.getfield 96, 3) := by decide +kernel
theorem dX10_undo_15 : decode cX10_undo 15 = .ok (.iconst 1, 1) := by decide +kernel
theorem dX10_undo_16 : decode cX10_undo 16 = .ok (.isub, 1) := by decide +kernel
theorem dX10_undo_17 : decode cX10_undo 17 = .ok (.putfield 96, 3) := by decide +kernel
theorem dX10_undo_20 : decode cX10_undo 20 = .ok (.aload_n 0, 1) := by decide +kernel
theorem dX10_undo_21 : decode cX10_undo 21 = .ok (.getfield 9, 3) := by decide +kernel
theorem dX10_undo_24 : decode cX10_undo 24 = .ok (.aload_n 0, 1) := by decide +kernel
theorem dX10_undo_25 : decode cX10_undo 25 = .ok (.getfield 13, 3) := by decide +kernel
theorem dX10_undo_28 : decode cX10_undo 28 = .ok (.aload_n 0, 1) := by decide +kernel
theorem dX10_undo_29 : decode cX10_undo 29 = .ok (.getfield 96, 3) := by decide +kernel
theorem dX10_undo_32 : decode cX10_undo 32 = .ok (.iaload, 1) := by decide +kernel
theorem dX10_undo_33 : decode cX10_undo 33 = .ok (.aload_n 0, 1) := by decide +kernel
theorem dX10_undo_34 : decode cX10_undo 34 = .ok (.getfield 16, 3) := by decide +kernel
theorem dX10_undo_37 : decode cX10_undo 37 = .ok (.aload_n 0, 1) := by decide +kernel
theorem dX10_undo_38 : decode cX10_undo 38 = .ok (.getfield 96, 3) := by decide +kernel
theorem dX10_undo_41 : decode cX10_undo 41 = .ok (.iaload, 1) := by decide +kernel
theorem dX10_undo_42 : decode cX10_undo 42 = .ok (.iastore, 1) := by decide +kernel
theorem dX10_undo_43 : decode cX10_undo 43 = .ok (.aload_n 0, 1) := by decide +kernel
theorem dX10_undo_44 : decode cX10_undo 44 = .ok (.getfield 96, 3) := by decide +kernel
theorem dX10_undo_47 : decode cX10_undo 47 = .ok (.ireturn, 1) := by decide +kernel
theorem dX10_redo_0 : decode cX10_redo 0 = .ok (.aload_n 0, 1) := by decide +kernel
theorem dX10_redo_1 : decode cX10_redo 1 = .ok (.getfield 96, 3) := by decide +kernel
theorem dX10_redo_4 : decode cX10_redo 4 = .ok (.aload_n 0, 1) := by decide +kernel
theorem dX10_redo_5 : decode cX10_redo 5 = .ok (.getfield 99, 3) := by decide +kernel
theorem dX10_redo_8 : decode cX10_redo 8 = .ok (.if_icmp .ne 6, 3) := by decide +kernel
theorem dX10_redo_11 : decode cX10_redo 11 = .ok (.bipush (-5), 2) := by decide +kernel
theorem dX10_redo_13 : decode cX10_redo 13 = .ok (.ireturn, 1) := by decide +kernel
theorem dX10_redo_14 : decode cX10_redo 14 = .ok (.aload_n 0, 1) := by decide +kernel
theorem dX10_redo_15 : decode cX10_redo 15 = .ok (.getfield 9, 3) := by decide +kernel
theorem dX10_redo_18 : decode cX10_redo 18 = .ok (.aload_n 0, 1) := by decide +kernel
theorem dX10_redo_19 : decode cX10_redo 19 = .ok (.getfield 13, 3) := by decide +kernel
theorem dX10_redo_22 : decode cX10_redo 22 = .ok (.aload_n 0, 1) := by decide +kernel
theorem dX10_redo_23 : decode cX10_redo 23 = .ok (.getfield 96, 3) := by decide +kernel
theorem dX10_redo_26 : decode cX10_redo 26 = .ok (.iaload, 1) := by decide +kernel
theorem dX10_redo_27 : decode cX10_redo 27 = .ok (.aload_n 0, 1) := by decide +kernel
theorem dX10_redo_28 : decode cX10_redo 28 = .ok (.getfield 19, 3) := by decide +kernel
theorem dX10_redo_31 : decode cX10_redo 31 = .ok (.aload_n 0, 1) := by decide +kernel
theorem dX10_redo_32 : decode cX10_redo 32 = .ok (.getfield 96, 3) := by decide +kernel
theorem dX10_redo_35 : decode cX10_redo 35 = .ok (.iaload, 1) := by decide +kernel
theorem dX10_redo_36 : decode cX10_redo 36 = .ok (.iastore, 1) := by decide +kernel
theorem dX10_redo_37 : decode cX10_redo 37 = .ok (.aload_n 0, 1) := by decide +kernel
theorem dX10_redo_38 : decode cX10_redo 38 = .ok (.dup, 1) := by decide +kernel
theorem dX10_redo_39 : decode cX10_redo 39 = .ok (.getfield 96, 3) := by decide +kernel
theorem dX10_redo_42 : decode cX10_redo 42 = .ok (.iconst 1, 1) := by decide +kernel
theorem dX10_redo_43 : decode cX10_redo 43 = .ok (.iadd, 1) := by decide +kernel
theorem dX10_redo_44 : decode cX10_redo 44 = .ok (.putfield 96, 3) := by decide +kernel
theorem dX10_redo_47 : decode cX10_redo 47 = .ok (.aload_n 0, 1) := by decide +kernel
theorem dX10_redo_48 : decode cX10_redo 48 = .ok (.getfield 99, 3) := by decide +kernel
theorem dX10_redo_51 : decode cX10_redo 51 = .ok (.aload_n 0, 1) := by decide +kernel
theorem dX10_redo_52 : decode cX10_redo 52 = .ok (.getfield 96, 3) := by decide +kernel
theorem dX10_redo_55 : decode cX10_redo 55 = .ok (.isub, 1) := by decide +kernel
theorem dX10_redo_56 : decode cX10_redo 56 = .ok (.ireturn, 1) := by decide +kernel
theorem dX10_isStraw_0 : decode cX10_isStraw 0 = .ok (.iload_n 1, 1) := by decide +kernel
theorem dX10_isStraw_1 : decode cX10_isStraw 1 = .ok (.i2l, 1) := by decide +kernel
theorem dX10_isStraw_2 : decode cX10_isStraw 2 = .ok (.lconst 0, 1) := by decide +kernel
theorem dX10_isStraw_3 : decode cX10_isStraw 3 = .ok (.aload_n 0, 1) := by decide +kernel
theorem dX10_isStraw_4 : decode cX10_isStraw 4 = .ok (.getfield 102, 3) := by decide +kernel
theorem dX10_isStraw_7 : decode cX10_isStraw 7 = .ok (.iconst 1, 1) := by decide +kernel
theorem dX10_isStraw_8 : decode cX10_isStraw 8 = .ok (.isub, 1) := by decide +kernel
theorem dX10_isStraw_9 : decode cX10_isStraw 9 = .ok (.i2l, 1) := by decide +kernel
theorem dX10_isStraw_10 : decode cX10_isStraw 10 = .ok (.invokestatic 105, 3) := by decide +kernel
theorem dX10_isStraw_13 : decode cX10_isStraw 13 = .ok (.ireturn, 1) := by decide +kernel
theorem dX10_ofStraw_0 : decode cX10_ofStraw 0 = .ok (.aload_n 0, 1) := by decide +kernel
theorem dX10_ofStraw_1 : decode cX10_ofStraw 1 = .ok (.getfield 9, 3) := by decide +kernel
theorem dX10_ofStraw_4 : decode cX10_ofStraw 4 = .ok (.bipush 8, 2) := by decide +kernel
theorem dX10_ofStraw_6 : decode cX10_ofStraw 6 = .ok (.iload_n 1, 1) := by decide +kernel
theorem dX10_ofStraw_7 : decode cX10_ofStraw 7 = .ok (.imul, 1) := by decide +kernel
theorem dX10_ofStraw_8 : decode cX10_ofStraw 8 = .ok (.iload_n 2, 1) := by decide +kernel
theorem dX10_ofStraw_9 : decode cX10_ofStraw 9 = .ok (.iadd, 1) := by decide +kernel
theorem dX10_ofStraw_10 : decode cX10_ofStraw 10 = .ok (.iaload, 1) := by decide +kernel
theorem dX10_ofStraw_11 : decode cX10_ofStraw 11 = .ok (.ireturn, 1) := by decide +kernel
theorem dX10_isOne_0 : decode cX10_isOne 0 = .ok (.lload_n 0, 1) := by decide +kernel
theorem dX10_isOne_1 : decode cX10_isOne 1 = .ok (.lconst 0, 1) := by decide +kernel
theorem dX10_isOne_2 : decode cX10_isOne 2 = .ok (.ldc2_w 109, 3) := by decide +kernel
theorem dX10_isOne_5 : decode cX10_isOne 5 = .ok (.invokestatic 105, 3) := by decide +kernel
theorem dX10_isOne_8 : decode cX10_isOne 8 = .ok (.ifCond .eq 30, 3) := by decide +kernel
theorem dX10_isOne_11 : decode cX10_isOne 11 = .ok (.lload_n 2, 1) := by decide +kernel
theorem dX10_isOne_12 : decode cX10_isOne 12 = .ok (.lconst 1, 1) := by decide +kernel
theorem dX10_isOne_13 : decode cX10_isOne 13 = .ok (.ldc2_w 111, 3) := by decide +kernel
theorem dX10_isOne_16 : decode cX10_isOne 16 = .ok (.invokestatic 105, 3) := by decide +kernel
theorem dX10_isOne_19 : decode cX10_isOne 19 = .ok (.ifCond .eq 19, 3) := by decide +kernel
theorem dX10_isOne_22 : decode cX10_isOne 22 = .ok (.lload 4, 2) := by decide +kernel
theorem dX10_isOne_24 : decode cX10_isOne 24 = .ok (.lconst 0, 1) := by decide +kernel
theorem dX10_isOne_25 : decode cX10_isOne 25 = .ok (.ldc2_w 113, 3) := by decide +kernel
theorem dX10_isOne_28 : decode cX10_isOne 28 = .ok (.invokestatic 105, 3) := by decide +kernel
theorem dX10_isOne_31 : decode cX10_isOne 31 = .ok (.ifCond .eq 7, 3) := by decide +kernel
theorem dX10_isOne_34 : decode cX10_isOne 34 = .ok (.iconst 1, 1) := by decide +kernel
theorem dX10_isOne_35 : decode cX10_isOne 35 = .ok (.goto 4, 3) := by decide +kernel
theorem dX10_isOne_38 : decode cX10_isOne 38 = .ok (.iconst 0, 1) := by decide +kernel
theorem dX10_isOne_39 : decode cX10_isOne 39 = .ok (.ireturn, 1) := by decide +kernel
theorem dX10_adds_0 : decode cX10_adds 0 = .ok (.bipush 8, 2) := by decide +kernel
theorem dX10_adds_2 : decode cX10_adds 2 = .ok (.aload_n 0, 1) := by decide +kernel
theorem dX10_adds_3 : decode cX10_adds 3 = .ok (.getfield 102, 3) := by decide +kernel
theorem dX10_adds_6 : decode cX10_adds 6 = .ok (.imul, 1) := by decide +kernel
theorem dX10_adds_7 : decode cX10_adds 7 = .ok (.istore 4, 2) := by decide +kernel
theorem dX10_adds_9 : decode cX10_adds 9 = .ok (.aload_n 0, 1) := by decide +kernel
theorem dX10_adds_10 : decode cX10_adds 10 = .ok (.getfield 9, 3) := by decide +kernel
theorem dX10_adds_13 : decode cX10_adds 13 = .ok (.iload 4, 2) := by decide +kernel
theorem dX10_adds_15 : decode cX10_adds 15 = .ok (.iconst 0, 1) := by decide +kernel
theorem dX10_adds_16 : decode cX10_adds 16 = .ok (.iadd, 1) := by decide +kernel
theorem dX10_adds_17 : decode cX10_adds 17 = .ok (.iload_n 1, 1) := by decide +kernel
theorem dX10_adds_18 : decode cX10_adds 18 = .ok (.iastore, 1) := by decide +kernel
theorem dX10_adds_19 : decode cX10_adds 19 = .ok (.aload_n 0, 1) := by decide +kernel
theorem dX10_adds_20 : decode cX10_adds 20 = .ok (.getfield 9, 3) := by decide +kernel
theorem dX10_adds_23 : decode cX10_adds 23 = .ok (.iload 4, 2) := by decide +kernel
theorem dX10_adds_25 : decode cX10_adds 25 = .ok (.iconst 1, 1) := by decide +kernel
theorem dX10_adds_26 : decode cX10_adds 26 = .ok (.iadd, 1) := by decide +kernel
theorem dX10_adds_27 : decode cX10_adds 27 = .ok (.iload_n 2, 1) := by decide +kernel
theorem dX10_adds_28 : decode cX10_adds 28 = .ok (.iastore, 1) := by decide +kernel
theorem dX10_adds_29 : decode cX10_adds 29 = .ok (.aload_n 0, 1) := by decide +kernel
theorem dX10_adds_30 : decode cX10_adds 30 = .ok (.getfield 9, 3) := by decide +kernel
theorem dX10_adds_33 : decode cX10_adds 33 = .ok (.iload 4, 2) := by decide +kernel
theorem dX10_adds_35 : decode cX10_adds 35 = .ok (.iconst 2, 1) := by decide +kernel
theorem dX10_adds_36 : decode cX10_adds 36 = .ok (.iadd, 1) := by decide +kernel
theorem dX10_adds_37 : decode cX10_adds 37 = .ok (.iload_n 3, 1) := by decide +kernel
theorem dX10_adds_38 : decode cX10_adds 38 = .ok (.iastore, 1) := by decide +kernel
theorem dX10_adds_39 : decode cX10_adds 39 = .ok (.aload_n 0, 1) := by decide +kernel
theorem dX10_adds_40 : decode cX10_adds 40 = .ok (.getfield 9, 3) := by decide +kernel
theorem dX10_adds_43 : decode cX10_adds 43 = .ok (.iload 4, 2) := by decide +kernel
theorem dX10_adds_45 : decode cX10_adds 45 = .ok (.iconst 3, 1) := by decide +kernel
theorem dX10_adds_46 : decode cX10_adds 46 = .ok (.iadd, 1) := by decide +kernel
theorem dX10_adds_47 : decode cX10_adds 47 = .ok (.bipush 10, 2) := by decide +kernel
theorem dX10_adds_49 : decode cX10_adds 49 = .ok (.iastore, 1) := by decide +kernel
theorem dX10_adds_50 : decode cX10_adds 50 = .ok (.aload_n 0, 1) := by decide +kernel
theorem dX10_adds_51 : decode cX10_adds 51 = .ok (.getfield 9, 3) := by decide +kernel
theorem dX10_adds_54 : decode cX10_adds 54 = .ok (.iload 4, 2) := by decide +kernel
theorem dX10_adds_56 : decode cX10_adds 56 = .ok (.iconst 4, 1) := by decide +kernel
theorem dX10_adds_57 : decode cX10_adds 57 = .ok (.iadd, 1) := by decide +kernel
theorem dX10_adds_58 : decode cX10_adds 58 = .ok (.bipush 60, 2) := by decide +kernel
theorem dX10_adds_60 : decode cX10_adds 60 = .ok (.iastore, 1) := by decide +kernel
theorem dX10_adds_61 : decode cX10_adds 61 = .ok (.aload_n 0, 1) := by decide +kernel
theorem dX10_adds_62 : decode cX10_adds 62 = .ok (.getfield 9, 3) := by decide +kernel
theorem dX10_adds_65 : decode cX10_adds 65 = .ok (.iload 4, 2) := by decide +kernel
theorem dX10_adds_67 : decode cX10_adds 67 = .ok (.iconst 5, 1) := by decide +kernel
theorem dX10_adds_68 : decode cX10_adds 68 = .ok (.iadd, 1) := by decide +kernel
theorem dX10_adds_69 : decode cX10_adds 69 = .ok (.iconst 0, 1) := by decide +kernel
theorem dX10_adds_70 : decode cX10_adds 70 = .ok (.iastore, 1) := by decide +kernel
theorem dX10_adds_71 : decode cX10_adds 71 = .ok (.aload_n 0, 1) := by decide +kernel
theorem dX10_adds_72 : decode cX10_adds 72 = .ok (.getfield 9, 3) := by decide +kernel
theorem dX10_adds_75 : decode cX10_adds 75 = .ok (.iload 4, 2) := by decide +kernel
theorem dX10_adds_77 : decode cX10_adds 77 = .ok (.bipush 6, 2) := by decide +kernel
theorem dX10_adds_79 : decode cX10_adds 79 = .ok (.iadd, 1) := by decide +kernel
theorem dX10_adds_80 : decode cX10_adds 80 = .ok (.iconst (-1), 1) := by decide +kernel
theorem dX10_adds_81 : decode cX10_adds 81 = .ok (.iastore, 1) := by decide +kernel
theorem dX10_adds_82 : decode cX10_adds 82 = .ok (.aload_n 0, 1) := by decide +kernel
theorem dX10_adds_83 : decode cX10_adds 83 = .ok (.getfield 9, 3) := by decide +kernel
theorem dX10_adds_86 : decode cX10_adds 86 = .ok (.iload 4, 2) := by decide +kernel
theorem dX10_adds_88 : decode cX10_adds 88 = .ok (.bipush 7, 2) := by decide +kernel
theorem dX10_adds_90 : decode cX10_adds 90 = .ok (.iadd, 1) := by decide +kernel
theorem dX10_adds_91 : decode cX10_adds 91 = .ok (.sipush 999, 3) := by decide +kernel
theorem dX10_adds_94 : decode cX10_adds 94 = .ok (.iastore, 1) := by decide +kernel
theorem dX10_adds_95 : decode cX10_adds 95 = .ok (.aload_n 0, 1) := by decide +kernel
theorem dX10_adds_96 : decode cX10_adds 96 = .ok (.dup, 1) := by decide +kernel
theorem dX10_adds_97 : decode cX10_adds 97 = .ok (.getfield 102, 3) := by decide +kernel
theorem dX10_adds_100 : decode cX10_adds 100 = .ok (.iconst 1, 1) := by decide +kernel
theorem dX10_adds_101 : decode cX10_adds 101 = .ok (.iadd, 1) := by decide +kernel
theorem dX10_adds_102 : decode cX10_adds 102 = .ok (.putfield 102, 3) := by decide +kernel
theorem dX10_adds_105 : decode cX10_adds 105 = .ok (.return_, 1) := by decide +kernel
theorem dX10_straw_0 : decode cX10_straw 0 = .ok (.iload_n 1, 1) := by decide +kernel
theorem dX10_straw_1 : decode cX10_straw 1 = .ok (.i2l, 1) := by decide +kernel
theorem dX10_straw_2 : decode cX10_straw 2 = .ok (.ldc2_w 115, 3) := by decide +kernel
theorem dX10_straw_5 : decode cX10_straw 5 = .ok (.iload_n 2, 1) := by decide +kernel
theorem dX10_straw_6 : decode cX10_straw 6 = .ok (.i2l, 1) := by decide +kernel
theorem dX10_straw_7 : decode cX10_straw 7 = .ok (.invokestatic 117, 3) := by decide +kernel
theorem dX10_straw_10 : decode cX10_straw 10 = .ok (.ifCond .ne 5, 3) := by decide +kernel
theorem dX10_straw_13 : decode cX10_straw 13 = .ok (.iconst (-1), 1) := by decide +kernel
theorem dX10_straw_14 : decode cX10_straw 14 = .ok (.ireturn, 1) := by decide +kernel
theorem dX10_straw_15 : decode cX10_straw 15 = .ok (.aload_n 0, 1) := by decide +kernel
theorem dX10_straw_16 : decode cX10_straw 16 = .ok (.getfield 102, 3) := by decide +kernel
theorem dX10_straw_19 : decode cX10_straw 19 = .ok (.iconst 3, 1) := by decide +kernel
theorem dX10_straw_20 : decode cX10_straw 20 = .ok (.if_icmp .ne 6, 3) := by decide +kernel
theorem dX10_straw_23 : decode cX10_straw 23 = .ok (.bipush (-3), 2) := by decide +kernel
theorem dX10_straw_25 : decode cX10_straw 25 = .ok (.ireturn, 1) := by decide +kernel
theorem dX10_straw_26 : decode cX10_straw 26 = .ok (.aload_n 0, 1) := by decide +kernel
theorem dX10_straw_27 : decode cX10_straw 27 = .ok (.iload_n 1, 1) := by decide +kernel
theorem dX10_straw_28 : decode cX10_straw 28 = .ok (.iconst 3, 1) := by decide +kernel
theorem dX10_straw_29 : decode cX10_straw 29 = .ok (.iload_n 2, 1) := by decide +kernel
theorem dX10_straw_30 : decode cX10_straw 30 = .ok (.invokevirtual 120, 3) := by decide +kernel
theorem dX10_straw_33 : decode cX10_straw 33 = .ok (.aload_n 0, 1) := by decide +kernel
theorem dX10_straw_34 : decode cX10_straw 34 = .ok (.getfield 102, 3) := by decide +kernel
theorem dX10_straw_37 : decode cX10_straw 37 = .ok (.iconst 1, 1) := by decide +kernel
theorem dX10_straw_38 : decode cX10_straw 38 = .ok (.isub, 1) := by decide +kernel
theorem dX10_straw_39 : decode cX10_straw 39 = .ok (.ireturn, 1) := by decide +kernel
theorem dX10_straws_0 : decode cX10_straws 0 = .ok (.iload_n 1, 1) := by decide +kernel
theorem dX10_straws_1 : decode cX10_straws 1 = .ok (.invokestatic 124, 3) := by decide +kernel
theorem dX10_straws_4 : decode cX10_straws 4 = .ok (.ifCond .eq 15, 3) := by decide +kernel
theorem dX10_straws_7 : decode cX10_straws 7 = .ok (.iload_n 3, 1) := by decide +kernel
theorem dX10_straws_8 : decode cX10_straws 8 = .ok (.i2l, 1) := by decide +kernel
theorem dX10_straws_9 : decode cX10_straws 9 = .ok (.lconst 1, 1) := by decide +kernel
theorem dX10_straws_10 : decode cX10_straws 10 = .ok (.ldc2_w 115, 3) := by decide +kernel
theorem dX10_straws_13 : decode cX10_straws 13 = .ok (.invokestatic 105, 3) := by decide +kernel
theorem dX10_straws_16 : decode cX10_straws 16 = .ok (.ifCond .ne 5, 3) := by decide +kernel
theorem dX10_straws_19 : decode cX10_straws 19 = .ok (.iconst (-1), 1) := by decide +kernel
theorem dX10_straws_20 : decode cX10_straws 20 = .ok (.ireturn, 1) := by decide +kernel
theorem dX10_straws_21 : decode cX10_straws 21 = .ok (.aload_n 0, 1) := by decide +kernel
theorem dX10_straws_22 : decode cX10_straws 22 = .ok (.getfield 76, 3) := by decide +kernel
theorem dX10_straws_25 : decode cX10_straws 25 = .ok (.iload_n 1, 1) := by decide +kernel
theorem dX10_straws_26 : decode cX10_straws 26 = .ok (.iaload, 1) := by decide +kernel
theorem dX10_straws_27 : decode cX10_straws 27 = .ok (.ifCond .lt 17, 3) := by decide +kernel
theorem dX10_straws_30 : decode cX10_straws 30 = .ok (.aload_n 0, 1) := by decide +kernel
theorem dX10_straws_31 : decode cX10_straws 31 = .ok (.getfield 76, 3) := by decide +kernel
theorem dX10_straws_34 : decode cX10_straws 34 = .ok (.iload_n 1, 1) := by decide +kernel
theorem dX10_straws_35 : decode cX10_straws 35 = .ok (.iaload, 1) := by decide +kernel
theorem dX10_straws_36 : decode cX10_straws 36 = .ok (.bipush 50, 2) := by decide +kernel
theorem dX10_straws_38 : decode cX10_straws 38 = .ok (.if_icmp .eq 6, 3) := by decide +kernel
theorem dX10_straws_41 : decode cX10_straws 41 = .ok (.bipush (-12), 2) := by decide +kernel
theorem dX10_straws_43 : decode cX10_straws 43 = .ok (.ireturn, 1) := by decide +kernel
theorem dX10_straws_44 : decode cX10_straws 44 = .ok (.iconst 0, 1) := by decide +kernel
theorem dX10_straws_45 : decode cX10_straws 45 = .ok (.istore 4, 2) := by decide +kernel
theorem dX10_straws_47 : decode cX10_straws 47 = .ok (.aload_n 0, 1) := by decide +kernel
theorem dX10_straws_48 : decode cX10_straws 48 = .ok (.getfield 76, 3) := by decide +kernel
theorem dX10_straws_51 : decode cX10_straws 51 = .ok (.iload_n 1, 1) := by decide +kernel
theorem dX10_straws_52 : decode cX10_straws 52 = .ok (.iaload, 1) := by decide +kernel
theorem dX10_straws_53 : decode cX10_straws 53 = .ok (.bipush 50, 2) := by decide +kernel
theorem dX10_straws_55 : decode cX10_straws 55 = .ok (.if_icmp .ne 11, 3) := by decide +kernel
theorem dX10_straws_58 : decode cX10_straws 58 = .ok (.iload_n 2, 1) := by decide +kernel
theorem dX10_straws_59 : decode cX10_straws 59 = .ok (.ifCond .lt 7, 3) := by decide +kernel
theorem dX10_straws_62 : decode cX10_straws 62 = .ok (.iconst 1, 1) := by decide +kernel
theorem dX10_straws_63 : decode cX10_straws 63 = .ok (.goto 4, 3) := by decide +kernel
theorem dX10_straws_66 : decode cX10_straws 66 = .ok (.iconst 0, 1) := by decide +kernel
theorem dX10_straws_67 : decode cX10_straws 67 = .ok (.istore 5, 2) := by decide +kernel
theorem dX10_straws_69 : decode cX10_straws 69 = .ok (.iload 5, 2) := by decide +kernel
theorem dX10_straws_71 : decode cX10_straws 71 = .ok (.ifCond .eq 140, 3) := by decide +kernel
theorem dX10_straws_74 : decode cX10_straws 74 = .ok (.iload 4, 2) := by decide +kernel
theorem dX10_straws_76 : decode cX10_straws 76 = .ok (.iload_n 3, 1) := by decide +kernel
theorem dX10_straws_77 : decode cX10_straws 77 = .ok (.if_icmp .ge 134, 3) := by decide +kernel
theorem dX10_straws_80 : decode cX10_straws 80 = .ok (.iload_n 2, 1) := by decide +kernel
theorem dX10_straws_81 : decode cX10_straws 81 = .ok (.aload_n 0, 1) := by decide +kernel
theorem dX10_straws_82 : decode cX10_straws 82 = .ok (.getfield 79, 3) := by decide +kernel
theorem dX10_straws_85 : decode cX10_straws 85 = .ok (.iload_n 1, 1) := by decide +kernel
theorem dX10_straws_86 : decode cX10_straws 86 = .ok (.iaload, 1) := by decide +kernel
theorem dX10_straws_87 : decode cX10_straws 87 = .ok (.iconst 3, 1) := by decide +kernel
theorem dX10_straws_88 : decode cX10_straws 88 = .ok (.isub, 1) := by decide +kernel
theorem dX10_straws_89 : decode cX10_straws 89 = .ok (.iconst 3, 1) := by decide +kernel
theorem dX10_straws_90 : decode cX10_straws 90 = .ok (.iload 4, 2) := by decide +kernel
theorem dX10_straws_92 : decode cX10_straws 92 = .ok (.imul, 1) := by decide +kernel
theorem dX10_straws_93 : decode cX10_straws 93 = .ok (.isub, 1) := by decide +kernel
theorem dX10_straws_94 : decode cX10_straws 94 = .ok (.if_icmp .gt 15, 3) := by decide +kernel
theorem dX10_straws_97 : decode cX10_straws 97 = .ok (.aload_n 0, 1) := by decide +kernel
theorem dX10_straws_98 : decode cX10_straws 98 = .ok (.getfield 102, 3) := by decide +kernel
theorem dX10_straws_101 : decode cX10_straws 101 = .ok (.iconst 3, 1) := by decide +kernel
theorem dX10_straws_102 : decode cX10_straws 102 = .ok (.if_icmp .ge 7, 3) := by decide +kernel
theorem dX10_straws_105 : decode cX10_straws 105 = .ok (.iconst 1, 1) := by decide +kernel
theorem dX10_straws_106 : decode cX10_straws 106 = .ok (.goto 4, 3) := by decide +kernel
theorem dX10_straws_109 : decode cX10_straws 109 = .ok (.iconst 0, 1) := by decide +kernel
theorem dX10_straws_110 : decode cX10_straws 110 = .ok (.istore 5, 2) := by decide +kernel
theorem dX10_straws_112 : decode cX10_straws 112 = .ok (.bipush 60, 2) := by decide +kernel
theorem dX10_straws_114 : decode cX10_straws 114 = .ok (.iload_n 1, 1) := by decide +kernel
theorem dX10_straws_115 : decode cX10_straws 115 = .ok (.imul, 1) := by decide +kernel
theorem dX10_straws_116 : decode cX10_straws 116 = .ok (.iload_n 2, 1) := by decide +kernel
theorem dX10_straws_117 : decode cX10_straws 117 = .ok (.iadd, 1) := by decide +kernel
theorem dX10_straws_118 : decode cX10_straws 118 = .ok (.iconst 3, 1) := by decide +kernel
theorem dX10_straws_119 : decode cX10_straws 119 = .ok (.iload 4, 2) := by decide +kernel
theorem dX10_straws_121 : decode cX10_straws 121 = .ok (.imul, 1) := by decide +kernel
theorem dX10_straws_122 : decode cX10_straws 122 = .ok (.iadd, 1) := by decide +kernel
theorem dX10_straws_123 : decode cX10_straws 123 = .ok (.istore 6, 2) := by decide +kernel
theorem dX10_straws_125 : decode cX10_straws 125 = .ok (.iload 5, 2) := by decide +kernel
theorem dX10_straws_127 : decode cX10_straws 127 = .ok (.ifCond .eq 38, 3) := by decide +kernel
theorem dX10_straws_130 : decode cX10_straws 130 = .ok (.aload_n 0, 1) := by decide +kernel
theorem dX10_straws_131 : decode cX10_straws 131 = .ok (.getfield 82, 3) := by decide +kernel
theorem dX10_straws_134 : decode cX10_straws 134 = .ok (.iload 6, 2) := by decide +kernel
theorem dX10_straws_136 : decode cX10_straws 136 = .ok (.laload, 1) := by decide +kernel
theorem dX10_straws_137 : decode cX10_straws 137 = .ok (.aload_n 0, 1) := by decide +kernel
theorem dX10_straws_138 : decode cX10_straws 138 = .ok (.getfield 82, 3) := by decide +kernel
theorem dX10_straws_141 : decode cX10_straws 141 = .ok (.iload 6, 2) := by decide +kernel
theorem dX10_straws_143 : decode cX10_straws 143 = .ok (.iconst 1, 1) := by decide +kernel
theorem dX10_straws_144 : decode cX10_straws 144 = .ok (.iadd, 1) := by decide +kernel
theorem dX10_straws_145 : decode cX10_straws 145 = .ok (.laload, 1) := by decide +kernel
theorem dX10_straws_146 : decode cX10_straws 146 = .ok (.aload_n 0, 1) := by decide +kernel
theorem dX10_straws_147 : decode cX10_straws 147 = .ok (.getfield 82, 3) := by decide +kernel
theorem dX10_straws_150 : decode cX10_straws 150 = .ok (.iload 6, 2) := by decide +kernel
theorem dX10_straws_152 : decode cX10_straws 152 = .ok (.iconst 2, 1) := by decide +kernel
theorem dX10_straws_153 : decode cX10_straws 153 = .ok (.iadd, 1) := by decide +kernel
theorem dX10_straws_154 : decode cX10_straws 154 = .ok (.laload, 1) := by decide +kernel
theorem dX10_straws_155 : decode cX10_straws 155 = .ok (.invokestatic 117, 3) := by decide +kernel
theorem dX10_straws_158 : decode cX10_straws 158 = .ok (.ifCond .eq 7, 3) := by decide +kernel
theorem dX10_straws_161 : decode cX10_straws 161 = .ok (.iconst 1, 1) := by decide +kernel
theorem dX10_straws_162 : decode cX10_straws 162 = .ok (.goto 4, 3) := by decide +kernel
theorem dX10_straws_165 : decode cX10_straws 165 = .ok (.iconst 0, 1) := by decide +kernel
theorem dX10_straws_166 : decode cX10_straws 166 = .ok (.istore 5, 2) := by decide +kernel
theorem dX10_straws_168 : decode cX10_straws 168 = .ok (.iload 5, 2) := by decide +kernel
theorem dX10_straws_170 : decode cX10_straws 170 = .ok (.ifCond .eq 38, 3) := by decide +kernel
theorem dX10_straws_173 : decode cX10_straws 173 = .ok (.aload_n 0, 1) := by decide +kernel
theorem dX10_straws_174 : decode cX10_straws 174 = .ok (.aload_n 0, 1) := by decide +kernel
theorem dX10_straws_175 : decode cX10_straws 175 = .ok (.getfield 82, 3) := by decide +kernel
theorem dX10_straws_178 : decode cX10_straws 178 = .ok (.iload 6, 2) := by decide +kernel
theorem dX10_straws_180 : decode cX10_straws 180 = .ok (.laload, 1) := by decide +kernel
theorem dX10_straws_181 : decode cX10_straws 181 = .ok (.l2i, 1) := by decide +kernel
theorem dX10_straws_182 : decode cX10_straws 182 = .ok (.aload_n 0, 1) := by decide +kernel
theorem dX10_straws_183 : decode cX10_straws 183 = .ok (.getfield 82, 3) := by decide +kernel
theorem dX10_straws_186 : decode cX10_straws 186 = .ok (.iload 6, 2) := by decide +kernel
theorem dX10_straws_188 : decode cX10_straws 188 = .ok (.iconst 1, 1) := by decide +kernel
theorem dX10_straws_189 : decode cX10_straws 189 = .ok (.iadd, 1) := by decide +kernel
theorem dX10_straws_190 : decode cX10_straws 190 = .ok (.laload, 1) := by decide +kernel
theorem dX10_straws_191 : decode cX10_straws 191 = .ok (.l2i, 1) := by decide +kernel
theorem dX10_straws_192 : decode cX10_straws 192 = .ok (.aload_n 0, 1) := by decide +kernel
theorem dX10_straws_193 : decode cX10_straws 193 = .ok (.getfield 82, 3) := by decide +kernel
theorem dX10_straws_196 : decode cX10_straws 196 = .ok (.iload 6, 2) := by decide +kernel
theorem dX10_straws_198 : decode cX10_straws 198 = .ok (.iconst 2, 1) := by decide +kernel
theorem dX10_straws_199 : decode cX10_straws 199 = .ok (.iadd, 1) := by decide +kernel
theorem dX10_straws_200 : decode cX10_straws 200 = .ok (.laload, 1) := by decide +kernel
theorem dX10_straws_201 : decode cX10_straws 201 = .ok (.l2i, 1) := by decide +kernel
theorem dX10_straws_202 : decode cX10_straws 202 = .ok (.invokevirtual 120, 3) := by decide +kernel
theorem dX10_straws_205 : decode cX10_straws 205 = .ok (.iinc 4 1, 3) := by decide +kernel
theorem dX10_straws_208 : decode cX10_straws 208 = .ok (.goto (-139), 3) := by decide +kernel
theorem dX10_straws_211 : decode cX10_straws 211 = .ok (.iload 4, 2) := by decide +kernel
theorem dX10_straws_213 : decode cX10_straws 213 = .ok (.ireturn, 1) := by decide +kernel
theorem dX10_placeOf_0 : decode cX10_placeOf 0 = .ok (.iload_n 2, 1) := by decide +kernel
theorem dX10_placeOf_1 : decode cX10_placeOf 1 = .ok (.i2l, 1) := by decide +kernel
theorem dX10_placeOf_2 : decode cX10_placeOf 2 = .ok (.lconst 0, 1) := by decide +kernel
theorem dX10_placeOf_3 : decode cX10_placeOf 3 = .ok (.ldc2_w 128, 3) := by decide +kernel
theorem dX10_placeOf_6 : decode cX10_placeOf 6 = .ok (.invokestatic 105, 3) := by decide +kernel
theorem dX10_placeOf_9 : decode cX10_placeOf 9 = .ok (.ifCond .eq 22, 3) := by decide +kernel
theorem dX10_placeOf_12 : decode cX10_placeOf 12 = .ok (.aload_n 0, 1) := by decide +kernel
theorem dX10_placeOf_13 : decode cX10_placeOf 13 = .ok (.iload_n 1, 1) := by decide +kernel
theorem dX10_placeOf_14 : decode cX10_placeOf 14 = .ok (.invokevirtual 130, 3) := by decide +kernel
theorem dX10_placeOf_17 : decode cX10_placeOf 17 = .ok (.ifCond .eq 12, 3) := by decide +kernel
theorem dX10_placeOf_20 : decode cX10_placeOf 20 = .ok (.bipush 8, 2) := by decide +kernel
theorem dX10_placeOf_22 : decode cX10_placeOf 22 = .ok (.iload_n 1, 1) := by decide +kernel
theorem dX10_placeOf_23 : decode cX10_placeOf 23 = .ok (.imul, 1) := by decide +kernel
theorem dX10_placeOf_24 : decode cX10_placeOf 24 = .ok (.iload_n 2, 1) := by decide +kernel
theorem dX10_placeOf_25 : decode cX10_placeOf 25 = .ok (.iadd, 1) := by decide +kernel
theorem dX10_placeOf_26 : decode cX10_placeOf 26 = .ok (.goto 4, 3) := by decide +kernel
theorem dX10_placeOf_29 : decode cX10_placeOf 29 = .ok (.iconst (-1), 1) := by decide +kernel
theorem dX10_placeOf_30 : decode cX10_placeOf 30 = .ok (.ireturn, 1) := by decide +kernel
theorem dX10_placeOf_31 : decode cX10_placeOf 31 = .ok (.iload_n 1, 1) := by decide +kernel
theorem dX10_placeOf_32 : decode cX10_placeOf 32 = .ok (.ifCond .ne 27, 3) := by decide +kernel
theorem dX10_placeOf_35 : decode cX10_placeOf 35 = .ok (.iload_n 2, 1) := by decide +kernel
theorem dX10_placeOf_36 : decode cX10_placeOf 36 = .ok (.i2l, 1) := by decide +kernel
theorem dX10_placeOf_37 : decode cX10_placeOf 37 = .ok (.ldc2_w 133, 3) := by decide +kernel
theorem dX10_placeOf_40 : decode cX10_placeOf 40 = .ok (.ldc2_w 135, 3) := by decide +kernel
theorem dX10_placeOf_43 : decode cX10_placeOf 43 = .ok (.invokestatic 105, 3) := by decide +kernel
theorem dX10_placeOf_46 : decode cX10_placeOf 46 = .ok (.ifCond .eq 13, 3) := by decide +kernel
theorem dX10_placeOf_49 : decode cX10_placeOf 49 = .ok (.bipush 24, 2) := by decide +kernel
theorem dX10_placeOf_51 : decode cX10_placeOf 51 = .ok (.iload_n 2, 1) := by decide +kernel
theorem dX10_placeOf_52 : decode cX10_placeOf 52 = .ok (.iadd, 1) := by decide +kernel
theorem dX10_placeOf_53 : decode cX10_placeOf 53 = .ok (.bipush 8, 2) := by decide +kernel
theorem dX10_placeOf_55 : decode cX10_placeOf 55 = .ok (.isub, 1) := by decide +kernel
theorem dX10_placeOf_56 : decode cX10_placeOf 56 = .ok (.goto 4, 3) := by decide +kernel
theorem dX10_placeOf_59 : decode cX10_placeOf 59 = .ok (.iconst (-1), 1) := by decide +kernel
theorem dX10_placeOf_60 : decode cX10_placeOf 60 = .ok (.ireturn, 1) := by decide +kernel
theorem dX10_mayBecome_0 : decode cX10_mayBecome 0 = .ok (.iload_n 0, 1) := by decide +kernel
theorem dX10_mayBecome_1 : decode cX10_mayBecome 1 = .ok (.tableswitch 145 0 11 #[63, 73, 145, 83, 93, 103, 113, 145, 125, 145, 125, 135], 63) := by decide +kernel
theorem dX10_mayBecome_64 : decode cX10_mayBecome 64 = .ok (.iload_n 1, 1) := by decide +kernel
theorem dX10_mayBecome_65 : decode cX10_mayBecome 65 = .ok (.i2l, 1) := by decide +kernel
theorem dX10_mayBecome_66 : decode cX10_mayBecome 66 = .ok (.lconst 0, 1) := by decide +kernel
theorem dX10_mayBecome_67 : decode cX10_mayBecome 67 = .ok (.ldc2_w 109, 3) := by decide +kernel
theorem dX10_mayBecome_70 : decode cX10_mayBecome 70 = .ok (.invokestatic 105, 3) := by decide +kernel
theorem dX10_mayBecome_73 : decode cX10_mayBecome 73 = .ok (.ireturn, 1) := by decide +kernel
theorem dX10_mayBecome_74 : decode cX10_mayBecome 74 = .ok (.iload_n 1, 1) := by decide +kernel
theorem dX10_mayBecome_75 : decode cX10_mayBecome 75 = .ok (.i2l, 1) := by decide +kernel
theorem dX10_mayBecome_76 : decode cX10_mayBecome 76 = .ok (.lconst 1, 1) := by decide +kernel
theorem dX10_mayBecome_77 : decode cX10_mayBecome 77 = .ok (.ldc2_w 111, 3) := by decide +kernel
theorem dX10_mayBecome_80 : decode cX10_mayBecome 80 = .ok (.invokestatic 105, 3) := by decide +kernel
theorem dX10_mayBecome_83 : decode cX10_mayBecome 83 = .ok (.ireturn, 1) := by decide +kernel
theorem dX10_mayBecome_84 : decode cX10_mayBecome 84 = .ok (.iload_n 1, 1) := by decide +kernel
theorem dX10_mayBecome_85 : decode cX10_mayBecome 85 = .ok (.i2l, 1) := by decide +kernel
theorem dX10_mayBecome_86 : decode cX10_mayBecome 86 = .ok (.lconst 1, 1) := by decide +kernel
theorem dX10_mayBecome_87 : decode cX10_mayBecome 87 = .ok (.ldc2_w 137, 3) := by decide +kernel
theorem dX10_mayBecome_90 : decode cX10_mayBecome 90 = .ok (.invokestatic 105, 3) := by decide +kernel
theorem dX10_mayBecome_93 : decode cX10_mayBecome 93 = .ok (.ireturn, 1) := by decide +kernel
theorem dX10_mayBecome_94 : decode cX10_mayBecome 94 = .ok (.iload_n 1, 1) := by decide +kernel
theorem dX10_mayBecome_95 : decode cX10_mayBecome 95 = .ok (.i2l, 1) := by decide +kernel
theorem dX10_mayBecome_96 : decode cX10_mayBecome 96 = .ok (.lconst 1, 1) := by decide +kernel
theorem dX10_mayBecome_97 : decode cX10_mayBecome 97 = .ok (.ldc2_w 139, 3) := by decide +kernel
theorem dX10_mayBecome_100 : decode cX10_mayBecome 100 = .ok (.invokestatic 105, 3) := by decide +kernel
theorem dX10_mayBecome_103 : decode cX10_mayBecome 103 = .ok (.ireturn, 1) := by decide +kernel
theorem dX10_mayBecome_104 : decode cX10_mayBecome 104 = .ok (.iload_n 1, 1) := by decide +kernel
theorem dX10_mayBecome_105 : decode cX10_mayBecome 105 = .ok (.i2l, 1) := by decide +kernel
theorem dX10_mayBecome_106 : decode cX10_mayBecome 106 = .ok (.lconst 0, 1) := by decide +kernel
theorem dX10_mayBecome_107 : decode cX10_mayBecome 107 = .ok (.ldc2_w 139, 3) := by decide +kernel
theorem dX10_mayBecome_110 : decode cX10_mayBecome 110 = .ok (.invokestatic 105, 3) := by decide +kernel
theorem dX10_mayBecome_113 : decode cX10_mayBecome 113 = .ok (.ireturn, 1) := by decide +kernel
theorem dX10_mayBecome_114 : decode cX10_mayBecome 114 = .ok (.iload_n 1, 1) := by decide +kernel
theorem dX10_mayBecome_115 : decode cX10_mayBecome 115 = .ok (.i2l, 1) := by decide +kernel
theorem dX10_mayBecome_116 : decode cX10_mayBecome 116 = .ok (.ldc2_w 141, 3) := by decide +kernel
theorem dX10_mayBecome_119 : decode cX10_mayBecome 119 = .ok (.ldc2_w 113, 3) := by decide +kernel
theorem dX10_mayBecome_122 : decode cX10_mayBecome 122 = .ok (.invokestatic 105, 3) := by decide +kernel
theorem dX10_mayBecome_125 : decode cX10_mayBecome 125 = .ok (.ireturn, 1) := by decide +kernel
theorem dX10_mayBecome_126 : decode cX10_mayBecome 126 = .ok (.iload_n 1, 1) := by decide +kernel
theorem dX10_mayBecome_127 : decode cX10_mayBecome 127 = .ok (.i2l, 1) := by decide +kernel
theorem dX10_mayBecome_128 : decode cX10_mayBecome 128 = .ok (.lconst 0, 1) := by decide +kernel
theorem dX10_mayBecome_129 : decode cX10_mayBecome 129 = .ok (.ldc2_w 111, 3) := by decide +kernel
theorem dX10_mayBecome_132 : decode cX10_mayBecome 132 = .ok (.invokestatic 105, 3) := by decide +kernel
theorem dX10_mayBecome_135 : decode cX10_mayBecome 135 = .ok (.ireturn, 1) := by decide +kernel
theorem dX10_mayBecome_136 : decode cX10_mayBecome 136 = .ok (.iload_n 1, 1) := by decide +kernel
theorem dX10_mayBecome_137 : decode cX10_mayBecome 137 = .ok (.i2l, 1) := by decide +kernel
theorem dX10_mayBecome_138 : decode cX10_mayBecome 138 = .ok (.lconst 0, 1) := by decide +kernel
theorem dX10_mayBecome_139 : decode cX10_mayBecome 139 = .ok (.ldc2_w 143, 3) := by decide +kernel
theorem dX10_mayBecome_142 : decode cX10_mayBecome 142 = .ok (.invokestatic 105, 3) := by decide +kernel
theorem dX10_mayBecome_145 : decode cX10_mayBecome 145 = .ok (.ireturn, 1) := by decide +kernel
theorem dX10_mayBecome_146 : decode cX10_mayBecome 146 = .ok (.iload_n 1, 1) := by decide +kernel
theorem dX10_mayBecome_147 : decode cX10_mayBecome 147 = .ok (.i2l, 1) := by decide +kernel
theorem dX10_mayBecome_148 : decode cX10_mayBecome 148 = .ok (.lconst 0, 1) := by decide +kernel
theorem dX10_mayBecome_149 : decode cX10_mayBecome 149 = .ok (.ldc2_w 113, 3) := by decide +kernel
theorem dX10_mayBecome_152 : decode cX10_mayBecome 152 = .ok (.invokestatic 105, 3) := by decide +kernel
theorem dX10_mayBecome_155 : decode cX10_mayBecome 155 = .ok (.ireturn, 1) := by decide +kernel
theorem dX10_mend_0 : decode cX10_mend 0 = .ok (.aload_n 0, 1) := by decide +kernel
theorem dX10_mend_1 : decode cX10_mend 1 = .ok (.iload_n 1, 1) := by decide +kernel
theorem dX10_mend_2 : decode cX10_mend 2 = .ok (.iload_n 2, 1) := by decide +kernel
theorem dX10_mend_3 : decode cX10_mend 3 = .ok (.invokevirtual 145, 3) := by decide +kernel
theorem dX10_mend_6 : decode cX10_mend 6 = .ok (.istore 4, 2) := by decide +kernel
theorem dX10_mend_8 : decode cX10_mend 8 = .ok (.iload 4, 2) := by decide +kernel
theorem dX10_mend_10 : decode cX10_mend 10 = .ok (.ifCond .lt 21, 3) := by decide +kernel
theorem dX10_mend_13 : decode cX10_mend 13 = .ok (.iload_n 2, 1) := by decide +kernel
theorem dX10_mend_14 : decode cX10_mend 14 = .ok (.iload_n 3, 1) := by decide +kernel
theorem dX10_mend_15 : decode cX10_mend 15 = .ok (.invokestatic 149, 3) := by decide +kernel
theorem dX10_mend_18 : decode cX10_mend 18 = .ok (.ifCond .eq 13, 3) := by decide +kernel
theorem dX10_mend_21 : decode cX10_mend 21 = .ok (.aload_n 0, 1) := by decide +kernel
theorem dX10_mend_22 : decode cX10_mend 22 = .ok (.iload 4, 2) := by decide +kernel
theorem dX10_mend_24 : decode cX10_mend 24 = .ok (.iload_n 3, 1) := by decide +kernel
theorem dX10_mend_25 : decode cX10_mend 25 = .ok (.invokevirtual 153, 3) := by decide +kernel
theorem dX10_mend_28 : decode cX10_mend 28 = .ok (.goto 5, 3) := by decide +kernel
theorem dX10_mend_31 : decode cX10_mend 31 = .ok (.ldc 156, 2) := by decide +kernel
theorem dX10_mend_33 : decode cX10_mend 33 = .ok (.ireturn, 1) := by decide +kernel
theorem dX10_of_0 : decode cX10_of 0 = .ok (.aload_n 0, 1) := by decide +kernel
theorem dX10_of_1 : decode cX10_of 1 = .ok (.iload_n 1, 1) := by decide +kernel
theorem dX10_of_2 : decode cX10_of 2 = .ok (.iload_n 2, 1) := by decide +kernel
theorem dX10_of_3 : decode cX10_of 3 = .ok (.invokevirtual 145, 3) := by decide +kernel
theorem dX10_of_6 : decode cX10_of 6 = .ok (.istore_n 3, 1) := by decide +kernel
theorem dX10_of_7 : decode cX10_of 7 = .ok (.iload_n 3, 1) := by decide +kernel
theorem dX10_of_8 : decode cX10_of 8 = .ok (.ifCond .lt 10, 3) := by decide +kernel
theorem dX10_of_11 : decode cX10_of 11 = .ok (.aload_n 0, 1) := by decide +kernel
theorem dX10_of_12 : decode cX10_of 12 = .ok (.getfield 9, 3) := by decide +kernel
theorem dX10_of_15 : decode cX10_of 15 = .ok (.iload_n 3, 1) := by decide +kernel
theorem dX10_of_16 : decode cX10_of 16 = .ok (.iaload, 1) := by decide +kernel
theorem dX10_of_17 : decode cX10_of 17 = .ok (.ireturn, 1) := by decide +kernel
theorem dX10_of_18 : decode cX10_of 18 = .ok (.iload_n 1, 1) := by decide +kernel
theorem dX10_of_19 : decode cX10_of 19 = .ok (.ifCond .eq 6, 3) := by decide +kernel
theorem dX10_of_22 : decode cX10_of 22 = .ok (.ldc 156, 2) := by decide +kernel
theorem dX10_of_24 : decode cX10_of 24 = .ok (.ireturn, 1) := by decide +kernel
theorem dX10_of_25 : decode cX10_of 25 = .ok (.iload_n 2, 1) := by decide +kernel
theorem dX10_of_26 : decode cX10_of 26 = .ok (.bipush 12, 2) := by decide +kernel
theorem dX10_of_28 : decode cX10_of 28 = .ok (.if_icmp .ne 10, 3) := by decide +kernel
theorem dX10_of_31 : decode cX10_of 31 = .ok (.aload_n 0, 1) := by decide +kernel
theorem dX10_of_32 : decode cX10_of 32 = .ok (.getfield 93, 3) := by decide +kernel
theorem dX10_of_35 : decode cX10_of 35 = .ok (.goto 31, 3) := by decide +kernel
theorem dX10_of_38 : decode cX10_of 38 = .ok (.iload_n 2, 1) := by decide +kernel
theorem dX10_of_39 : decode cX10_of 39 = .ok (.bipush 13, 2) := by decide +kernel
theorem dX10_of_41 : decode cX10_of 41 = .ok (.if_icmp .ne 10, 3) := by decide +kernel
theorem dX10_of_44 : decode cX10_of 44 = .ok (.aload_n 0, 1) := by decide +kernel
theorem dX10_of_45 : decode cX10_of 45 = .ok (.getfield 157, 3) := by decide +kernel
theorem dX10_of_48 : decode cX10_of 48 = .ok (.goto 18, 3) := by decide +kernel
theorem dX10_of_51 : decode cX10_of 51 = .ok (.iload_n 2, 1) := by decide +kernel
theorem dX10_of_52 : decode cX10_of 52 = .ok (.bipush 14, 2) := by decide +kernel
theorem dX10_of_54 : decode cX10_of 54 = .ok (.if_icmp .ne 10, 3) := by decide +kernel
theorem dX10_of_57 : decode cX10_of 57 = .ok (.aload_n 0, 1) := by decide +kernel
theorem dX10_of_58 : decode cX10_of 58 = .ok (.getfield 160, 3) := by decide +kernel
theorem dX10_of_61 : decode cX10_of 61 = .ok (.goto 5, 3) := by decide +kernel
theorem dX10_of_64 : decode cX10_of 64 = .ok (.ldc 156, 2) := by decide +kernel
theorem dX10_of_66 : decode cX10_of 66 = .ok (.ireturn, 1) := by decide +kernel
theorem dX10_feed_0 : decode cX10_feed 0 = .ok (.iload_n 1, 1) := by decide +kernel
theorem dX10_feed_1 : decode cX10_feed 1 = .ok (.i2l, 1) := by decide +kernel
theorem dX10_feed_2 : decode cX10_feed 2 = .ok (.lconst 0, 1) := by decide +kernel
theorem dX10_feed_3 : decode cX10_feed 3 = .ok (.ldc2_w 163, 3) := by decide +kernel
theorem dX10_feed_6 : decode cX10_feed 6 = .ok (.invokestatic 105, 3) := by decide +kernel
theorem dX10_feed_9 : decode cX10_feed 9 = .ok (.ifCond .ne 5, 3) := by decide +kernel
theorem dX10_feed_12 : decode cX10_feed 12 = .ok (.iconst (-1), 1) := by decide +kernel
theorem dX10_feed_13 : decode cX10_feed 13 = .ok (.ireturn, 1) := by decide +kernel
theorem dX10_feed_14 : decode cX10_feed 14 = .ok (.aload_n 0, 1) := by decide +kernel
theorem dX10_feed_15 : decode cX10_feed 15 = .ok (.getfield 165, 3) := by decide +kernel
theorem dX10_feed_18 : decode cX10_feed 18 = .ok (.bipush 120, 2) := by decide +kernel
theorem dX10_feed_20 : decode cX10_feed 20 = .ok (.if_icmp .ne 6, 3) := by decide +kernel
theorem dX10_feed_23 : decode cX10_feed 23 = .ok (.bipush (-3), 2) := by decide +kernel
theorem dX10_feed_25 : decode cX10_feed 25 = .ok (.ireturn, 1) := by decide +kernel
theorem dX10_feed_26 : decode cX10_feed 26 = .ok (.aload_n 0, 1) := by decide +kernel
theorem dX10_feed_27 : decode cX10_feed 27 = .ok (.getfield 25, 3) := by decide +kernel
theorem dX10_feed_30 : decode cX10_feed 30 = .ok (.aload_n 0, 1) := by decide +kernel
theorem dX10_feed_31 : decode cX10_feed 31 = .ok (.getfield 165, 3) := by decide +kernel
theorem dX10_feed_34 : decode cX10_feed 34 = .ok (.iload_n 1, 1) := by decide +kernel
theorem dX10_feed_35 : decode cX10_feed 35 = .ok (.iastore, 1) := by decide +kernel
theorem dX10_feed_36 : decode cX10_feed 36 = .ok (.aload_n 0, 1) := by decide +kernel
theorem dX10_feed_37 : decode cX10_feed 37 = .ok (.dup, 1) := by decide +kernel
theorem dX10_feed_38 : decode cX10_feed 38 = .ok (.getfield 165, 3) := by decide +kernel
theorem dX10_feed_41 : decode cX10_feed 41 = .ok (.iconst 1, 1) := by decide +kernel
theorem dX10_feed_42 : decode cX10_feed 42 = .ok (.iadd, 1) := by decide +kernel
theorem dX10_feed_43 : decode cX10_feed 43 = .ok (.putfield 165, 3) := by decide +kernel
theorem dX10_feed_46 : decode cX10_feed 46 = .ok (.aload_n 0, 1) := by decide +kernel
theorem dX10_feed_47 : decode cX10_feed 47 = .ok (.getfield 165, 3) := by decide +kernel
theorem dX10_feed_50 : decode cX10_feed 50 = .ok (.ireturn, 1) := by decide +kernel
theorem dX10_byteAt_0 : decode cX10_byteAt 0 = .ok (.aload_n 0, 1) := by decide +kernel
theorem dX10_byteAt_1 : decode cX10_byteAt 1 = .ok (.getfield 168, 3) := by decide +kernel
theorem dX10_byteAt_4 : decode cX10_byteAt 4 = .ok (.aload_n 0, 1) := by decide +kernel
theorem dX10_byteAt_5 : decode cX10_byteAt 5 = .ok (.getfield 171, 3) := by decide +kernel
theorem dX10_byteAt_8 : decode cX10_byteAt 8 = .ok (.if_icmp .ge 39, 3) := by decide +kernel
theorem dX10_byteAt_11 : decode cX10_byteAt 11 = .ok (.aload_n 0, 1) := by decide +kernel
theorem dX10_byteAt_12 : decode cX10_byteAt 12 = .ok (.getfield 174, 3) := by decide +kernel
theorem dX10_byteAt_15 : decode cX10_byteAt 15 = .ok (.ifCond .ge 15, 3) := by decide +kernel
theorem dX10_byteAt_18 : decode cX10_byteAt 18 = .ok (.aload_n 0, 1) := by decide +kernel
theorem dX10_byteAt_19 : decode cX10_byteAt 19 = .ok (.getfield 25, 3) := by decide +kernel
theorem dX10_byteAt_22 : decode cX10_byteAt 22 = .ok (.aload_n 0, 1) := by decide +kernel
theorem dX10_byteAt_23 : decode cX10_byteAt 23 = .ok (.getfield 168, 3) := by decide +kernel
theorem dX10_byteAt_26 : decode cX10_byteAt 26 = .ok (.iaload, 1) := by decide +kernel
theorem dX10_byteAt_27 : decode cX10_byteAt 27 = .ok (.goto 21, 3) := by decide +kernel
theorem dX10_byteAt_30 : decode cX10_byteAt 30 = .ok (.aload_n 0, 1) := by decide +kernel
theorem dX10_byteAt_31 : decode cX10_byteAt 31 = .ok (.getfield 28, 3) := by decide +kernel
theorem dX10_byteAt_34 : decode cX10_byteAt 34 = .ok (.aload_n 0, 1) := by decide +kernel
theorem dX10_byteAt_35 : decode cX10_byteAt 35 = .ok (.getfield 174, 3) := by decide +kernel
theorem dX10_byteAt_38 : decode cX10_byteAt 38 = .ok (.aload_n 0, 1) := by decide +kernel
theorem dX10_byteAt_39 : decode cX10_byteAt 39 = .ok (.getfield 168, 3) := by decide +kernel
theorem dX10_byteAt_42 : decode cX10_byteAt 42 = .ok (.iadd, 1) := by decide +kernel
theorem dX10_byteAt_43 : decode cX10_byteAt 43 = .ok (.iaload, 1) := by decide +kernel
theorem dX10_byteAt_44 : decode cX10_byteAt 44 = .ok (.goto 4, 3) := by decide +kernel
theorem dX10_byteAt_47 : decode cX10_byteAt 47 = .ok (.iconst 0, 1) := by decide +kernel
theorem dX10_byteAt_48 : decode cX10_byteAt 48 = .ok (.ireturn, 1) := by decide +kernel
theorem dX10_wrong_0 : decode cX10_wrong 0 = .ok (.aload_n 0, 1) := by decide +kernel
theorem dX10_wrong_1 : decode cX10_wrong 1 = .ok (.aload_n 0, 1) := by decide +kernel
theorem dX10_wrong_2 : decode cX10_wrong 2 = .ok (.getfield 177, 3) := by decide +kernel
theorem dX10_wrong_5 : decode cX10_wrong 5 = .ok (.ifCond .ge 10, 3) := by decide +kernel
theorem dX10_wrong_8 : decode cX10_wrong 8 = .ok (.aload_n 0, 1) := by decide +kernel
theorem dX10_wrong_9 : decode cX10_wrong 9 = .ok (.getfield 168, 3) := by decide +kernel
theorem dX10_wrong_12 : decode cX10_wrong 12 = .ok (.goto 7, 3) := by decide +kernel
theorem dX10_wrong_15 : decode cX10_wrong 15 = .ok (.aload_n 0, 1) := by decide +kernel
theorem dX10_wrong_16 : decode cX10_wrong 16 = .ok (.getfield 177, 3) := by decide +kernel
theorem dX10_wrong_19 : decode cX10_wrong 19 = .ok (.putfield 177, 3) := by decide +kernel
theorem dX10_wrong_22 : decode cX10_wrong 22 = .ok (.iconst 0, 1) := by decide +kernel
theorem dX10_wrong_23 : decode cX10_wrong 23 = .ok (.ireturn, 1) := by decide +kernel
theorem dX10_takes_0 : decode cX10_takes 0 = .ok (.aload_n 0, 1) := by decide +kernel
theorem dX10_takes_1 : decode cX10_takes 1 = .ok (.getfield 177, 3) := by decide +kernel
theorem dX10_takes_4 : decode cX10_takes 4 = .ok (.ifCond .ge 11, 3) := by decide +kernel
theorem dX10_takes_7 : decode cX10_takes 7 = .ok (.aload_n 0, 1) := by decide +kernel
theorem dX10_takes_8 : decode cX10_takes 8 = .ok (.invokevirtual 180, 3) := by decide +kernel
theorem dX10_takes_11 : decode cX10_takes 11 = .ok (.iload_n 1, 1) := by decide +kernel
theorem dX10_takes_12 : decode cX10_takes 12 = .ok (.if_icmp .eq 5, 3) := by decide +kernel
theorem dX10_takes_15 : decode cX10_takes 15 = .ok (.iconst 0, 1) := by decide +kernel
theorem dX10_takes_16 : decode cX10_takes 16 = .ok (.ireturn, 1) := by decide +kernel
theorem dX10_takes_17 : decode cX10_takes 17 = .ok (.aload_n 0, 1) := by decide +kernel
theorem dX10_takes_18 : decode cX10_takes 18 = .ok (.dup, 1) := by decide +kernel
theorem dX10_takes_19 : decode cX10_takes 19 = .ok (.getfield 168, 3) := by decide +kernel
theorem dX10_takes_22 : decode cX10_takes 22 = .ok (.iconst 1, 1) := by decide +kernel
theorem dX10_takes_23 : decode cX10_takes 23 = .ok (.iadd, 1) := by decide +kernel
theorem dX10_takes_24 : decode cX10_takes 24 = .ok (.putfield 168, 3) := by decide +kernel
theorem dX10_takes_27 : decode cX10_takes 27 = .ok (.iconst 1, 1) := by decide +kernel
theorem dX10_takes_28 : decode cX10_takes 28 = .ok (.ireturn, 1) := by decide +kernel
theorem dX10_either_0 : decode cX10_either 0 = .ok (.aload_n 0, 1) := by decide +kernel
theorem dX10_either_1 : decode cX10_either 1 = .ok (.invokevirtual 184, 3) := by decide +kernel
theorem dX10_either_4 : decode cX10_either 4 = .ok (.istore_n 1, 1) := by decide +kernel
theorem dX10_either_5 : decode cX10_either 5 = .ok (.aload_n 0, 1) := by decide +kernel
theorem dX10_either_6 : decode cX10_either 6 = .ok (.bipush 124, 2) := by decide +kernel
theorem dX10_either_8 : decode cX10_either 8 = .ok (.invokevirtual 187, 3) := by decide +kernel
theorem dX10_either_11 : decode cX10_either 11 = .ok (.ifCond .eq 25, 3) := by decide +kernel
theorem dX10_either_14 : decode cX10_either 14 = .ok (.aload_n 0, 1) := by decide +kernel
theorem dX10_either_15 : decode cX10_either 15 = .ok (.invokevirtual 184, 3) := by decide +kernel
theorem dX10_either_18 : decode cX10_either 18 = .ok (.istore_n 2, 1) := by decide +kernel
theorem dX10_either_19 : decode cX10_either 19 = .ok (.iload_n 1, 1) := by decide +kernel
theorem dX10_either_20 : decode cX10_either 20 = .ok (.ifCond .ne 7, 3) := by decide +kernel
theorem dX10_either_23 : decode cX10_either 23 = .ok (.iload_n 2, 1) := by decide +kernel
theorem dX10_either_24 : decode cX10_either 24 = .ok (.ifCond .eq 7, 3) := by decide +kernel
theorem dX10_either_27 : decode cX10_either 27 = .ok (.iconst 1, 1) := by decide +kernel
theorem dX10_either_28 : decode cX10_either 28 = .ok (.goto 4, 3) := by decide +kernel
theorem dX10_either_31 : decode cX10_either 31 = .ok (.iconst 0, 1) := by decide +kernel
theorem dX10_either_32 : decode cX10_either 32 = .ok (.istore_n 1, 1) := by decide +kernel
theorem dX10_either_33 : decode cX10_either 33 = .ok (.goto (-28), 3) := by decide +kernel
theorem dX10_either_36 : decode cX10_either 36 = .ok (.iload_n 1, 1) := by decide +kernel
theorem dX10_either_37 : decode cX10_either 37 = .ok (.ireturn, 1) := by decide +kernel
theorem dX10_bothOf_0 : decode cX10_bothOf 0 = .ok (.aload_n 0, 1) := by decide +kernel
theorem dX10_bothOf_1 : decode cX10_bothOf 1 = .ok (.invokevirtual 190, 3) := by decide +kernel
theorem dX10_bothOf_4 : decode cX10_bothOf 4 = .ok (.istore_n 1, 1) := by decide +kernel
theorem dX10_bothOf_5 : decode cX10_bothOf 5 = .ok (.aload_n 0, 1) := by decide +kernel
theorem dX10_bothOf_6 : decode cX10_bothOf 6 = .ok (.bipush 38, 2) := by decide +kernel
theorem dX10_bothOf_8 : decode cX10_bothOf 8 = .ok (.invokevirtual 187, 3) := by decide +kernel
theorem dX10_bothOf_11 : decode cX10_bothOf 11 = .ok (.ifCond .eq 25, 3) := by decide +kernel
theorem dX10_bothOf_14 : decode cX10_bothOf 14 = .ok (.aload_n 0, 1) := by decide +kernel
theorem dX10_bothOf_15 : decode cX10_bothOf 15 = .ok (.invokevirtual 190, 3) := by decide +kernel
theorem dX10_bothOf_18 : decode cX10_bothOf 18 = .ok (.istore_n 2, 1) := by decide +kernel
theorem dX10_bothOf_19 : decode cX10_bothOf 19 = .ok (.iload_n 1, 1) := by decide +kernel
theorem dX10_bothOf_20 : decode cX10_bothOf 20 = .ok (.ifCond .eq 11, 3) := by decide +kernel
theorem dX10_bothOf_23 : decode cX10_bothOf 23 = .ok (.iload_n 2, 1) := by decide +kernel
theorem dX10_bothOf_24 : decode cX10_bothOf 24 = .ok (.ifCond .eq 7, 3) := by decide +kernel
theorem dX10_bothOf_27 : decode cX10_bothOf 27 = .ok (.iconst 1, 1) := by decide +kernel
theorem dX10_bothOf_28 : decode cX10_bothOf 28 = .ok (.goto 4, 3) := by decide +kernel
theorem dX10_bothOf_31 : decode cX10_bothOf 31 = .ok (.iconst 0, 1) := by decide +kernel
theorem dX10_bothOf_32 : decode cX10_bothOf 32 = .ok (.istore_n 1, 1) := by decide +kernel
theorem dX10_bothOf_33 : decode cX10_bothOf 33 = .ok (.goto (-28), 3) := by decide +kernel
theorem dX10_bothOf_36 : decode cX10_bothOf 36 = .ok (.iload_n 1, 1) := by decide +kernel
theorem dX10_bothOf_37 : decode cX10_bothOf 37 = .ok (.ireturn, 1) := by decide +kernel
theorem dX10_compared_0 : decode cX10_compared 0 = .ok (.aload_n 0, 1) := by decide +kernel
theorem dX10_compared_1 : decode cX10_compared 1 = .ok (.invokevirtual 193, 3) := by decide +kernel
theorem dX10_compared_4 : decode cX10_compared 4 = .ok (.istore_n 1, 1) := by decide +kernel
theorem dX10_compared_5 : decode cX10_compared 5 = .ok (.aload_n 0, 1) := by decide +kernel
theorem dX10_compared_6 : decode cX10_compared 6 = .ok (.invokevirtual 180, 3) := by decide +kernel
theorem dX10_compared_9 : decode cX10_compared 9 = .ok (.istore_n 2, 1) := by decide +kernel
theorem dX10_compared_10 : decode cX10_compared 10 = .ok (.aload_n 0, 1) := by decide +kernel
theorem dX10_compared_11 : decode cX10_compared 11 = .ok (.getfield 177, 3) := by decide +kernel
theorem dX10_compared_14 : decode cX10_compared 14 = .ok (.ifCond .ge 21, 3) := by decide +kernel
theorem dX10_compared_17 : decode cX10_compared 17 = .ok (.iload_n 2, 1) := by decide +kernel
theorem dX10_compared_18 : decode cX10_compared 18 = .ok (.bipush 60, 2) := by decide +kernel
theorem dX10_compared_20 : decode cX10_compared 20 = .ok (.if_icmp .eq 17, 3) := by decide +kernel
theorem dX10_compared_23 : decode cX10_compared 23 = .ok (.iload_n 2, 1) := by decide +kernel
theorem dX10_compared_24 : decode cX10_compared 24 = .ok (.bipush 61, 2) := by decide +kernel
theorem dX10_compared_26 : decode cX10_compared 26 = .ok (.if_icmp .eq 11, 3) := by decide +kernel
theorem dX10_compared_29 : decode cX10_compared 29 = .ok (.iload_n 2, 1) := by decide +kernel
theorem dX10_compared_30 : decode cX10_compared 30 = .ok (.bipush 62, 2) := by decide +kernel
theorem dX10_compared_32 : decode cX10_compared 32 = .ok (.if_icmp .eq 5, 3) := by decide +kernel
theorem dX10_compared_35 : decode cX10_compared 35 = .ok (.iload_n 1, 1) := by decide +kernel
theorem dX10_compared_36 : decode cX10_compared 36 = .ok (.ireturn, 1) := by decide +kernel
theorem dX10_compared_37 : decode cX10_compared 37 = .ok (.aload_n 0, 1) := by decide +kernel
theorem dX10_compared_38 : decode cX10_compared 38 = .ok (.dup, 1) := by decide +kernel
theorem dX10_compared_39 : decode cX10_compared 39 = .ok (.getfield 168, 3) := by decide +kernel
theorem dX10_compared_42 : decode cX10_compared 42 = .ok (.iconst 1, 1) := by decide +kernel
theorem dX10_compared_43 : decode cX10_compared 43 = .ok (.iadd, 1) := by decide +kernel
theorem dX10_compared_44 : decode cX10_compared 44 = .ok (.putfield 168, 3) := by decide +kernel
theorem dX10_compared_47 : decode cX10_compared 47 = .ok (.aload_n 0, 1) := by decide +kernel
theorem dX10_compared_48 : decode cX10_compared 48 = .ok (.invokevirtual 193, 3) := by decide +kernel
theorem dX10_compared_51 : decode cX10_compared 51 = .ok (.istore_n 3, 1) := by decide +kernel
theorem dX10_compared_52 : decode cX10_compared 52 = .ok (.iload_n 2, 1) := by decide +kernel
theorem dX10_compared_53 : decode cX10_compared 53 = .ok (.bipush 60, 2) := by decide +kernel
theorem dX10_compared_55 : decode cX10_compared 55 = .ok (.if_icmp .ne 11, 3) := by decide +kernel
theorem dX10_compared_58 : decode cX10_compared 58 = .ok (.iload_n 1, 1) := by decide +kernel
theorem dX10_compared_59 : decode cX10_compared 59 = .ok (.iload_n 3, 1) := by decide +kernel
theorem dX10_compared_60 : decode cX10_compared 60 = .ok (.if_icmp .ge 29, 3) := by decide +kernel
theorem dX10_compared_63 : decode cX10_compared 63 = .ok (.goto 22, 3) := by decide +kernel
theorem dX10_compared_66 : decode cX10_compared 66 = .ok (.iload_n 2, 1) := by decide +kernel
theorem dX10_compared_67 : decode cX10_compared 67 = .ok (.bipush 61, 2) := by decide +kernel
theorem dX10_compared_69 : decode cX10_compared 69 = .ok (.if_icmp .ne 11, 3) := by decide +kernel
theorem dX10_compared_72 : decode cX10_compared 72 = .ok (.iload_n 1, 1) := by decide +kernel
theorem dX10_compared_73 : decode cX10_compared 73 = .ok (.iload_n 3, 1) := by decide +kernel
theorem dX10_compared_74 : decode cX10_compared 74 = .ok (.if_icmp .ne 15, 3) := by decide +kernel
theorem dX10_compared_77 : decode cX10_compared 77 = .ok (.goto 8, 3) := by decide +kernel
theorem dX10_compared_80 : decode cX10_compared 80 = .ok (.iload_n 1, 1) := by decide +kernel
theorem dX10_compared_81 : decode cX10_compared 81 = .ok (.iload_n 3, 1) := by decide +kernel
theorem dX10_compared_82 : decode cX10_compared 82 = .ok (.if_icmp .le 7, 3) := by decide +kernel
theorem dX10_compared_85 : decode cX10_compared 85 = .ok (.iconst 1, 1) := by decide +kernel
theorem dX10_compared_86 : decode cX10_compared 86 = .ok (.goto 4, 3) := by decide +kernel
theorem dX10_compared_89 : decode cX10_compared 89 = .ok (.iconst 0, 1) := by decide +kernel
theorem dX10_compared_90 : decode cX10_compared 90 = .ok (.ireturn, 1) := by decide +kernel
theorem dX10_sums_0 : decode cX10_sums 0 = .ok (.aload_n 0, 1) := by decide +kernel
theorem dX10_sums_1 : decode cX10_sums 1 = .ok (.invokevirtual 196, 3) := by decide +kernel
theorem dX10_sums_4 : decode cX10_sums 4 = .ok (.istore_n 1, 1) := by decide +kernel
theorem dX10_sums_5 : decode cX10_sums 5 = .ok (.aload_n 0, 1) := by decide +kernel
theorem dX10_sums_6 : decode cX10_sums 6 = .ok (.getfield 177, 3) := by decide +kernel
theorem dX10_sums_9 : decode cX10_sums 9 = .ok (.ifCond .ge 68, 3) := by decide +kernel
theorem dX10_sums_12 : decode cX10_sums 12 = .ok (.aload_n 0, 1) := by decide +kernel
theorem dX10_sums_13 : decode cX10_sums 13 = .ok (.invokevirtual 180, 3) := by decide +kernel
theorem dX10_sums_16 : decode cX10_sums 16 = .ok (.bipush 43, 2) := by decide +kernel
theorem dX10_sums_18 : decode cX10_sums 18 = .ok (.if_icmp .eq 12, 3) := by decide +kernel
theorem dX10_sums_21 : decode cX10_sums 21 = .ok (.aload_n 0, 1) := by decide +kernel
theorem dX10_sums_22 : decode cX10_sums 22 = .ok (.invokevirtual 180, 3) := by decide +kernel
theorem dX10_sums_25 : decode cX10_sums 25 = .ok (.bipush 45, 2) := by decide +kernel
theorem dX10_sums_27 : decode cX10_sums 27 = .ok (.if_icmp .ne 50, 3) := by decide +kernel
theorem dX10_sums_30 : decode cX10_sums 30 = .ok (.aload_n 0, 1) := by decide +kernel
theorem dX10_sums_31 : decode cX10_sums 31 = .ok (.invokevirtual 180, 3) := by decide +kernel
theorem dX10_sums_34 : decode cX10_sums 34 = .ok (.bipush 43, 2) := by decide +kernel
theorem dX10_sums_36 : decode cX10_sums 36 = .ok (.if_icmp .ne 7, 3) := by decide +kernel
theorem dX10_sums_39 : decode cX10_sums 39 = .ok (.iconst 1, 1) := by decide +kernel
theorem dX10_sums_40 : decode cX10_sums 40 = .ok (.goto 4, 3) := by decide +kernel
theorem dX10_sums_43 : decode cX10_sums 43 = .ok (.iconst 0, 1) := by decide +kernel
theorem dX10_sums_44 : decode cX10_sums 44 = .ok (.istore_n 2, 1) := by decide +kernel
theorem dX10_sums_45 : decode cX10_sums 45 = .ok (.aload_n 0, 1) := by decide +kernel
theorem dX10_sums_46 : decode cX10_sums 46 = .ok (.dup, 1) := by decide +kernel
theorem dX10_sums_47 : decode cX10_sums 47 = .ok (.getfield 168, 3) := by decide +kernel
theorem dX10_sums_50 : decode cX10_sums 50 = .ok (.iconst 1, 1) := by decide +kernel
theorem dX10_sums_51 : decode cX10_sums 51 = .ok (.iadd, 1) := by decide +kernel
theorem dX10_sums_52 : decode cX10_sums 52 = .ok (.putfield 168, 3) := by decide +kernel
theorem dX10_sums_55 : decode cX10_sums 55 = .ok (.aload_n 0, 1) := by decide +kernel
theorem dX10_sums_56 : decode cX10_sums 56 = .ok (.invokevirtual 196, 3) := by decide +kernel
theorem dX10_sums_59 : decode cX10_sums 59 = .ok (.istore_n 3, 1) := by decide +kernel
theorem dX10_sums_60 : decode cX10_sums 60 = .ok (.iload_n 2, 1) := by decide +kernel
theorem dX10_sums_61 : decode cX10_sums 61 = .ok (.ifCond .eq 9, 3) := by decide +kernel
theorem dX10_sums_64 : decode cX10_sums 64 = .ok (.iload_n 1, 1) := by decide +kernel
theorem dX10_sums_65 : decode cX10_sums 65 = .ok (.iload_n 3, 1) := by decide +kernel
theorem dX10_sums_66 : decode cX10_sums 66 = .ok (.iadd, 1) := by decide +kernel
theorem dX10_sums_67 : decode cX10_sums 67 = .ok (.goto 6, 3) := by decide +kernel
theorem dX10_sums_70 : decode cX10_sums 70 = .ok (.iload_n 1, 1) := by decide +kernel
theorem dX10_sums_71 : decode cX10_sums 71 = .ok (.iload_n 3, 1) := by decide +kernel
theorem dX10_sums_72 : decode cX10_sums 72 = .ok (.isub, 1) := by decide +kernel
theorem dX10_sums_73 : decode cX10_sums 73 = .ok (.istore_n 1, 1) := by decide +kernel
theorem dX10_sums_74 : decode cX10_sums 74 = .ok (.goto (-69), 3) := by decide +kernel
theorem dX10_sums_77 : decode cX10_sums 77 = .ok (.iload_n 1, 1) := by decide +kernel
theorem dX10_sums_78 : decode cX10_sums 78 = .ok (.ireturn, 1) := by decide +kernel
theorem dX10_product_0 : decode cX10_product 0 = .ok (.aload_n 0, 1) := by decide +kernel
theorem dX10_product_1 : decode cX10_product 1 = .ok (.invokevirtual 199, 3) := by decide +kernel
theorem dX10_product_4 : decode cX10_product 4 = .ok (.istore_n 1, 1) := by decide +kernel
theorem dX10_product_5 : decode cX10_product 5 = .ok (.aload_n 0, 1) := by decide +kernel
theorem dX10_product_6 : decode cX10_product 6 = .ok (.invokevirtual 180, 3) := by decide +kernel
theorem dX10_product_9 : decode cX10_product 9 = .ok (.istore_n 2, 1) := by decide +kernel
theorem dX10_product_10 : decode cX10_product 10 = .ok (.aload_n 0, 1) := by decide +kernel
theorem dX10_product_11 : decode cX10_product 11 = .ok (.getfield 177, 3) := by decide +kernel
theorem dX10_product_14 : decode cX10_product 14 = .ok (.ifCond .ge 80, 3) := by decide +kernel
theorem dX10_product_17 : decode cX10_product 17 = .ok (.iload_n 2, 1) := by decide +kernel
theorem dX10_product_18 : decode cX10_product 18 = .ok (.bipush 42, 2) := by decide +kernel
theorem dX10_product_20 : decode cX10_product 20 = .ok (.if_icmp .eq 15, 3) := by decide +kernel
theorem dX10_product_23 : decode cX10_product 23 = .ok (.iload_n 2, 1) := by decide +kernel
theorem dX10_product_24 : decode cX10_product 24 = .ok (.bipush 47, 2) := by decide +kernel
theorem dX10_product_26 : decode cX10_product 26 = .ok (.if_icmp .eq 9, 3) := by decide +kernel
theorem dX10_product_29 : decode cX10_product 29 = .ok (.iload_n 2, 1) := by decide +kernel
theorem dX10_product_30 : decode cX10_product 30 = .ok (.bipush 37, 2) := by decide +kernel
theorem dX10_product_32 : decode cX10_product 32 = .ok (.if_icmp .ne 62, 3) := by decide +kernel
theorem dX10_product_35 : decode cX10_product 35 = .ok (.aload_n 0, 1) := by decide +kernel
theorem dX10_product_36 : decode cX10_product 36 = .ok (.dup, 1) := by decide +kernel
theorem dX10_product_37 : decode cX10_product 37 = .ok (.getfield 168, 3) := by decide +kernel
theorem dX10_product_40 : decode cX10_product 40 = .ok (.iconst 1, 1) := by decide +kernel
theorem dX10_product_41 : decode cX10_product 41 = .ok (.iadd, 1) := by decide +kernel
theorem dX10_product_42 : decode cX10_product 42 = .ok (.putfield 168, 3) := by decide +kernel
theorem dX10_product_45 : decode cX10_product 45 = .ok (.aload_n 0, 1) := by decide +kernel
theorem dX10_product_46 : decode cX10_product 46 = .ok (.invokevirtual 199, 3) := by decide +kernel
theorem dX10_product_49 : decode cX10_product 49 = .ok (.istore_n 3, 1) := by decide +kernel
theorem dX10_product_50 : decode cX10_product 50 = .ok (.iload_n 2, 1) := by decide +kernel
theorem dX10_product_51 : decode cX10_product 51 = .ok (.bipush 42, 2) := by decide +kernel
theorem dX10_product_53 : decode cX10_product 53 = .ok (.if_icmp .ne 9, 3) := by decide +kernel
theorem dX10_product_56 : decode cX10_product 56 = .ok (.iload_n 1, 1) := by decide +kernel
theorem dX10_product_57 : decode cX10_product 57 = .ok (.iload_n 3, 1) := by decide +kernel
theorem dX10_product_58 : decode cX10_product 58 = .ok (.imul, 1) := by decide +kernel
theorem dX10_product_59 : decode cX10_product 59 = .ok (.goto 26, 3) := by decide +kernel
theorem dX10_product_62 : decode cX10_product 62 = .ok (.iload_n 3, 1) := by decide +kernel
theorem dX10_product_63 : decode cX10_product 63 = .ok (.ifCond .ne 7, 3) := by decide +kernel
theorem dX10_product_66 : decode cX10_product 66 = .ok (.iconst 0, 1) := by decide +kernel
theorem dX10_product_67 : decode cX10_product 67 = .ok (.goto 18, 3) := by decide +kernel
theorem dX10_product_70 : decode cX10_product 70 = .ok (.iload_n 2, 1) := by decide +kernel
theorem dX10_product_71 : decode cX10_product 71 = .ok (.bipush 47, 2) := by decide +kernel
theorem dX10_product_73 : decode cX10_product 73 = .ok (.if_icmp .ne 9, 3) := by decide +kernel
theorem dX10_product_76 : decode cX10_product 76 = .ok (.iload_n 1, 1) := by decide +kernel
theorem dX10_product_77 : decode cX10_product 77 = .ok (.iload_n 3, 1) := by decide +kernel
theorem dX10_product_78 : decode cX10_product 78 = .ok (.idiv, 1) := by decide +kernel
theorem dX10_product_79 : decode cX10_product 79 = .ok (.goto 6, 3) := by decide +kernel
theorem dX10_product_82 : decode cX10_product 82 = .ok (.iload_n 1, 1) := by decide +kernel
theorem dX10_product_83 : decode cX10_product 83 = .ok (.iload_n 3, 1) := by decide +kernel
theorem dX10_product_84 : decode cX10_product 84 = .ok (.irem, 1) := by decide +kernel
theorem dX10_product_85 : decode cX10_product 85 = .ok (.istore_n 1, 1) := by decide +kernel
theorem dX10_product_86 : decode cX10_product 86 = .ok (.aload_n 0, 1) := by decide +kernel
theorem dX10_product_87 : decode cX10_product 87 = .ok (.invokevirtual 180, 3) := by decide +kernel
theorem dX10_product_90 : decode cX10_product 90 = .ok (.istore_n 2, 1) := by decide +kernel
theorem dX10_product_91 : decode cX10_product 91 = .ok (.goto (-81), 3) := by decide +kernel
theorem dX10_product_94 : decode cX10_product 94 = .ok (.iload_n 1, 1) := by decide +kernel
theorem dX10_product_95 : decode cX10_product 95 = .ok (.ireturn, 1) := by decide +kernel
theorem dX10_nameOf_0 : decode cX10_nameOf 0 = .ok (.iload_n 0, 1) := by decide +kernel
theorem dX10_nameOf_1 : decode cX10_nameOf 1 = .ok (.tableswitch 107 100 119 #[103, 107, 107, 107, 107, 107, 107, 105, 101, 107, 107, 107, 95, 107, 107, 107, 99, 107, 107, 97], 95) := by decide +kernel
theorem dX10_nameOf_96 : decode cX10_nameOf 96 = .ok (.iconst 0, 1) := by decide +kernel
theorem dX10_nameOf_97 : decode cX10_nameOf 97 = .ok (.ireturn, 1) := by decide +kernel
theorem dX10_nameOf_98 : decode cX10_nameOf 98 = .ok (.iconst 1, 1) := by decide +kernel
theorem dX10_nameOf_99 : decode cX10_nameOf 99 = .ok (.ireturn, 1) := by decide +kernel
theorem dX10_nameOf_100 : decode cX10_nameOf 100 = .ok (.iconst 2, 1) := by decide +kernel
theorem dX10_nameOf_101 : decode cX10_nameOf 101 = .ok (.ireturn, 1) := by decide +kernel
theorem dX10_nameOf_102 : decode cX10_nameOf 102 = .ok (.iconst 3, 1) := by decide +kernel
theorem dX10_nameOf_103 : decode cX10_nameOf 103 = .ok (.ireturn, 1) := by decide +kernel
theorem dX10_nameOf_104 : decode cX10_nameOf 104 = .ok (.iconst 4, 1) := by decide +kernel
theorem dX10_nameOf_105 : decode cX10_nameOf 105 = .ok (.ireturn, 1) := by decide +kernel
theorem dX10_nameOf_106 : decode cX10_nameOf 106 = .ok (.iconst 5, 1) := by decide +kernel
theorem dX10_nameOf_107 : decode cX10_nameOf 107 = .ok (.ireturn, 1) := by decide +kernel
theorem dX10_nameOf_108 : decode cX10_nameOf 108 = .ok (.iconst (-1), 1) := by decide +kernel
theorem dX10_nameOf_109 : decode cX10_nameOf 109 = .ok (.ireturn, 1) := by decide +kernel
theorem dX10_one_0 : decode cX10_one 0 = .ok (.aload_n 0, 1) := by decide +kernel
theorem dX10_one_1 : decode cX10_one 1 = .ok (.getfield 177, 3) := by decide +kernel
theorem dX10_one_4 : decode cX10_one 4 = .ok (.ifCond .lt 5, 3) := by decide +kernel
theorem dX10_one_7 : decode cX10_one 7 = .ok (.iconst 0, 1) := by decide +kernel
theorem dX10_one_8 : decode cX10_one 8 = .ok (.ireturn, 1) := by decide +kernel
theorem dX10_one_9 : decode cX10_one 9 = .ok (.aload_n 0, 1) := by decide +kernel
theorem dX10_one_10 : decode cX10_one 10 = .ok (.invokevirtual 180, 3) := by decide +kernel
theorem dX10_one_13 : decode cX10_one 13 = .ok (.istore_n 1, 1) := by decide +kernel
theorem dX10_one_14 : decode cX10_one 14 = .ok (.iload_n 1, 1) := by decide +kernel
theorem dX10_one_15 : decode cX10_one 15 = .ok (.bipush 33, 2) := by decide +kernel
theorem dX10_one_17 : decode cX10_one 17 = .ok (.if_icmp .eq 15, 3) := by decide +kernel
theorem dX10_one_20 : decode cX10_one 20 = .ok (.iload_n 1, 1) := by decide +kernel
theorem dX10_one_21 : decode cX10_one 21 = .ok (.bipush 45, 2) := by decide +kernel
theorem dX10_one_23 : decode cX10_one 23 = .ok (.if_icmp .eq 9, 3) := by decide +kernel
theorem dX10_one_26 : decode cX10_one 26 = .ok (.iload_n 1, 1) := by decide +kernel
theorem dX10_one_27 : decode cX10_one 27 = .ok (.bipush 40, 2) := by decide +kernel
theorem dX10_one_29 : decode cX10_one 29 = .ok (.if_icmp .ne 116, 3) := by decide +kernel
theorem dX10_one_32 : decode cX10_one 32 = .ok (.aload_n 0, 1) := by decide +kernel
theorem dX10_one_33 : decode cX10_one 33 = .ok (.getfield 202, 3) := by decide +kernel
theorem dX10_one_36 : decode cX10_one 36 = .ok (.bipush 6, 2) := by decide +kernel
theorem dX10_one_38 : decode cX10_one 38 = .ok (.if_icmp .ne 8, 3) := by decide +kernel
theorem dX10_one_41 : decode cX10_one 41 = .ok (.aload_n 0, 1) := by decide +kernel
theorem dX10_one_42 : decode cX10_one 42 = .ok (.invokevirtual 205, 3) := by decide +kernel
theorem dX10_one_45 : decode cX10_one 45 = .ok (.ireturn, 1) := by decide +kernel
theorem dX10_one_46 : decode cX10_one 46 = .ok (.aload_n 0, 1) := by decide +kernel
theorem dX10_one_47 : decode cX10_one 47 = .ok (.dup, 1) := by decide +kernel
theorem dX10_one_48 : decode cX10_one 48 = .ok (.getfield 202, 3) := by decide +kernel
theorem dX10_one_51 : decode cX10_one 51 = .ok (.iconst 1, 1) := by decide +kernel
theorem dX10_one_52 : decode cX10_one 52 = .ok (.iadd, 1) := by decide +kernel
theorem dX10_one_53 : decode cX10_one 53 = .ok (.putfield 202, 3) := by decide +kernel
theorem dX10_one_56 : decode cX10_one 56 = .ok (.aload_n 0, 1) := by decide +kernel
theorem dX10_one_57 : decode cX10_one 57 = .ok (.dup, 1) := by decide +kernel
theorem dX10_one_58 : decode cX10_one 58 = .ok (.getfield 168, 3) := by decide +kernel
theorem dX10_one_61 : decode cX10_one 61 = .ok (.iconst 1, 1) := by decide +kernel
theorem dX10_one_62 : decode cX10_one 62 = .ok (.iadd, 1) := by decide +kernel
theorem dX10_one_63 : decode cX10_one 63 = .ok (.putfield 168, 3) := by decide +kernel
theorem dX10_one_66 : decode cX10_one 66 = .ok (.iload_n 1, 1) := by decide +kernel
theorem dX10_one_67 : decode cX10_one 67 = .ok (.bipush 40, 2) := by decide +kernel
theorem dX10_one_69 : decode cX10_one 69 = .ok (.if_icmp .ne 10, 3) := by decide +kernel
theorem dX10_one_72 : decode cX10_one 72 = .ok (.aload_n 0, 1) := by decide +kernel
theorem dX10_one_73 : decode cX10_one 73 = .ok (.invokevirtual 208, 3) := by decide +kernel
theorem dX10_one_76 : decode cX10_one 76 = .ok (.goto 7, 3) := by decide +kernel
theorem dX10_one_79 : decode cX10_one 79 = .ok (.aload_n 0, 1) := by decide +kernel
theorem dX10_one_80 : decode cX10_one 80 = .ok (.invokevirtual 199, 3) := by decide +kernel
theorem dX10_one_83 : decode cX10_one 83 = .ok (.istore_n 2, 1) := by decide +kernel
theorem dX10_one_84 : decode cX10_one 84 = .ok (.iload_n 1, 1) := by decide +kernel
theorem dX10_one_85 : decode cX10_one 85 = .ok (.bipush 40, 2) := by decide +kernel
theorem dX10_one_87 : decode cX10_one 87 = .ok (.if_icmp .ne 17, 3) := by decide +kernel
theorem dX10_one_90 : decode cX10_one 90 = .ok (.aload_n 0, 1) := by decide +kernel
theorem dX10_one_91 : decode cX10_one 91 = .ok (.bipush 41, 2) := by decide +kernel
theorem dX10_one_93 : decode cX10_one 93 = .ok (.invokevirtual 187, 3) := by decide +kernel
theorem dX10_one_96 : decode cX10_one 96 = .ok (.ifCond .ne 8, 3) := by decide +kernel
theorem dX10_one_99 : decode cX10_one 99 = .ok (.aload_n 0, 1) := by decide +kernel
theorem dX10_one_100 : decode cX10_one 100 = .ok (.invokevirtual 205, 3) := by decide +kernel
theorem dX10_one_103 : decode cX10_one 103 = .ok (.ireturn, 1) := by decide +kernel
theorem dX10_one_104 : decode cX10_one 104 = .ok (.aload_n 0, 1) := by decide +kernel
theorem dX10_one_105 : decode cX10_one 105 = .ok (.dup, 1) := by decide +kernel
theorem dX10_one_106 : decode cX10_one 106 = .ok (.getfield 202, 3) := by decide +kernel
theorem dX10_one_109 : decode cX10_one 109 = .ok (.iconst 1, 1) := by decide +kernel
theorem dX10_one_110 : decode cX10_one 110 = .ok (.isub, 1) := by decide +kernel
theorem dX10_one_111 : decode cX10_one 111 = .ok (.putfield 202, 3) := by decide +kernel
theorem dX10_one_114 : decode cX10_one 114 = .ok (.iload_n 1, 1) := by decide +kernel
theorem dX10_one_115 : decode cX10_one 115 = .ok (.bipush 40, 2) := by decide +kernel
theorem dX10_one_117 : decode cX10_one 117 = .ok (.if_icmp .ne 7, 3) := by decide +kernel
theorem dX10_one_120 : decode cX10_one 120 = .ok (.iload_n 2, 1) := by decide +kernel
theorem dX10_one_121 : decode cX10_one 121 = .ok (.goto 23, 3) := by decide +kernel
theorem dX10_one_124 : decode cX10_one 124 = .ok (.iload_n 1, 1) := by decide +kernel
theorem dX10_one_125 : decode cX10_one 125 = .ok (.bipush 45, 2) := by decide +kernel
theorem dX10_one_127 : decode cX10_one 127 = .ok (.if_icmp .ne 8, 3) := by decide +kernel
theorem dX10_one_130 : decode cX10_one 130 = .ok (.iload_n 2, 1) := by decide +kernel
theorem dX10_one_131 : decode cX10_one 131 = .ok (.ineg, 1) := by decide +kernel
theorem dX10_one_132 : decode cX10_one 132 = .ok (.goto 12, 3) := by decide +kernel
theorem dX10_one_135 : decode cX10_one 135 = .ok (.iload_n 2, 1) := by decide +kernel
theorem dX10_one_136 : decode cX10_one 136 = .ok (.ifCond .ne 7, 3) := by decide +kernel
theorem dX10_one_139 : decode cX10_one 139 = .ok (.iconst 1, 1) := by decide +kernel
theorem dX10_one_140 : decode cX10_one 140 = .ok (.goto 4, 3) := by decide +kernel
theorem dX10_one_143 : decode cX10_one 143 = .ok (.iconst 0, 1) := by decide +kernel
theorem dX10_one_144 : decode cX10_one 144 = .ok (.ireturn, 1) := by decide +kernel
theorem dX10_one_145 : decode cX10_one 145 = .ok (.iload_n 1, 1) := by decide +kernel
theorem dX10_one_146 : decode cX10_one 146 = .ok (.invokestatic 211, 3) := by decide +kernel
theorem dX10_one_149 : decode cX10_one 149 = .ok (.istore_n 2, 1) := by decide +kernel
theorem dX10_one_150 : decode cX10_one 150 = .ok (.iload_n 2, 1) := by decide +kernel
theorem dX10_one_151 : decode cX10_one 151 = .ok (.ifCond .lt 20, 3) := by decide +kernel
theorem dX10_one_154 : decode cX10_one 154 = .ok (.aload_n 0, 1) := by decide +kernel
theorem dX10_one_155 : decode cX10_one 155 = .ok (.dup, 1) := by decide +kernel
theorem dX10_one_156 : decode cX10_one 156 = .ok (.getfield 168, 3) := by decide +kernel
theorem dX10_one_159 : decode cX10_one 159 = .ok (.iconst 1, 1) := by decide +kernel
theorem dX10_one_160 : decode cX10_one 160 = .ok (.iadd, 1) := by decide +kernel
theorem dX10_one_161 : decode cX10_one 161 = .ok (.putfield 168, 3) := by decide +kernel
theorem dX10_one_164 : decode cX10_one 164 = .ok (.aload_n 0, 1) := by decide +kernel
theorem dX10_one_165 : decode cX10_one 165 = .ok (.getfield 31, 3) := by decide +kernel
theorem dX10_one_168 : decode cX10_one 168 = .ok (.iload_n 2, 1) := by decide +kernel
theorem dX10_one_169 : decode cX10_one 169 = .ok (.iaload, 1) := by decide +kernel
theorem dX10_one_170 : decode cX10_one 170 = .ok (.ireturn, 1) := by decide +kernel
theorem dX10_one_171 : decode cX10_one 171 = .ok (.iconst 0, 1) := by decide +kernel
theorem dX10_one_172 : decode cX10_one 172 = .ok (.istore_n 3, 1) := by decide +kernel
theorem dX10_one_173 : decode cX10_one 173 = .ok (.iconst 0, 1) := by decide +kernel
theorem dX10_one_174 : decode cX10_one 174 = .ok (.istore 4, 2) := by decide +kernel
theorem dX10_one_176 : decode cX10_one 176 = .ok (.iload 4, 2) := by decide +kernel
theorem dX10_one_178 : decode cX10_one 178 = .ok (.iconst 4, 1) := by decide +kernel
theorem dX10_one_179 : decode cX10_one 179 = .ok (.if_icmp .ge 50, 3) := by decide +kernel
theorem dX10_one_182 : decode cX10_one 182 = .ok (.aload_n 0, 1) := by decide +kernel
theorem dX10_one_183 : decode cX10_one 183 = .ok (.invokevirtual 180, 3) := by decide +kernel
theorem dX10_one_186 : decode cX10_one 186 = .ok (.bipush 48, 2) := by decide +kernel
theorem dX10_one_188 : decode cX10_one 188 = .ok (.if_icmp .lt 41, 3) := by decide +kernel
theorem dX10_one_191 : decode cX10_one 191 = .ok (.aload_n 0, 1) := by decide +kernel
theorem dX10_one_192 : decode cX10_one 192 = .ok (.invokevirtual 180, 3) := by decide +kernel
theorem dX10_one_195 : decode cX10_one 195 = .ok (.bipush 57, 2) := by decide +kernel
theorem dX10_one_197 : decode cX10_one 197 = .ok (.if_icmp .gt 32, 3) := by decide +kernel
theorem dX10_one_200 : decode cX10_one 200 = .ok (.bipush 10, 2) := by decide +kernel
theorem dX10_one_202 : decode cX10_one 202 = .ok (.iload_n 3, 1) := by decide +kernel
theorem dX10_one_203 : decode cX10_one 203 = .ok (.imul, 1) := by decide +kernel
theorem dX10_one_204 : decode cX10_one 204 = .ok (.aload_n 0, 1) := by decide +kernel
theorem dX10_one_205 : decode cX10_one 205 = .ok (.invokevirtual 180, 3) := by decide +kernel
theorem dX10_one_208 : decode cX10_one 208 = .ok (.iadd, 1) := by decide +kernel
theorem dX10_one_209 : decode cX10_one 209 = .ok (.bipush 48, 2) := by decide +kernel
theorem dX10_one_211 : decode cX10_one 211 = .ok (.isub, 1) := by decide +kernel
theorem dX10_one_212 : decode cX10_one 212 = .ok (.istore_n 3, 1) := by decide +kernel
theorem dX10_one_213 : decode cX10_one 213 = .ok (.iinc 4 1, 3) := by decide +kernel
theorem dX10_one_216 : decode cX10_one 216 = .ok (.aload_n 0, 1) := by decide +kernel
theorem dX10_one_217 : decode cX10_one 217 = .ok (.dup, 1) := by decide +kernel
theorem dX10_one_218 : decode cX10_one 218 = .ok (.getfield 168, 3) := by decide +kernel
theorem dX10_one_221 : decode cX10_one 221 = .ok (.iconst 1, 1) := by decide +kernel
theorem dX10_one_222 : decode cX10_one 222 = .ok (.iadd, 1) := by decide +kernel
theorem dX10_one_223 : decode cX10_one 223 = .ok (.putfield 168, 3) := by decide +kernel
theorem dX10_one_226 : decode cX10_one 226 = .ok (.goto (-50), 3) := by decide +kernel
theorem dX10_one_229 : decode cX10_one 229 = .ok (.iload 4, 2) := by decide +kernel
theorem dX10_one_231 : decode cX10_one 231 = .ok (.ifCond .ne 10, 3) := by decide +kernel
theorem dX10_one_234 : decode cX10_one 234 = .ok (.aload_n 0, 1) := by decide +kernel
theorem dX10_one_235 : decode cX10_one 235 = .ok (.invokevirtual 205, 3) := by decide +kernel
theorem dX10_one_238 : decode cX10_one 238 = .ok (.goto 4, 3) := by decide +kernel
theorem dX10_one_241 : decode cX10_one 241 = .ok (.iload_n 3, 1) := by decide +kernel
theorem dX10_one_242 : decode cX10_one 242 = .ok (.ireturn, 1) := by decide +kernel
theorem dX10_workOut_0 : decode cX10_workOut 0 = .ok (.aload_n 0, 1) := by decide +kernel
theorem dX10_workOut_1 : decode cX10_workOut 1 = .ok (.iload_n 1, 1) := by decide +kernel
theorem dX10_workOut_2 : decode cX10_workOut 2 = .ok (.putfield 174, 3) := by decide +kernel
theorem dX10_workOut_5 : decode cX10_workOut 5 = .ok (.aload_n 0, 1) := by decide +kernel
theorem dX10_workOut_6 : decode cX10_workOut 6 = .ok (.iconst 0, 1) := by decide +kernel
theorem dX10_workOut_7 : decode cX10_workOut 7 = .ok (.putfield 168, 3) := by decide +kernel
theorem dX10_workOut_10 : decode cX10_workOut 10 = .ok (.aload_n 0, 1) := by decide +kernel
theorem dX10_workOut_11 : decode cX10_workOut 11 = .ok (.iload_n 2, 1) := by decide +kernel
theorem dX10_workOut_12 : decode cX10_workOut 12 = .ok (.putfield 171, 3) := by decide +kernel
theorem dX10_workOut_15 : decode cX10_workOut 15 = .ok (.aload_n 0, 1) := by decide +kernel
theorem dX10_workOut_16 : decode cX10_workOut 16 = .ok (.iconst (-1), 1) := by decide +kernel
theorem dX10_workOut_17 : decode cX10_workOut 17 = .ok (.putfield 177, 3) := by decide +kernel
theorem dX10_workOut_20 : decode cX10_workOut 20 = .ok (.aload_n 0, 1) := by decide +kernel
theorem dX10_workOut_21 : decode cX10_workOut 21 = .ok (.iconst 0, 1) := by decide +kernel
theorem dX10_workOut_22 : decode cX10_workOut 22 = .ok (.putfield 202, 3) := by decide +kernel
theorem dX10_workOut_25 : decode cX10_workOut 25 = .ok (.iconst 0, 1) := by decide +kernel
theorem dX10_workOut_26 : decode cX10_workOut 26 = .ok (.istore_n 3, 1) := by decide +kernel
theorem dX10_workOut_27 : decode cX10_workOut 27 = .ok (.iconst 0, 1) := by decide +kernel
theorem dX10_workOut_28 : decode cX10_workOut 28 = .ok (.istore 4, 2) := by decide +kernel
theorem dX10_workOut_30 : decode cX10_workOut 30 = .ok (.iconst 1, 1) := by decide +kernel
theorem dX10_workOut_31 : decode cX10_workOut 31 = .ok (.istore 5, 2) := by decide +kernel
theorem dX10_workOut_33 : decode cX10_workOut 33 = .ok (.iload 5, 2) := by decide +kernel
theorem dX10_workOut_35 : decode cX10_workOut 35 = .ok (.ifCond .eq 72, 3) := by decide +kernel
theorem dX10_workOut_38 : decode cX10_workOut 38 = .ok (.aload_n 0, 1) := by decide +kernel
theorem dX10_workOut_39 : decode cX10_workOut 39 = .ok (.invokevirtual 208, 3) := by decide +kernel
theorem dX10_workOut_42 : decode cX10_workOut 42 = .ok (.istore 6, 2) := by decide +kernel
theorem dX10_workOut_44 : decode cX10_workOut 44 = .ok (.iconst 1, 1) := by decide +kernel
theorem dX10_workOut_45 : decode cX10_workOut 45 = .ok (.istore 7, 2) := by decide +kernel
theorem dX10_workOut_47 : decode cX10_workOut 47 = .ok (.aload_n 0, 1) := by decide +kernel
theorem dX10_workOut_48 : decode cX10_workOut 48 = .ok (.bipush 63, 2) := by decide +kernel
theorem dX10_workOut_50 : decode cX10_workOut 50 = .ok (.invokevirtual 187, 3) := by decide +kernel
theorem dX10_workOut_53 : decode cX10_workOut 53 = .ok (.ifCond .eq 21, 3) := by decide +kernel
theorem dX10_workOut_56 : decode cX10_workOut 56 = .ok (.iload 6, 2) := by decide +kernel
theorem dX10_workOut_58 : decode cX10_workOut 58 = .ok (.ifCond .eq 7, 3) := by decide +kernel
theorem dX10_workOut_61 : decode cX10_workOut 61 = .ok (.iconst 1, 1) := by decide +kernel
theorem dX10_workOut_62 : decode cX10_workOut 62 = .ok (.goto 4, 3) := by decide +kernel
theorem dX10_workOut_65 : decode cX10_workOut 65 = .ok (.iconst 0, 1) := by decide +kernel
theorem dX10_workOut_66 : decode cX10_workOut 66 = .ok (.istore 7, 2) := by decide +kernel
theorem dX10_workOut_68 : decode cX10_workOut 68 = .ok (.aload_n 0, 1) := by decide +kernel
theorem dX10_workOut_69 : decode cX10_workOut 69 = .ok (.invokevirtual 208, 3) := by decide +kernel
theorem dX10_workOut_72 : decode cX10_workOut 72 = .ok (.istore 6, 2) := by decide +kernel
theorem dX10_workOut_74 : decode cX10_workOut 74 = .ok (.aload_n 0, 1) := by decide +kernel
theorem dX10_workOut_75 : decode cX10_workOut 75 = .ok (.getfield 177, 3) := by decide +kernel
theorem dX10_workOut_78 : decode cX10_workOut 78 = .ok (.ifCond .ge 18, 3) := by decide +kernel
theorem dX10_workOut_81 : decode cX10_workOut 81 = .ok (.iload 7, 2) := by decide +kernel
theorem dX10_workOut_83 : decode cX10_workOut 83 = .ok (.ifCond .eq 13, 3) := by decide +kernel
theorem dX10_workOut_86 : decode cX10_workOut 86 = .ok (.iload_n 3, 1) := by decide +kernel
theorem dX10_workOut_87 : decode cX10_workOut 87 = .ok (.ifCond .ne 9, 3) := by decide +kernel
theorem dX10_workOut_90 : decode cX10_workOut 90 = .ok (.iconst 1, 1) := by decide +kernel
theorem dX10_workOut_91 : decode cX10_workOut 91 = .ok (.istore_n 3, 1) := by decide +kernel
theorem dX10_workOut_92 : decode cX10_workOut 92 = .ok (.iload 6, 2) := by decide +kernel
theorem dX10_workOut_94 : decode cX10_workOut 94 = .ok (.istore 4, 2) := by decide +kernel
theorem dX10_workOut_96 : decode cX10_workOut 96 = .ok (.aload_n 0, 1) := by decide +kernel
theorem dX10_workOut_97 : decode cX10_workOut 97 = .ok (.bipush 59, 2) := by decide +kernel
theorem dX10_workOut_99 : decode cX10_workOut 99 = .ok (.invokevirtual 187, 3) := by decide +kernel
theorem dX10_workOut_102 : decode cX10_workOut 102 = .ok (.istore 5, 2) := by decide +kernel
theorem dX10_workOut_104 : decode cX10_workOut 104 = .ok (.goto (-71), 3) := by decide +kernel
theorem dX10_workOut_107 : decode cX10_workOut 107 = .ok (.aload_n 0, 1) := by decide +kernel
theorem dX10_workOut_108 : decode cX10_workOut 108 = .ok (.getfield 177, 3) := by decide +kernel
theorem dX10_workOut_111 : decode cX10_workOut 111 = .ok (.ifCond .ge 19, 3) := by decide +kernel
theorem dX10_workOut_114 : decode cX10_workOut 114 = .ok (.aload_n 0, 1) := by decide +kernel
theorem dX10_workOut_115 : decode cX10_workOut 115 = .ok (.getfield 168, 3) := by decide +kernel
theorem dX10_workOut_118 : decode cX10_workOut 118 = .ok (.aload_n 0, 1) := by decide +kernel
theorem dX10_workOut_119 : decode cX10_workOut 119 = .ok (.getfield 171, 3) := by decide +kernel
theorem dX10_workOut_122 : decode cX10_workOut 122 = .ok (.if_icmp .ge 8, 3) := by decide +kernel
theorem dX10_workOut_125 : decode cX10_workOut 125 = .ok (.aload_n 0, 1) := by decide +kernel
theorem dX10_workOut_126 : decode cX10_workOut 126 = .ok (.invokevirtual 205, 3) := by decide +kernel
theorem dX10_workOut_129 : decode cX10_workOut 129 = .ok (.ireturn, 1) := by decide +kernel
theorem dX10_workOut_130 : decode cX10_workOut 130 = .ok (.iload 4, 2) := by decide +kernel
theorem dX10_workOut_132 : decode cX10_workOut 132 = .ok (.ireturn, 1) := by decide +kernel
theorem dX10_law_0 : decode cX10_law 0 = .ok (.aload_n 0, 1) := by decide +kernel
theorem dX10_law_1 : decode cX10_law 1 = .ok (.iconst (-1), 1) := by decide +kernel
theorem dX10_law_2 : decode cX10_law 2 = .ok (.aload_n 0, 1) := by decide +kernel
theorem dX10_law_3 : decode cX10_law 3 = .ok (.getfield 165, 3) := by decide +kernel
theorem dX10_law_6 : decode cX10_law 6 = .ok (.invokevirtual 215, 3) := by decide +kernel
theorem dX10_law_9 : decode cX10_law 9 = .ok (.istore_n 1, 1) := by decide +kernel
theorem dX10_law_10 : decode cX10_law 10 = .ok (.aload_n 0, 1) := by decide +kernel
theorem dX10_law_11 : decode cX10_law 11 = .ok (.getfield 165, 3) := by decide +kernel
theorem dX10_law_14 : decode cX10_law 14 = .ok (.istore_n 2, 1) := by decide +kernel
theorem dX10_law_15 : decode cX10_law 15 = .ok (.aload_n 0, 1) := by decide +kernel
theorem dX10_law_16 : decode cX10_law 16 = .ok (.iconst 0, 1) := by decide +kernel
theorem dX10_law_17 : decode cX10_law 17 = .ok (.putfield 165, 3) := by decide +kernel
theorem dX10_law_20 : decode cX10_law 20 = .ok (.aload_n 0, 1) := by decide +kernel
theorem dX10_law_21 : decode cX10_law 21 = .ok (.getfield 177, 3) := by decide +kernel
theorem dX10_law_24 : decode cX10_law 24 = .ok (.ifCond .lt 11, 3) := by decide +kernel
theorem dX10_law_27 : decode cX10_law 27 = .ok (.bipush (-100), 2) := by decide +kernel
theorem dX10_law_29 : decode cX10_law 29 = .ok (.aload_n 0, 1) := by decide +kernel
theorem dX10_law_30 : decode cX10_law 30 = .ok (.getfield 177, 3) := by decide +kernel
theorem dX10_law_33 : decode cX10_law 33 = .ok (.isub, 1) := by decide +kernel
theorem dX10_law_34 : decode cX10_law 34 = .ok (.ireturn, 1) := by decide +kernel
theorem dX10_law_35 : decode cX10_law 35 = .ok (.iconst 0, 1) := by decide +kernel
theorem dX10_law_36 : decode cX10_law 36 = .ok (.istore_n 3, 1) := by decide +kernel
theorem dX10_law_37 : decode cX10_law 37 = .ok (.iload_n 3, 1) := by decide +kernel
theorem dX10_law_38 : decode cX10_law 38 = .ok (.iload_n 2, 1) := by decide +kernel
theorem dX10_law_39 : decode cX10_law 39 = .ok (.if_icmp .ge 21, 3) := by decide +kernel
theorem dX10_law_42 : decode cX10_law 42 = .ok (.aload_n 0, 1) := by decide +kernel
theorem dX10_law_43 : decode cX10_law 43 = .ok (.getfield 28, 3) := by decide +kernel
theorem dX10_law_46 : decode cX10_law 46 = .ok (.iload_n 3, 1) := by decide +kernel
theorem dX10_law_47 : decode cX10_law 47 = .ok (.aload_n 0, 1) := by decide +kernel
theorem dX10_law_48 : decode cX10_law 48 = .ok (.getfield 25, 3) := by decide +kernel
theorem dX10_law_51 : decode cX10_law 51 = .ok (.iload_n 3, 1) := by decide +kernel
theorem dX10_law_52 : decode cX10_law 52 = .ok (.iaload, 1) := by decide +kernel
theorem dX10_law_53 : decode cX10_law 53 = .ok (.iastore, 1) := by decide +kernel
theorem dX10_law_54 : decode cX10_law 54 = .ok (.iinc 3 1, 3) := by decide +kernel
theorem dX10_law_57 : decode cX10_law 57 = .ok (.goto (-20), 3) := by decide +kernel
theorem dX10_law_60 : decode cX10_law 60 = .ok (.aload_n 0, 1) := by decide +kernel
theorem dX10_law_61 : decode cX10_law 61 = .ok (.iload_n 2, 1) := by decide +kernel
theorem dX10_law_62 : decode cX10_law 62 = .ok (.putfield 89, 3) := by decide +kernel
theorem dX10_law_65 : decode cX10_law 65 = .ok (.iconst 1, 1) := by decide +kernel
theorem dX10_law_66 : decode cX10_law 66 = .ok (.ireturn, 1) := by decide +kernel
theorem dX10_wantsAt_0 : decode cX10_wantsAt 0 = .ok (.aload_n 0, 1) := by decide +kernel
theorem dX10_wantsAt_1 : decode cX10_wantsAt 1 = .ok (.iload_n 1, 1) := by decide +kernel
theorem dX10_wantsAt_2 : decode cX10_wantsAt 2 = .ok (.iconst 0, 1) := by decide +kernel
theorem dX10_wantsAt_3 : decode cX10_wantsAt 3 = .ok (.invokevirtual 218, 3) := by decide +kernel
theorem dX10_wantsAt_6 : decode cX10_wantsAt 6 = .ok (.aload_n 0, 1) := by decide +kernel
theorem dX10_wantsAt_7 : decode cX10_wantsAt 7 = .ok (.iload_n 1, 1) := by decide +kernel
theorem dX10_wantsAt_8 : decode cX10_wantsAt 8 = .ok (.iconst 1, 1) := by decide +kernel
theorem dX10_wantsAt_9 : decode cX10_wantsAt 9 = .ok (.invokevirtual 218, 3) := by decide +kernel
theorem dX10_wantsAt_12 : decode cX10_wantsAt 12 = .ok (.imul, 1) := by decide +kernel
theorem dX10_wantsAt_13 : decode cX10_wantsAt 13 = .ok (.iconst 3, 1) := by decide +kernel
theorem dX10_wantsAt_14 : decode cX10_wantsAt 14 = .ok (.idiv, 1) := by decide +kernel
theorem dX10_wantsAt_15 : decode cX10_wantsAt 15 = .ok (.iload_n 3, 1) := by decide +kernel
theorem dX10_wantsAt_16 : decode cX10_wantsAt 16 = .ok (.aload_n 0, 1) := by decide +kernel
theorem dX10_wantsAt_17 : decode cX10_wantsAt 17 = .ok (.iload_n 1, 1) := by decide +kernel
theorem dX10_wantsAt_18 : decode cX10_wantsAt 18 = .ok (.iconst 3, 1) := by decide +kernel
theorem dX10_wantsAt_19 : decode cX10_wantsAt 19 = .ok (.invokevirtual 218, 3) := by decide +kernel
theorem dX10_wantsAt_22 : decode cX10_wantsAt 22 = .ok (.idiv, 1) := by decide +kernel
theorem dX10_wantsAt_23 : decode cX10_wantsAt 23 = .ok (.isub, 1) := by decide +kernel
theorem dX10_wantsAt_24 : decode cX10_wantsAt 24 = .ok (.istore 4, 2) := by decide +kernel
theorem dX10_wantsAt_26 : decode cX10_wantsAt 26 = .ok (.aload_n 0, 1) := by decide +kernel
theorem dX10_wantsAt_27 : decode cX10_wantsAt 27 = .ok (.getfield 89, 3) := by decide +kernel
theorem dX10_wantsAt_30 : decode cX10_wantsAt 30 = .ok (.ifCond .lt 73, 3) := by decide +kernel
theorem dX10_wantsAt_33 : decode cX10_wantsAt 33 = .ok (.aload_n 0, 1) := by decide +kernel
theorem dX10_wantsAt_34 : decode cX10_wantsAt 34 = .ok (.getfield 31, 3) := by decide +kernel
theorem dX10_wantsAt_37 : decode cX10_wantsAt 37 = .ok (.iconst 0, 1) := by decide +kernel
theorem dX10_wantsAt_38 : decode cX10_wantsAt 38 = .ok (.aload_n 0, 1) := by decide +kernel
theorem dX10_wantsAt_39 : decode cX10_wantsAt 39 = .ok (.iload_n 1, 1) := by decide +kernel
theorem dX10_wantsAt_40 : decode cX10_wantsAt 40 = .ok (.iconst 0, 1) := by decide +kernel
theorem dX10_wantsAt_41 : decode cX10_wantsAt 41 = .ok (.invokevirtual 218, 3) := by decide +kernel
theorem dX10_wantsAt_44 : decode cX10_wantsAt 44 = .ok (.iastore, 1) := by decide +kernel
theorem dX10_wantsAt_45 : decode cX10_wantsAt 45 = .ok (.aload_n 0, 1) := by decide +kernel
theorem dX10_wantsAt_46 : decode cX10_wantsAt 46 = .ok (.getfield 31, 3) := by decide +kernel
theorem dX10_wantsAt_49 : decode cX10_wantsAt 49 = .ok (.iconst 1, 1) := by decide +kernel
theorem dX10_wantsAt_50 : decode cX10_wantsAt 50 = .ok (.aload_n 0, 1) := by decide +kernel
theorem dX10_wantsAt_51 : decode cX10_wantsAt 51 = .ok (.iload_n 1, 1) := by decide +kernel
theorem dX10_wantsAt_52 : decode cX10_wantsAt 52 = .ok (.iconst 1, 1) := by decide +kernel
theorem dX10_wantsAt_53 : decode cX10_wantsAt 53 = .ok (.invokevirtual 218, 3) := by decide +kernel
theorem dX10_wantsAt_56 : decode cX10_wantsAt 56 = .ok (.iastore, 1) := by decide +kernel
theorem dX10_wantsAt_57 : decode cX10_wantsAt 57 = .ok (.aload_n 0, 1) := by decide +kernel
theorem dX10_wantsAt_58 : decode cX10_wantsAt 58 = .ok (.getfield 31, 3) := by decide +kernel
theorem dX10_wantsAt_61 : decode cX10_wantsAt 61 = .ok (.iconst 2, 1) := by decide +kernel
theorem dX10_wantsAt_62 : decode cX10_wantsAt 62 = .ok (.iload_n 3, 1) := by decide +kernel
theorem dX10_wantsAt_63 : decode cX10_wantsAt 63 = .ok (.iastore, 1) := by decide +kernel
theorem dX10_wantsAt_64 : decode cX10_wantsAt 64 = .ok (.aload_n 0, 1) := by decide +kernel
theorem dX10_wantsAt_65 : decode cX10_wantsAt 65 = .ok (.getfield 31, 3) := by decide +kernel
theorem dX10_wantsAt_68 : decode cX10_wantsAt 68 = .ok (.iconst 3, 1) := by decide +kernel
theorem dX10_wantsAt_69 : decode cX10_wantsAt 69 = .ok (.iload_n 2, 1) := by decide +kernel
theorem dX10_wantsAt_70 : decode cX10_wantsAt 70 = .ok (.iastore, 1) := by decide +kernel
theorem dX10_wantsAt_71 : decode cX10_wantsAt 71 = .ok (.aload_n 0, 1) := by decide +kernel
theorem dX10_wantsAt_72 : decode cX10_wantsAt 72 = .ok (.getfield 31, 3) := by decide +kernel
theorem dX10_wantsAt_75 : decode cX10_wantsAt 75 = .ok (.iconst 4, 1) := by decide +kernel
theorem dX10_wantsAt_76 : decode cX10_wantsAt 76 = .ok (.iload_n 2, 1) := by decide +kernel
theorem dX10_wantsAt_77 : decode cX10_wantsAt 77 = .ok (.aload_n 0, 1) := by decide +kernel
theorem dX10_wantsAt_78 : decode cX10_wantsAt 78 = .ok (.iload_n 1, 1) := by decide +kernel
theorem dX10_wantsAt_79 : decode cX10_wantsAt 79 = .ok (.iconst 2, 1) := by decide +kernel
theorem dX10_wantsAt_80 : decode cX10_wantsAt 80 = .ok (.invokevirtual 218, 3) := by decide +kernel
theorem dX10_wantsAt_83 : decode cX10_wantsAt 83 = .ok (.isub, 1) := by decide +kernel
theorem dX10_wantsAt_84 : decode cX10_wantsAt 84 = .ok (.iastore, 1) := by decide +kernel
theorem dX10_wantsAt_85 : decode cX10_wantsAt 85 = .ok (.aload_n 0, 1) := by decide +kernel
theorem dX10_wantsAt_86 : decode cX10_wantsAt 86 = .ok (.getfield 31, 3) := by decide +kernel
theorem dX10_wantsAt_89 : decode cX10_wantsAt 89 = .ok (.iconst 5, 1) := by decide +kernel
theorem dX10_wantsAt_90 : decode cX10_wantsAt 90 = .ok (.iload_n 1, 1) := by decide +kernel
theorem dX10_wantsAt_91 : decode cX10_wantsAt 91 = .ok (.iastore, 1) := by decide +kernel
theorem dX10_wantsAt_92 : decode cX10_wantsAt 92 = .ok (.aload_n 0, 1) := by decide +kernel
theorem dX10_wantsAt_93 : decode cX10_wantsAt 93 = .ok (.iconst 0, 1) := by decide +kernel
theorem dX10_wantsAt_94 : decode cX10_wantsAt 94 = .ok (.aload_n 0, 1) := by decide +kernel
theorem dX10_wantsAt_95 : decode cX10_wantsAt 95 = .ok (.getfield 89, 3) := by decide +kernel
theorem dX10_wantsAt_98 : decode cX10_wantsAt 98 = .ok (.invokevirtual 215, 3) := by decide +kernel
theorem dX10_wantsAt_101 : decode cX10_wantsAt 101 = .ok (.istore 4, 2) := by decide +kernel
theorem dX10_wantsAt_103 : decode cX10_wantsAt 103 = .ok (.iload 4, 2) := by decide +kernel
theorem dX10_wantsAt_105 : decode cX10_wantsAt 105 = .ok (.ifCond .ge 7, 3) := by decide +kernel
theorem dX10_wantsAt_108 : decode cX10_wantsAt 108 = .ok (.iconst 0, 1) := by decide +kernel
theorem dX10_wantsAt_109 : decode cX10_wantsAt 109 = .ok (.goto 17, 3) := by decide +kernel
theorem dX10_wantsAt_112 : decode cX10_wantsAt 112 = .ok (.iload 4, 2) := by decide +kernel
theorem dX10_wantsAt_114 : decode cX10_wantsAt 114 = .ok (.bipush 99, 2) := by decide +kernel
theorem dX10_wantsAt_116 : decode cX10_wantsAt 116 = .ok (.if_icmp .le 8, 3) := by decide +kernel
theorem dX10_wantsAt_119 : decode cX10_wantsAt 119 = .ok (.bipush 99, 2) := by decide +kernel
theorem dX10_wantsAt_121 : decode cX10_wantsAt 121 = .ok (.goto 5, 3) := by decide +kernel
theorem dX10_wantsAt_124 : decode cX10_wantsAt 124 = .ok (.iload 4, 2) := by decide +kernel
theorem dX10_wantsAt_126 : decode cX10_wantsAt 126 = .ok (.ireturn, 1) := by decide +kernel
theorem dX10_wants_0 : decode cX10_wants 0 = .ok (.aload_n 0, 1) := by decide +kernel
theorem dX10_wants_1 : decode cX10_wants 1 = .ok (.iload_n 1, 1) := by decide +kernel
theorem dX10_wants_2 : decode cX10_wants 2 = .ok (.invokevirtual 130, 3) := by decide +kernel
theorem dX10_wants_5 : decode cX10_wants 5 = .ok (.ifCond .eq 37, 3) := by decide +kernel
theorem dX10_wants_8 : decode cX10_wants 8 = .ok (.iload_n 2, 1) := by decide +kernel
theorem dX10_wants_9 : decode cX10_wants 9 = .ok (.i2l, 1) := by decide +kernel
theorem dX10_wants_10 : decode cX10_wants 10 = .ok (.lconst 0, 1) := by decide +kernel
theorem dX10_wants_11 : decode cX10_wants 11 = .ok (.ldc2_w 113, 3) := by decide +kernel
theorem dX10_wants_14 : decode cX10_wants 14 = .ok (.invokestatic 105, 3) := by decide +kernel
theorem dX10_wants_17 : decode cX10_wants 17 = .ok (.ifCond .eq 25, 3) := by decide +kernel
theorem dX10_wants_20 : decode cX10_wants 20 = .ok (.iload_n 3, 1) := by decide +kernel
theorem dX10_wants_21 : decode cX10_wants 21 = .ok (.i2l, 1) := by decide +kernel
theorem dX10_wants_22 : decode cX10_wants 22 = .ok (.lconst 0, 1) := by decide +kernel
theorem dX10_wants_23 : decode cX10_wants 23 = .ok (.ldc2_w 113, 3) := by decide +kernel
theorem dX10_wants_26 : decode cX10_wants 26 = .ok (.invokestatic 105, 3) := by decide +kernel
theorem dX10_wants_29 : decode cX10_wants 29 = .ok (.ifCond .eq 13, 3) := by decide +kernel
theorem dX10_wants_32 : decode cX10_wants 32 = .ok (.aload_n 0, 1) := by decide +kernel
theorem dX10_wants_33 : decode cX10_wants 33 = .ok (.iload_n 1, 1) := by decide +kernel
theorem dX10_wants_34 : decode cX10_wants 34 = .ok (.iload_n 2, 1) := by decide +kernel
theorem dX10_wants_35 : decode cX10_wants 35 = .ok (.iload_n 3, 1) := by decide +kernel
theorem dX10_wants_36 : decode cX10_wants 36 = .ok (.invokevirtual 221, 3) := by decide +kernel
theorem dX10_wants_39 : decode cX10_wants 39 = .ok (.goto 4, 3) := by decide +kernel
theorem dX10_wants_42 : decode cX10_wants 42 = .ok (.iconst (-1), 1) := by decide +kernel
theorem dX10_wants_43 : decode cX10_wants 43 = .ok (.ireturn, 1) := by decide +kernel
theorem dX10_begins1_0 : decode cX10_begins1 0 = .ok (.aload_n 0, 1) := by decide +kernel
theorem dX10_begins1_1 : decode cX10_begins1 1 = .ok (.aload_n 0, 1) := by decide +kernel
theorem dX10_begins1_2 : decode cX10_begins1 2 = .ok (.getfield 93, 3) := by decide +kernel
theorem dX10_begins1_5 : decode cX10_begins1 5 = .ok (.putfield 225, 3) := by decide +kernel
theorem dX10_begins1_8 : decode cX10_begins1 8 = .ok (.aload_n 0, 1) := by decide +kernel
theorem dX10_begins1_9 : decode cX10_begins1 9 = .ok (.aload_n 0, 1) := by decide +kernel
theorem dX10_begins1_10 : decode cX10_begins1 10 = .ok (.getfield 157, 3) := by decide +kernel
theorem dX10_begins1_13 : decode cX10_begins1 13 = .ok (.putfield 228, 3) := by decide +kernel
theorem dX10_begins1_16 : decode cX10_begins1 16 = .ok (.aload_n 0, 1) := by decide +kernel
theorem dX10_begins1_17 : decode cX10_begins1 17 = .ok (.aload_n 0, 1) := by decide +kernel
theorem dX10_begins1_18 : decode cX10_begins1 18 = .ok (.getfield 160, 3) := by decide +kernel
theorem dX10_begins1_21 : decode cX10_begins1 21 = .ok (.putfield 231, 3) := by decide +kernel
theorem dX10_begins1_24 : decode cX10_begins1 24 = .ok (.aload_n 0, 1) := by decide +kernel
theorem dX10_begins1_25 : decode cX10_begins1 25 = .ok (.iconst 1, 1) := by decide +kernel
theorem dX10_begins1_26 : decode cX10_begins1 26 = .ok (.aload_n 0, 1) := by decide +kernel
theorem dX10_begins1_27 : decode cX10_begins1 27 = .ok (.getfield 102, 3) := by decide +kernel
theorem dX10_begins1_30 : decode cX10_begins1 30 = .ok (.ishl, 1) := by decide +kernel
theorem dX10_begins1_31 : decode cX10_begins1 31 = .ok (.iconst 1, 1) := by decide +kernel
theorem dX10_begins1_32 : decode cX10_begins1 32 = .ok (.isub, 1) := by decide +kernel
theorem dX10_begins1_33 : decode cX10_begins1 33 = .ok (.putfield 234, 3) := by decide +kernel
theorem dX10_begins1_36 : decode cX10_begins1 36 = .ok (.aload_n 0, 1) := by decide +kernel
theorem dX10_begins1_37 : decode cX10_begins1 37 = .ok (.iconst 0, 1) := by decide +kernel
theorem dX10_begins1_38 : decode cX10_begins1 38 = .ok (.putfield 237, 3) := by decide +kernel
theorem dX10_begins1_41 : decode cX10_begins1 41 = .ok (.aload_n 0, 1) := by decide +kernel
theorem dX10_begins1_42 : decode cX10_begins1 42 = .ok (.iconst 0, 1) := by decide +kernel
theorem dX10_begins1_43 : decode cX10_begins1 43 = .ok (.putfield 241, 3) := by decide +kernel
theorem dX10_begins1_46 : decode cX10_begins1 46 = .ok (.iconst 0, 1) := by decide +kernel
theorem dX10_begins1_47 : decode cX10_begins1 47 = .ok (.istore_n 1, 1) := by decide +kernel
theorem dX10_begins1_48 : decode cX10_begins1 48 = .ok (.iload_n 1, 1) := by decide +kernel
theorem dX10_begins1_49 : decode cX10_begins1 49 = .ok (.iconst 3, 1) := by decide +kernel
theorem dX10_begins1_50 : decode cX10_begins1 50 = .ok (.if_icmp .ge 35, 3) := by decide +kernel
theorem dX10_begins1_53 : decode cX10_begins1 53 = .ok (.aload_n 0, 1) := by decide +kernel
theorem dX10_begins1_54 : decode cX10_begins1 54 = .ok (.getfield 34, 3) := by decide +kernel
theorem dX10_begins1_57 : decode cX10_begins1 57 = .ok (.iload_n 1, 1) := by decide +kernel
theorem dX10_begins1_58 : decode cX10_begins1 58 = .ok (.aload_n 0, 1) := by decide +kernel
theorem dX10_begins1_59 : decode cX10_begins1 59 = .ok (.getfield 22, 3) := by decide +kernel
theorem dX10_begins1_62 : decode cX10_begins1 62 = .ok (.iload_n 1, 1) := by decide +kernel
theorem dX10_begins1_63 : decode cX10_begins1 63 = .ok (.iaload, 1) := by decide +kernel
theorem dX10_begins1_64 : decode cX10_begins1 64 = .ok (.iastore, 1) := by decide +kernel
theorem dX10_begins1_65 : decode cX10_begins1 65 = .ok (.aload_n 0, 1) := by decide +kernel
theorem dX10_begins1_66 : decode cX10_begins1 66 = .ok (.getfield 37, 3) := by decide +kernel
theorem dX10_begins1_69 : decode cX10_begins1 69 = .ok (.iload_n 1, 1) := by decide +kernel
theorem dX10_begins1_70 : decode cX10_begins1 70 = .ok (.iconst 0, 1) := by decide +kernel
theorem dX10_begins1_71 : decode cX10_begins1 71 = .ok (.iastore, 1) := by decide +kernel
theorem dX10_begins1_72 : decode cX10_begins1 72 = .ok (.aload_n 0, 1) := by decide +kernel
theorem dX10_begins1_73 : decode cX10_begins1 73 = .ok (.getfield 40, 3) := by decide +kernel
theorem dX10_begins1_76 : decode cX10_begins1 76 = .ok (.iload_n 1, 1) := by decide +kernel
theorem dX10_begins1_77 : decode cX10_begins1 77 = .ok (.iconst 0, 1) := by decide +kernel
theorem dX10_begins1_78 : decode cX10_begins1 78 = .ok (.iastore, 1) := by decide +kernel
theorem dX10_begins1_79 : decode cX10_begins1 79 = .ok (.iinc 1 1, 3) := by decide +kernel
theorem dX10_begins1_82 : decode cX10_begins1 82 = .ok (.goto (-34), 3) := by decide +kernel
theorem dX10_begins1_85 : decode cX10_begins1 85 = .ok (.return_, 1) := by decide +kernel
theorem dX10_draws_0 : decode cX10_draws 0 = .ok (.aload_n 0, 1) := by decide +kernel
theorem dX10_draws_1 : decode cX10_draws 1 = .ok (.getfield 237, 3) := by decide +kernel
theorem dX10_draws_4 : decode cX10_draws 4 = .ok (.ifCond .ne 21, 3) := by decide +kernel
theorem dX10_draws_7 : decode cX10_draws 7 = .ok (.aload_n 0, 1) := by decide +kernel
theorem dX10_draws_8 : decode cX10_draws 8 = .ok (.getfield 231, 3) := by decide +kernel
theorem dX10_draws_11 : decode cX10_draws 11 = .ok (.aload_n 0, 1) := by decide +kernel
theorem dX10_draws_12 : decode cX10_draws 12 = .ok (.iload_n 1, 1) := by decide +kernel
theorem dX10_draws_13 : decode cX10_draws 13 = .ok (.bipush 7, 2) := by decide +kernel
theorem dX10_draws_15 : decode cX10_draws 15 = .ok (.invokevirtual 218, 3) := by decide +kernel
theorem dX10_draws_18 : decode cX10_draws 18 = .ok (.if_icmp .lt 7, 3) := by decide +kernel
theorem dX10_draws_21 : decode cX10_draws 21 = .ok (.iconst 1, 1) := by decide +kernel
theorem dX10_draws_22 : decode cX10_draws 22 = .ok (.goto 4, 3) := by decide +kernel
theorem dX10_draws_25 : decode cX10_draws 25 = .ok (.iconst 0, 1) := by decide +kernel
theorem dX10_draws_26 : decode cX10_draws 26 = .ok (.istore_n 2, 1) := by decide +kernel
theorem dX10_draws_27 : decode cX10_draws 27 = .ok (.aload_n 0, 1) := by decide +kernel
theorem dX10_draws_28 : decode cX10_draws 28 = .ok (.getfield 234, 3) := by decide +kernel
theorem dX10_draws_31 : decode cX10_draws 31 = .ok (.iload_n 1, 1) := by decide +kernel
theorem dX10_draws_32 : decode cX10_draws 32 = .ok (.invokestatic 244, 3) := by decide +kernel
theorem dX10_draws_35 : decode cX10_draws 35 = .ok (.ifCond .eq 38, 3) := by decide +kernel
theorem dX10_draws_38 : decode cX10_draws 38 = .ok (.iload_n 2, 1) := by decide +kernel
theorem dX10_draws_39 : decode cX10_draws 39 = .ok (.ifCond .ne 34, 3) := by decide +kernel
theorem dX10_draws_42 : decode cX10_draws 42 = .ok (.aload_n 0, 1) := by decide +kernel
theorem dX10_draws_43 : decode cX10_draws 43 = .ok (.getfield 231, 3) := by decide +kernel
theorem dX10_draws_46 : decode cX10_draws 46 = .ok (.aload_n 0, 1) := by decide +kernel
theorem dX10_draws_47 : decode cX10_draws 47 = .ok (.iload_n 1, 1) := by decide +kernel
theorem dX10_draws_48 : decode cX10_draws 48 = .ok (.iconst 4, 1) := by decide +kernel
theorem dX10_draws_49 : decode cX10_draws 49 = .ok (.invokevirtual 218, 3) := by decide +kernel
theorem dX10_draws_52 : decode cX10_draws 52 = .ok (.aload_n 0, 1) := by decide +kernel
theorem dX10_draws_53 : decode cX10_draws 53 = .ok (.iload_n 1, 1) := by decide +kernel
theorem dX10_draws_54 : decode cX10_draws 54 = .ok (.iconst 5, 1) := by decide +kernel
theorem dX10_draws_55 : decode cX10_draws 55 = .ok (.invokevirtual 218, 3) := by decide +kernel
theorem dX10_draws_58 : decode cX10_draws 58 = .ok (.iadd, 1) := by decide +kernel
theorem dX10_draws_59 : decode cX10_draws 59 = .ok (.irem, 1) := by decide +kernel
theorem dX10_draws_60 : decode cX10_draws 60 = .ok (.aload_n 0, 1) := by decide +kernel
theorem dX10_draws_61 : decode cX10_draws 61 = .ok (.iload_n 1, 1) := by decide +kernel
theorem dX10_draws_62 : decode cX10_draws 62 = .ok (.iconst 4, 1) := by decide +kernel
theorem dX10_draws_63 : decode cX10_draws 63 = .ok (.invokevirtual 218, 3) := by decide +kernel
theorem dX10_draws_66 : decode cX10_draws 66 = .ok (.if_icmp .ge 7, 3) := by decide +kernel
theorem dX10_draws_69 : decode cX10_draws 69 = .ok (.iconst 1, 1) := by decide +kernel
theorem dX10_draws_70 : decode cX10_draws 70 = .ok (.goto 4, 3) := by decide +kernel
theorem dX10_draws_73 : decode cX10_draws 73 = .ok (.iconst 0, 1) := by decide +kernel
theorem dX10_draws_74 : decode cX10_draws 74 = .ok (.ireturn, 1) := by decide +kernel
theorem dX10_wantsNow_0 : decode cX10_wantsNow 0 = .ok (.aload_n 0, 1) := by decide +kernel
theorem dX10_wantsNow_1 : decode cX10_wantsNow 1 = .ok (.iload_n 1, 1) := by decide +kernel
theorem dX10_wantsNow_2 : decode cX10_wantsNow 2 = .ok (.iconst 2, 1) := by decide +kernel
theorem dX10_wantsNow_3 : decode cX10_wantsNow 3 = .ok (.invokevirtual 218, 3) := by decide +kernel
theorem dX10_wantsNow_6 : decode cX10_wantsNow 6 = .ok (.istore_n 2, 1) := by decide +kernel
theorem dX10_wantsNow_7 : decode cX10_wantsNow 7 = .ok (.aload_n 0, 1) := by decide +kernel
theorem dX10_wantsNow_8 : decode cX10_wantsNow 8 = .ok (.iload_n 1, 1) := by decide +kernel
theorem dX10_wantsNow_9 : decode cX10_wantsNow 9 = .ok (.invokevirtual 247, 3) := by decide +kernel
theorem dX10_wantsNow_12 : decode cX10_wantsNow 12 = .ok (.ifCond .eq 22, 3) := by decide +kernel
theorem dX10_wantsNow_15 : decode cX10_wantsNow 15 = .ok (.aload_n 0, 1) := by decide +kernel
theorem dX10_wantsNow_16 : decode cX10_wantsNow 16 = .ok (.getfield 241, 3) := by decide +kernel
theorem dX10_wantsNow_19 : decode cX10_wantsNow 19 = .ok (.iload_n 1, 1) := by decide +kernel
theorem dX10_wantsNow_20 : decode cX10_wantsNow 20 = .ok (.invokestatic 244, 3) := by decide +kernel
theorem dX10_wantsNow_23 : decode cX10_wantsNow 23 = .ok (.ifCond .ne 11, 3) := by decide +kernel
theorem dX10_wantsNow_26 : decode cX10_wantsNow 26 = .ok (.aload_n 0, 1) := by decide +kernel
theorem dX10_wantsNow_27 : decode cX10_wantsNow 27 = .ok (.getfield 225, 3) := by decide +kernel
theorem dX10_wantsNow_30 : decode cX10_wantsNow 30 = .ok (.iload_n 2, 1) := by decide +kernel
theorem dX10_wantsNow_31 : decode cX10_wantsNow 31 = .ok (.if_icmp .gt 5, 3) := by decide +kernel
theorem dX10_wantsNow_34 : decode cX10_wantsNow 34 = .ok (.iconst 0, 1) := by decide +kernel
theorem dX10_wantsNow_35 : decode cX10_wantsNow 35 = .ok (.ireturn, 1) := by decide +kernel
theorem dX10_wantsNow_36 : decode cX10_wantsNow 36 = .ok (.aload_n 0, 1) := by decide +kernel
theorem dX10_wantsNow_37 : decode cX10_wantsNow 37 = .ok (.iload_n 1, 1) := by decide +kernel
theorem dX10_wantsNow_38 : decode cX10_wantsNow 38 = .ok (.aload_n 0, 1) := by decide +kernel
theorem dX10_wantsNow_39 : decode cX10_wantsNow 39 = .ok (.getfield 225, 3) := by decide +kernel
theorem dX10_wantsNow_42 : decode cX10_wantsNow 42 = .ok (.aload_n 0, 1) := by decide +kernel
theorem dX10_wantsNow_43 : decode cX10_wantsNow 43 = .ok (.getfield 34, 3) := by decide +kernel
theorem dX10_wantsNow_46 : decode cX10_wantsNow 46 = .ok (.iload_n 1, 1) := by decide +kernel
theorem dX10_wantsNow_47 : decode cX10_wantsNow 47 = .ok (.iaload, 1) := by decide +kernel
theorem dX10_wantsNow_48 : decode cX10_wantsNow 48 = .ok (.invokevirtual 221, 3) := by decide +kernel
theorem dX10_wantsNow_51 : decode cX10_wantsNow 51 = .ok (.istore_n 3, 1) := by decide +kernel
theorem dX10_wantsNow_52 : decode cX10_wantsNow 52 = .ok (.aload_n 0, 1) := by decide +kernel
theorem dX10_wantsNow_53 : decode cX10_wantsNow 53 = .ok (.getfield 225, 3) := by decide +kernel
theorem dX10_wantsNow_56 : decode cX10_wantsNow 56 = .ok (.aload_n 0, 1) := by decide +kernel
theorem dX10_wantsNow_57 : decode cX10_wantsNow 57 = .ok (.iload_n 1, 1) := by decide +kernel
theorem dX10_wantsNow_58 : decode cX10_wantsNow 58 = .ok (.bipush 6, 2) := by decide +kernel
theorem dX10_wantsNow_60 : decode cX10_wantsNow 60 = .ok (.invokevirtual 218, 3) := by decide +kernel
theorem dX10_wantsNow_63 : decode cX10_wantsNow 63 = .ok (.if_icmp .ge 9, 3) := by decide +kernel
theorem dX10_wantsNow_66 : decode cX10_wantsNow 66 = .ok (.iload_n 3, 1) := by decide +kernel
theorem dX10_wantsNow_67 : decode cX10_wantsNow 67 = .ok (.iconst 2, 1) := by decide +kernel
theorem dX10_wantsNow_68 : decode cX10_wantsNow 68 = .ok (.idiv, 1) := by decide +kernel
theorem dX10_wantsNow_69 : decode cX10_wantsNow 69 = .ok (.goto 4, 3) := by decide +kernel
theorem dX10_wantsNow_72 : decode cX10_wantsNow 72 = .ok (.iload_n 3, 1) := by decide +kernel
theorem dX10_wantsNow_73 : decode cX10_wantsNow 73 = .ok (.istore_n 3, 1) := by decide +kernel
theorem dX10_wantsNow_74 : decode cX10_wantsNow 74 = .ok (.iload_n 3, 1) := by decide +kernel
theorem dX10_wantsNow_75 : decode cX10_wantsNow 75 = .ok (.aload_n 0, 1) := by decide +kernel
theorem dX10_wantsNow_76 : decode cX10_wantsNow 76 = .ok (.getfield 225, 3) := by decide +kernel
theorem dX10_wantsNow_79 : decode cX10_wantsNow 79 = .ok (.iload_n 2, 1) := by decide +kernel
theorem dX10_wantsNow_80 : decode cX10_wantsNow 80 = .ok (.isub, 1) := by decide +kernel
theorem dX10_wantsNow_81 : decode cX10_wantsNow 81 = .ok (.if_icmp .le 12, 3) := by decide +kernel
theorem dX10_wantsNow_84 : decode cX10_wantsNow 84 = .ok (.aload_n 0, 1) := by decide +kernel
theorem dX10_wantsNow_85 : decode cX10_wantsNow 85 = .ok (.getfield 225, 3) := by decide +kernel
theorem dX10_wantsNow_88 : decode cX10_wantsNow 88 = .ok (.iload_n 2, 1) := by decide +kernel
theorem dX10_wantsNow_89 : decode cX10_wantsNow 89 = .ok (.isub, 1) := by decide +kernel
theorem dX10_wantsNow_90 : decode cX10_wantsNow 90 = .ok (.goto 4, 3) := by decide +kernel
theorem dX10_wantsNow_93 : decode cX10_wantsNow 93 = .ok (.iload_n 3, 1) := by decide +kernel
theorem dX10_wantsNow_94 : decode cX10_wantsNow 94 = .ok (.ireturn, 1) := by decide +kernel
theorem dX10_secondGoes_0 : decode cX10_secondGoes 0 = .ok (.iconst 0, 1) := by decide +kernel
theorem dX10_secondGoes_1 : decode cX10_secondGoes 1 = .ok (.istore_n 1, 1) := by decide +kernel
theorem dX10_secondGoes_2 : decode cX10_secondGoes 2 = .ok (.iconst 0, 1) := by decide +kernel
theorem dX10_secondGoes_3 : decode cX10_secondGoes 3 = .ok (.istore_n 2, 1) := by decide +kernel
theorem dX10_secondGoes_4 : decode cX10_secondGoes 4 = .ok (.iload_n 2, 1) := by decide +kernel
theorem dX10_secondGoes_5 : decode cX10_secondGoes 5 = .ok (.aload_n 0, 1) := by decide +kernel
theorem dX10_secondGoes_6 : decode cX10_secondGoes 6 = .ok (.getfield 102, 3) := by decide +kernel
theorem dX10_secondGoes_9 : decode cX10_secondGoes 9 = .ok (.if_icmp .ge 29, 3) := by decide +kernel
theorem dX10_secondGoes_12 : decode cX10_secondGoes 12 = .ok (.aload_n 0, 1) := by decide +kernel
theorem dX10_secondGoes_13 : decode cX10_secondGoes 13 = .ok (.getfield 43, 3) := by decide +kernel
theorem dX10_secondGoes_16 : decode cX10_secondGoes 16 = .ok (.iload_n 2, 1) := by decide +kernel
theorem dX10_secondGoes_17 : decode cX10_secondGoes 17 = .ok (.aload_n 0, 1) := by decide +kernel
theorem dX10_secondGoes_18 : decode cX10_secondGoes 18 = .ok (.iload_n 2, 1) := by decide +kernel
theorem dX10_secondGoes_19 : decode cX10_secondGoes 19 = .ok (.invokevirtual 250, 3) := by decide +kernel
theorem dX10_secondGoes_22 : decode cX10_secondGoes 22 = .ok (.iastore, 1) := by decide +kernel
theorem dX10_secondGoes_23 : decode cX10_secondGoes 23 = .ok (.iload_n 1, 1) := by decide +kernel
theorem dX10_secondGoes_24 : decode cX10_secondGoes 24 = .ok (.aload_n 0, 1) := by decide +kernel
theorem dX10_secondGoes_25 : decode cX10_secondGoes 25 = .ok (.getfield 43, 3) := by decide +kernel
theorem dX10_secondGoes_28 : decode cX10_secondGoes 28 = .ok (.iload_n 2, 1) := by decide +kernel
theorem dX10_secondGoes_29 : decode cX10_secondGoes 29 = .ok (.iaload, 1) := by decide +kernel
theorem dX10_secondGoes_30 : decode cX10_secondGoes 30 = .ok (.iadd, 1) := by decide +kernel
theorem dX10_secondGoes_31 : decode cX10_secondGoes 31 = .ok (.istore_n 1, 1) := by decide +kernel
theorem dX10_secondGoes_32 : decode cX10_secondGoes 32 = .ok (.iinc 2 1, 3) := by decide +kernel
theorem dX10_secondGoes_35 : decode cX10_secondGoes 35 = .ok (.goto (-31), 3) := by decide +kernel
theorem dX10_secondGoes_38 : decode cX10_secondGoes 38 = .ok (.iconst 0, 1) := by decide +kernel
theorem dX10_secondGoes_39 : decode cX10_secondGoes 39 = .ok (.istore_n 2, 1) := by decide +kernel
theorem dX10_secondGoes_40 : decode cX10_secondGoes 40 = .ok (.iconst 0, 1) := by decide +kernel
theorem dX10_secondGoes_41 : decode cX10_secondGoes 41 = .ok (.istore_n 3, 1) := by decide +kernel
theorem dX10_secondGoes_42 : decode cX10_secondGoes 42 = .ok (.iload_n 3, 1) := by decide +kernel
theorem dX10_secondGoes_43 : decode cX10_secondGoes 43 = .ok (.aload_n 0, 1) := by decide +kernel
theorem dX10_secondGoes_44 : decode cX10_secondGoes 44 = .ok (.getfield 102, 3) := by decide +kernel
theorem dX10_secondGoes_47 : decode cX10_secondGoes 47 = .ok (.if_icmp .ge 126, 3) := by decide +kernel
theorem dX10_secondGoes_50 : decode cX10_secondGoes 50 = .ok (.aload_n 0, 1) := by decide +kernel
theorem dX10_secondGoes_51 : decode cX10_secondGoes 51 = .ok (.iload_n 3, 1) := by decide +kernel
theorem dX10_secondGoes_52 : decode cX10_secondGoes 52 = .ok (.invokevirtual 247, 3) := by decide +kernel
theorem dX10_secondGoes_55 : decode cX10_secondGoes 55 = .ok (.istore 4, 2) := by decide +kernel
theorem dX10_secondGoes_57 : decode cX10_secondGoes 57 = .ok (.iload_n 1, 1) := by decide +kernel
theorem dX10_secondGoes_58 : decode cX10_secondGoes 58 = .ok (.aload_n 0, 1) := by decide +kernel
theorem dX10_secondGoes_59 : decode cX10_secondGoes 59 = .ok (.getfield 225, 3) := by decide +kernel
theorem dX10_secondGoes_62 : decode cX10_secondGoes 62 = .ok (.if_icmp .le 19, 3) := by decide +kernel
theorem dX10_secondGoes_65 : decode cX10_secondGoes 65 = .ok (.aload_n 0, 1) := by decide +kernel
theorem dX10_secondGoes_66 : decode cX10_secondGoes 66 = .ok (.getfield 43, 3) := by decide +kernel
theorem dX10_secondGoes_69 : decode cX10_secondGoes 69 = .ok (.iload_n 3, 1) := by decide +kernel
theorem dX10_secondGoes_70 : decode cX10_secondGoes 70 = .ok (.iaload, 1) := by decide +kernel
theorem dX10_secondGoes_71 : decode cX10_secondGoes 71 = .ok (.aload_n 0, 1) := by decide +kernel
theorem dX10_secondGoes_72 : decode cX10_secondGoes 72 = .ok (.getfield 225, 3) := by decide +kernel
theorem dX10_secondGoes_75 : decode cX10_secondGoes 75 = .ok (.imul, 1) := by decide +kernel
theorem dX10_secondGoes_76 : decode cX10_secondGoes 76 = .ok (.iload_n 1, 1) := by decide +kernel
theorem dX10_secondGoes_77 : decode cX10_secondGoes 77 = .ok (.idiv, 1) := by decide +kernel
theorem dX10_secondGoes_78 : decode cX10_secondGoes 78 = .ok (.goto 9, 3) := by decide +kernel
theorem dX10_secondGoes_81 : decode cX10_secondGoes 81 = .ok (.aload_n 0, 1) := by decide +kernel
theorem dX10_secondGoes_82 : decode cX10_secondGoes 82 = .ok (.getfield 43, 3) := by decide +kernel
theorem dX10_secondGoes_85 : decode cX10_secondGoes 85 = .ok (.iload_n 3, 1) := by decide +kernel
theorem dX10_secondGoes_86 : decode cX10_secondGoes 86 = .ok (.iaload, 1) := by decide +kernel
theorem dX10_secondGoes_87 : decode cX10_secondGoes 87 = .ok (.istore 5, 2) := by decide +kernel
theorem dX10_secondGoes_89 : decode cX10_secondGoes 89 = .ok (.aload_n 0, 1) := by decide +kernel
theorem dX10_secondGoes_90 : decode cX10_secondGoes 90 = .ok (.getfield 37, 3) := by decide +kernel
theorem dX10_secondGoes_93 : decode cX10_secondGoes 93 = .ok (.iload_n 3, 1) := by decide +kernel
theorem dX10_secondGoes_94 : decode cX10_secondGoes 94 = .ok (.dup2, 1) := by decide +kernel
theorem dX10_secondGoes_95 : decode cX10_secondGoes 95 = .ok (.iaload, 1) := by decide +kernel
theorem dX10_secondGoes_96 : decode cX10_secondGoes 96 = .ok (.iload 5, 2) := by decide +kernel
theorem dX10_secondGoes_98 : decode cX10_secondGoes 98 = .ok (.iadd, 1) := by decide +kernel
theorem dX10_secondGoes_99 : decode cX10_secondGoes 99 = .ok (.iastore, 1) := by decide +kernel
theorem dX10_secondGoes_100 : decode cX10_secondGoes 100 = .ok (.iload_n 2, 1) := by decide +kernel
theorem dX10_secondGoes_101 : decode cX10_secondGoes 101 = .ok (.iload 5, 2) := by decide +kernel
theorem dX10_secondGoes_103 : decode cX10_secondGoes 103 = .ok (.iadd, 1) := by decide +kernel
theorem dX10_secondGoes_104 : decode cX10_secondGoes 104 = .ok (.istore_n 2, 1) := by decide +kernel
theorem dX10_secondGoes_105 : decode cX10_secondGoes 105 = .ok (.aload_n 0, 1) := by decide +kernel
theorem dX10_secondGoes_106 : decode cX10_secondGoes 106 = .ok (.getfield 40, 3) := by decide +kernel
theorem dX10_secondGoes_109 : decode cX10_secondGoes 109 = .ok (.iload_n 3, 1) := by decide +kernel
theorem dX10_secondGoes_110 : decode cX10_secondGoes 110 = .ok (.dup2, 1) := by decide +kernel
theorem dX10_secondGoes_111 : decode cX10_secondGoes 111 = .ok (.iaload, 1) := by decide +kernel
theorem dX10_secondGoes_112 : decode cX10_secondGoes 112 = .ok (.iload 4, 2) := by decide +kernel
theorem dX10_secondGoes_114 : decode cX10_secondGoes 114 = .ok (.ifCond .eq 31, 3) := by decide +kernel
theorem dX10_secondGoes_117 : decode cX10_secondGoes 117 = .ok (.aload_n 0, 1) := by decide +kernel
theorem dX10_secondGoes_118 : decode cX10_secondGoes 118 = .ok (.getfield 241, 3) := by decide +kernel
theorem dX10_secondGoes_121 : decode cX10_secondGoes 121 = .ok (.iload_n 3, 1) := by decide +kernel
theorem dX10_secondGoes_122 : decode cX10_secondGoes 122 = .ok (.invokestatic 244, 3) := by decide +kernel
theorem dX10_secondGoes_125 : decode cX10_secondGoes 125 = .ok (.ifCond .ne 20, 3) := by decide +kernel
theorem dX10_secondGoes_128 : decode cX10_secondGoes 128 = .ok (.aload_n 0, 1) := by decide +kernel
theorem dX10_secondGoes_129 : decode cX10_secondGoes 129 = .ok (.getfield 225, 3) := by decide +kernel
theorem dX10_secondGoes_132 : decode cX10_secondGoes 132 = .ok (.aload_n 0, 1) := by decide +kernel
theorem dX10_secondGoes_133 : decode cX10_secondGoes 133 = .ok (.iload_n 3, 1) := by decide +kernel
theorem dX10_secondGoes_134 : decode cX10_secondGoes 134 = .ok (.iconst 2, 1) := by decide +kernel
theorem dX10_secondGoes_135 : decode cX10_secondGoes 135 = .ok (.invokevirtual 218, 3) := by decide +kernel
theorem dX10_secondGoes_138 : decode cX10_secondGoes 138 = .ok (.if_icmp .gt 7, 3) := by decide +kernel
theorem dX10_secondGoes_141 : decode cX10_secondGoes 141 = .ok (.iconst 1, 1) := by decide +kernel
theorem dX10_secondGoes_142 : decode cX10_secondGoes 142 = .ok (.goto 4, 3) := by decide +kernel
theorem dX10_secondGoes_145 : decode cX10_secondGoes 145 = .ok (.iconst 0, 1) := by decide +kernel
theorem dX10_secondGoes_146 : decode cX10_secondGoes 146 = .ok (.iadd, 1) := by decide +kernel
theorem dX10_secondGoes_147 : decode cX10_secondGoes 147 = .ok (.iastore, 1) := by decide +kernel
theorem dX10_secondGoes_148 : decode cX10_secondGoes 148 = .ok (.aload_n 0, 1) := by decide +kernel
theorem dX10_secondGoes_149 : decode cX10_secondGoes 149 = .ok (.getfield 34, 3) := by decide +kernel
theorem dX10_secondGoes_152 : decode cX10_secondGoes 152 = .ok (.iload_n 3, 1) := by decide +kernel
theorem dX10_secondGoes_153 : decode cX10_secondGoes 153 = .ok (.dup2, 1) := by decide +kernel
theorem dX10_secondGoes_154 : decode cX10_secondGoes 154 = .ok (.iaload, 1) := by decide +kernel
theorem dX10_secondGoes_155 : decode cX10_secondGoes 155 = .ok (.iload 4, 2) := by decide +kernel
theorem dX10_secondGoes_157 : decode cX10_secondGoes 157 = .ok (.ifCond .eq 7, 3) := by decide +kernel
theorem dX10_secondGoes_160 : decode cX10_secondGoes 160 = .ok (.iconst 1, 1) := by decide +kernel
theorem dX10_secondGoes_161 : decode cX10_secondGoes 161 = .ok (.goto 4, 3) := by decide +kernel
theorem dX10_secondGoes_164 : decode cX10_secondGoes 164 = .ok (.iconst 0, 1) := by decide +kernel
theorem dX10_secondGoes_165 : decode cX10_secondGoes 165 = .ok (.iadd, 1) := by decide +kernel
theorem dX10_secondGoes_166 : decode cX10_secondGoes 166 = .ok (.iastore, 1) := by decide +kernel
theorem dX10_secondGoes_167 : decode cX10_secondGoes 167 = .ok (.iinc 3 1, 3) := by decide +kernel
theorem dX10_secondGoes_170 : decode cX10_secondGoes 170 = .ok (.goto (-128), 3) := by decide +kernel
theorem dX10_secondGoes_173 : decode cX10_secondGoes 173 = .ok (.aload_n 0, 1) := by decide +kernel
theorem dX10_secondGoes_174 : decode cX10_secondGoes 174 = .ok (.dup, 1) := by decide +kernel
theorem dX10_secondGoes_175 : decode cX10_secondGoes 175 = .ok (.getfield 225, 3) := by decide +kernel
theorem dX10_secondGoes_178 : decode cX10_secondGoes 178 = .ok (.iload_n 2, 1) := by decide +kernel
theorem dX10_secondGoes_179 : decode cX10_secondGoes 179 = .ok (.isub, 1) := by decide +kernel
theorem dX10_secondGoes_180 : decode cX10_secondGoes 180 = .ok (.putfield 225, 3) := by decide +kernel
theorem dX10_secondGoes_183 : decode cX10_secondGoes 183 = .ok (.aload_n 0, 1) := by decide +kernel
theorem dX10_secondGoes_184 : decode cX10_secondGoes 184 = .ok (.getfield 9, 3) := by decide +kernel
theorem dX10_secondGoes_187 : decode cX10_secondGoes 187 = .ok (.bipush 24, 2) := by decide +kernel
theorem dX10_secondGoes_189 : decode cX10_secondGoes 189 = .ok (.iaload, 1) := by decide +kernel
theorem dX10_secondGoes_190 : decode cX10_secondGoes 190 = .ok (.aload_n 0, 1) := by decide +kernel
theorem dX10_secondGoes_191 : decode cX10_secondGoes 191 = .ok (.getfield 228, 3) := by decide +kernel
theorem dX10_secondGoes_194 : decode cX10_secondGoes 194 = .ok (.if_icmp .ge 13, 3) := by decide +kernel
theorem dX10_secondGoes_197 : decode cX10_secondGoes 197 = .ok (.aload_n 0, 1) := by decide +kernel
theorem dX10_secondGoes_198 : decode cX10_secondGoes 198 = .ok (.getfield 9, 3) := by decide +kernel
theorem dX10_secondGoes_201 : decode cX10_secondGoes 201 = .ok (.bipush 24, 2) := by decide +kernel
theorem dX10_secondGoes_203 : decode cX10_secondGoes 203 = .ok (.iaload, 1) := by decide +kernel
theorem dX10_secondGoes_204 : decode cX10_secondGoes 204 = .ok (.goto 7, 3) := by decide +kernel
theorem dX10_secondGoes_207 : decode cX10_secondGoes 207 = .ok (.aload_n 0, 1) := by decide +kernel
theorem dX10_secondGoes_208 : decode cX10_secondGoes 208 = .ok (.getfield 228, 3) := by decide +kernel
theorem dX10_secondGoes_211 : decode cX10_secondGoes 211 = .ok (.istore_n 3, 1) := by decide +kernel
theorem dX10_secondGoes_212 : decode cX10_secondGoes 212 = .ok (.iload_n 3, 1) := by decide +kernel
theorem dX10_secondGoes_213 : decode cX10_secondGoes 213 = .ok (.sipush 999, 3) := by decide +kernel
theorem dX10_secondGoes_216 : decode cX10_secondGoes 216 = .ok (.aload_n 0, 1) := by decide +kernel
theorem dX10_secondGoes_217 : decode cX10_secondGoes 217 = .ok (.getfield 225, 3) := by decide +kernel
theorem dX10_secondGoes_220 : decode cX10_secondGoes 220 = .ok (.isub, 1) := by decide +kernel
theorem dX10_secondGoes_221 : decode cX10_secondGoes 221 = .ok (.if_icmp .ge 7, 3) := by decide +kernel
theorem dX10_secondGoes_224 : decode cX10_secondGoes 224 = .ok (.iload_n 3, 1) := by decide +kernel
theorem dX10_secondGoes_225 : decode cX10_secondGoes 225 = .ok (.goto 11, 3) := by decide +kernel
theorem dX10_secondGoes_228 : decode cX10_secondGoes 228 = .ok (.sipush 999, 3) := by decide +kernel
theorem dX10_secondGoes_231 : decode cX10_secondGoes 231 = .ok (.aload_n 0, 1) := by decide +kernel
theorem dX10_secondGoes_232 : decode cX10_secondGoes 232 = .ok (.getfield 225, 3) := by decide +kernel
theorem dX10_secondGoes_235 : decode cX10_secondGoes 235 = .ok (.isub, 1) := by decide +kernel
theorem dX10_secondGoes_236 : decode cX10_secondGoes 236 = .ok (.istore_n 3, 1) := by decide +kernel
theorem dX10_secondGoes_237 : decode cX10_secondGoes 237 = .ok (.aload_n 0, 1) := by decide +kernel
theorem dX10_secondGoes_238 : decode cX10_secondGoes 238 = .ok (.dup, 1) := by decide +kernel
theorem dX10_secondGoes_239 : decode cX10_secondGoes 239 = .ok (.getfield 225, 3) := by decide +kernel
theorem dX10_secondGoes_242 : decode cX10_secondGoes 242 = .ok (.iload_n 3, 1) := by decide +kernel
theorem dX10_secondGoes_243 : decode cX10_secondGoes 243 = .ok (.iadd, 1) := by decide +kernel
theorem dX10_secondGoes_244 : decode cX10_secondGoes 244 = .ok (.putfield 225, 3) := by decide +kernel
theorem dX10_secondGoes_247 : decode cX10_secondGoes 247 = .ok (.aload_n 0, 1) := by decide +kernel
theorem dX10_secondGoes_248 : decode cX10_secondGoes 248 = .ok (.dup, 1) := by decide +kernel
theorem dX10_secondGoes_249 : decode cX10_secondGoes 249 = .ok (.getfield 228, 3) := by decide +kernel
theorem dX10_secondGoes_252 : decode cX10_secondGoes 252 = .ok (.iload_n 3, 1) := by decide +kernel
theorem dX10_secondGoes_253 : decode cX10_secondGoes 253 = .ok (.isub, 1) := by decide +kernel
theorem dX10_secondGoes_254 : decode cX10_secondGoes 254 = .ok (.putfield 228, 3) := by decide +kernel
theorem dX10_secondGoes_257 : decode cX10_secondGoes 257 = .ok (.aload_n 0, 1) := by decide +kernel
theorem dX10_secondGoes_258 : decode cX10_secondGoes 258 = .ok (.dup, 1) := by decide +kernel
theorem dX10_secondGoes_259 : decode cX10_secondGoes 259 = .ok (.getfield 231, 3) := by decide +kernel
theorem dX10_secondGoes_262 : decode cX10_secondGoes 262 = .ok (.iconst 1, 1) := by decide +kernel
theorem dX10_secondGoes_263 : decode cX10_secondGoes 263 = .ok (.iadd, 1) := by decide +kernel
theorem dX10_secondGoes_264 : decode cX10_secondGoes 264 = .ok (.putfield 231, 3) := by decide +kernel
theorem dX10_secondGoes_267 : decode cX10_secondGoes 267 = .ok (.return_, 1) := by decide +kernel
theorem dX10_goes_0 : decode cX10_goes 0 = .ok (.iconst 0, 1) := by decide +kernel
theorem dX10_goes_1 : decode cX10_goes 1 = .ok (.istore_n 2, 1) := by decide +kernel
theorem dX10_goes_2 : decode cX10_goes 2 = .ok (.iload_n 2, 1) := by decide +kernel
theorem dX10_goes_3 : decode cX10_goes 3 = .ok (.iload_n 1, 1) := by decide +kernel
theorem dX10_goes_4 : decode cX10_goes 4 = .ok (.if_icmp .ge 13, 3) := by decide +kernel
theorem dX10_goes_7 : decode cX10_goes 7 = .ok (.aload_n 0, 1) := by decide +kernel
theorem dX10_goes_8 : decode cX10_goes 8 = .ok (.invokevirtual 253, 3) := by decide +kernel
theorem dX10_goes_11 : decode cX10_goes 11 = .ok (.iinc 2 1, 3) := by decide +kernel
theorem dX10_goes_14 : decode cX10_goes 14 = .ok (.goto (-12), 3) := by decide +kernel
theorem dX10_goes_17 : decode cX10_goes 17 = .ok (.return_, 1) := by decide +kernel
theorem dX10_sweetOf_0 : decode cX10_sweetOf 0 = .ok (.iload_n 2, 1) := by decide +kernel
theorem dX10_sweetOf_1 : decode cX10_sweetOf 1 = .ok (.iconst 1, 1) := by decide +kernel
theorem dX10_sweetOf_2 : decode cX10_sweetOf 2 = .ok (.aload_n 0, 1) := by decide +kernel
theorem dX10_sweetOf_3 : decode cX10_sweetOf 3 = .ok (.iload_n 1, 1) := by decide +kernel
theorem dX10_sweetOf_4 : decode cX10_sweetOf 4 = .ok (.iconst 2, 1) := by decide +kernel
theorem dX10_sweetOf_5 : decode cX10_sweetOf 5 = .ok (.invokevirtual 218, 3) := by decide +kernel
theorem dX10_sweetOf_8 : decode cX10_sweetOf 8 = .ok (.aload_n 0, 1) := by decide +kernel
theorem dX10_sweetOf_9 : decode cX10_sweetOf 9 = .ok (.getfield 9, 3) := by decide +kernel
theorem dX10_sweetOf_12 : decode cX10_sweetOf 12 = .ok (.bipush 25, 2) := by decide +kernel
theorem dX10_sweetOf_14 : decode cX10_sweetOf 14 = .ok (.iaload, 1) := by decide +kernel
theorem dX10_sweetOf_15 : decode cX10_sweetOf 15 = .ok (.if_icmp .ge 13, 3) := by decide +kernel
theorem dX10_sweetOf_18 : decode cX10_sweetOf 18 = .ok (.aload_n 0, 1) := by decide +kernel
theorem dX10_sweetOf_19 : decode cX10_sweetOf 19 = .ok (.getfield 9, 3) := by decide +kernel
theorem dX10_sweetOf_22 : decode cX10_sweetOf 22 = .ok (.bipush 26, 2) := by decide +kernel
theorem dX10_sweetOf_24 : decode cX10_sweetOf 24 = .ok (.iaload, 1) := by decide +kernel
theorem dX10_sweetOf_25 : decode cX10_sweetOf 25 = .ok (.goto 4, 3) := by decide +kernel
theorem dX10_sweetOf_28 : decode cX10_sweetOf 28 = .ok (.iconst 0, 1) := by decide +kernel
theorem dX10_sweetOf_29 : decode cX10_sweetOf 29 = .ok (.iadd, 1) := by decide +kernel
theorem dX10_sweetOf_30 : decode cX10_sweetOf 30 = .ok (.imul, 1) := by decide +kernel
theorem dX10_sweetOf_31 : decode cX10_sweetOf 31 = .ok (.ireturn, 1) := by decide +kernel
theorem dX10_glass_0 : decode cX10_glass 0 = .ok (.iload_n 1, 1) := by decide +kernel
theorem dX10_glass_1 : decode cX10_glass 1 = .ok (.i2l, 1) := by decide +kernel
theorem dX10_glass_2 : decode cX10_glass 2 = .ok (.lconst 0, 1) := by decide +kernel
theorem dX10_glass_3 : decode cX10_glass 3 = .ok (.ldc2_w 113, 3) := by decide +kernel
theorem dX10_glass_6 : decode cX10_glass 6 = .ok (.invokestatic 105, 3) := by decide +kernel
theorem dX10_glass_9 : decode cX10_glass 9 = .ok (.ifCond .eq 23, 3) := by decide +kernel
theorem dX10_glass_12 : decode cX10_glass 12 = .ok (.aload_n 0, 1) := by decide +kernel
theorem dX10_glass_13 : decode cX10_glass 13 = .ok (.iload_n 2, 1) := by decide +kernel
theorem dX10_glass_14 : decode cX10_glass 14 = .ok (.invokevirtual 130, 3) := by decide +kernel
theorem dX10_glass_17 : decode cX10_glass 17 = .ok (.ifCond .eq 15, 3) := by decide +kernel
theorem dX10_glass_20 : decode cX10_glass 20 = .ok (.iload_n 3, 1) := by decide +kernel
theorem dX10_glass_21 : decode cX10_glass 21 = .ok (.i2l, 1) := by decide +kernel
theorem dX10_glass_22 : decode cX10_glass 22 = .ok (.lconst 0, 1) := by decide +kernel
theorem dX10_glass_23 : decode cX10_glass 23 = .ok (.ldc2_w 256, 3) := by decide +kernel
theorem dX10_glass_26 : decode cX10_glass 26 = .ok (.invokestatic 105, 3) := by decide +kernel
theorem dX10_glass_29 : decode cX10_glass 29 = .ok (.ifCond .ne 5, 3) := by decide +kernel
theorem dX10_glass_32 : decode cX10_glass 32 = .ok (.iconst (-1), 1) := by decide +kernel
theorem dX10_glass_33 : decode cX10_glass 33 = .ok (.ireturn, 1) := by decide +kernel
theorem dX10_glass_34 : decode cX10_glass 34 = .ok (.aload_n 0, 1) := by decide +kernel
theorem dX10_glass_35 : decode cX10_glass 35 = .ok (.invokevirtual 258, 3) := by decide +kernel
theorem dX10_glass_38 : decode cX10_glass 38 = .ok (.aload_n 0, 1) := by decide +kernel
theorem dX10_glass_39 : decode cX10_glass 39 = .ok (.iload_n 1, 1) := by decide +kernel
theorem dX10_glass_40 : decode cX10_glass 40 = .ok (.invokevirtual 261, 3) := by decide +kernel
theorem dX10_glass_43 : decode cX10_glass 43 = .ok (.iload_n 3, 1) := by decide +kernel
theorem dX10_glass_44 : decode cX10_glass 44 = .ok (.ifCond .ne 12, 3) := by decide +kernel
theorem dX10_glass_47 : decode cX10_glass 47 = .ok (.aload_n 0, 1) := by decide +kernel
theorem dX10_glass_48 : decode cX10_glass 48 = .ok (.getfield 37, 3) := by decide +kernel
theorem dX10_glass_51 : decode cX10_glass 51 = .ok (.iload_n 2, 1) := by decide +kernel
theorem dX10_glass_52 : decode cX10_glass 52 = .ok (.iaload, 1) := by decide +kernel
theorem dX10_glass_53 : decode cX10_glass 53 = .ok (.goto 28, 3) := by decide +kernel
theorem dX10_glass_56 : decode cX10_glass 56 = .ok (.iload_n 3, 1) := by decide +kernel
theorem dX10_glass_57 : decode cX10_glass 57 = .ok (.iconst 1, 1) := by decide +kernel
theorem dX10_glass_58 : decode cX10_glass 58 = .ok (.if_icmp .ne 17, 3) := by decide +kernel
theorem dX10_glass_61 : decode cX10_glass 61 = .ok (.aload_n 0, 1) := by decide +kernel
theorem dX10_glass_62 : decode cX10_glass 62 = .ok (.iload_n 2, 1) := by decide +kernel
theorem dX10_glass_63 : decode cX10_glass 63 = .ok (.aload_n 0, 1) := by decide +kernel
theorem dX10_glass_64 : decode cX10_glass 64 = .ok (.getfield 37, 3) := by decide +kernel
theorem dX10_glass_67 : decode cX10_glass 67 = .ok (.iload_n 2, 1) := by decide +kernel
theorem dX10_glass_68 : decode cX10_glass 68 = .ok (.iaload, 1) := by decide +kernel
theorem dX10_glass_69 : decode cX10_glass 69 = .ok (.invokevirtual 265, 3) := by decide +kernel
theorem dX10_glass_72 : decode cX10_glass 72 = .ok (.goto 9, 3) := by decide +kernel
theorem dX10_glass_75 : decode cX10_glass 75 = .ok (.aload_n 0, 1) := by decide +kernel
theorem dX10_glass_76 : decode cX10_glass 76 = .ok (.getfield 40, 3) := by decide +kernel
theorem dX10_glass_79 : decode cX10_glass 79 = .ok (.iload_n 2, 1) := by decide +kernel
theorem dX10_glass_80 : decode cX10_glass 80 = .ok (.iaload, 1) := by decide +kernel
theorem dX10_glass_81 : decode cX10_glass 81 = .ok (.ireturn, 1) := by decide +kernel
theorem dX10_level_0 : decode cX10_level 0 = .ok (.iload_n 1, 1) := by decide +kernel
theorem dX10_level_1 : decode cX10_level 1 = .ok (.i2l, 1) := by decide +kernel
theorem dX10_level_2 : decode cX10_level 2 = .ok (.lconst 0, 1) := by decide +kernel
theorem dX10_level_3 : decode cX10_level 3 = .ok (.ldc2_w 113, 3) := by decide +kernel
theorem dX10_level_6 : decode cX10_level 6 = .ok (.invokestatic 105, 3) := by decide +kernel
theorem dX10_level_9 : decode cX10_level 9 = .ok (.ifCond .eq 13, 3) := by decide +kernel
theorem dX10_level_12 : decode cX10_level 12 = .ok (.iload_n 2, 1) := by decide +kernel
theorem dX10_level_13 : decode cX10_level 13 = .ok (.i2l, 1) := by decide +kernel
theorem dX10_level_14 : decode cX10_level 14 = .ok (.lconst 0, 1) := by decide +kernel
theorem dX10_level_15 : decode cX10_level 15 = .ok (.lconst 1, 1) := by decide +kernel
theorem dX10_level_16 : decode cX10_level 16 = .ok (.invokestatic 105, 3) := by decide +kernel
theorem dX10_level_19 : decode cX10_level 19 = .ok (.ifCond .ne 5, 3) := by decide +kernel
theorem dX10_level_22 : decode cX10_level 22 = .ok (.iconst (-1), 1) := by decide +kernel
theorem dX10_level_23 : decode cX10_level 23 = .ok (.ireturn, 1) := by decide +kernel
theorem dX10_level_24 : decode cX10_level 24 = .ok (.aload_n 0, 1) := by decide +kernel
theorem dX10_level_25 : decode cX10_level 25 = .ok (.invokevirtual 258, 3) := by decide +kernel
theorem dX10_level_28 : decode cX10_level 28 = .ok (.aload_n 0, 1) := by decide +kernel
theorem dX10_level_29 : decode cX10_level 29 = .ok (.iload_n 1, 1) := by decide +kernel
theorem dX10_level_30 : decode cX10_level 30 = .ok (.invokevirtual 261, 3) := by decide +kernel
theorem dX10_level_33 : decode cX10_level 33 = .ok (.iload_n 2, 1) := by decide +kernel
theorem dX10_level_34 : decode cX10_level 34 = .ok (.ifCond .ne 10, 3) := by decide +kernel
theorem dX10_level_37 : decode cX10_level 37 = .ok (.aload_n 0, 1) := by decide +kernel
theorem dX10_level_38 : decode cX10_level 38 = .ok (.getfield 225, 3) := by decide +kernel
theorem dX10_level_41 : decode cX10_level 41 = .ok (.goto 7, 3) := by decide +kernel
theorem dX10_level_44 : decode cX10_level 44 = .ok (.aload_n 0, 1) := by decide +kernel
theorem dX10_level_45 : decode cX10_level 45 = .ok (.getfield 228, 3) := by decide +kernel
theorem dX10_level_48 : decode cX10_level 48 = .ok (.ireturn, 1) := by decide +kernel
theorem dX10_isEmpty_0 : decode cX10_isEmpty 0 = .ok (.aload_n 0, 1) := by decide +kernel
theorem dX10_isEmpty_1 : decode cX10_isEmpty 1 = .ok (.getfield 228, 3) := by decide +kernel
theorem dX10_isEmpty_4 : decode cX10_isEmpty 4 = .ok (.ifCond .ne 7, 3) := by decide +kernel
theorem dX10_isEmpty_7 : decode cX10_isEmpty 7 = .ok (.iconst 1, 1) := by decide +kernel
theorem dX10_isEmpty_8 : decode cX10_isEmpty 8 = .ok (.goto 4, 3) := by decide +kernel
theorem dX10_isEmpty_11 : decode cX10_isEmpty 11 = .ok (.iconst 0, 1) := by decide +kernel
theorem dX10_isEmpty_12 : decode cX10_isEmpty 12 = .ok (.istore_n 1, 1) := by decide +kernel
theorem dX10_isEmpty_13 : decode cX10_isEmpty 13 = .ok (.iconst 0, 1) := by decide +kernel
theorem dX10_isEmpty_14 : decode cX10_isEmpty 14 = .ok (.istore_n 2, 1) := by decide +kernel
theorem dX10_isEmpty_15 : decode cX10_isEmpty 15 = .ok (.iload_n 2, 1) := by decide +kernel
theorem dX10_isEmpty_16 : decode cX10_isEmpty 16 = .ok (.aload_n 0, 1) := by decide +kernel
theorem dX10_isEmpty_17 : decode cX10_isEmpty 17 = .ok (.getfield 102, 3) := by decide +kernel
theorem dX10_isEmpty_20 : decode cX10_isEmpty 20 = .ok (.if_icmp .ge 44, 3) := by decide +kernel
theorem dX10_isEmpty_23 : decode cX10_isEmpty 23 = .ok (.iload_n 1, 1) := by decide +kernel
theorem dX10_isEmpty_24 : decode cX10_isEmpty 24 = .ok (.aload_n 0, 1) := by decide +kernel
theorem dX10_isEmpty_25 : decode cX10_isEmpty 25 = .ok (.getfield 231, 3) := by decide +kernel
theorem dX10_isEmpty_28 : decode cX10_isEmpty 28 = .ok (.aload_n 0, 1) := by decide +kernel
theorem dX10_isEmpty_29 : decode cX10_isEmpty 29 = .ok (.iload_n 2, 1) := by decide +kernel
theorem dX10_isEmpty_30 : decode cX10_isEmpty 30 = .ok (.bipush 7, 2) := by decide +kernel
theorem dX10_isEmpty_32 : decode cX10_isEmpty 32 = .ok (.invokevirtual 218, 3) := by decide +kernel
theorem dX10_isEmpty_35 : decode cX10_isEmpty 35 = .ok (.if_icmp .ge 16, 3) := by decide +kernel
theorem dX10_isEmpty_38 : decode cX10_isEmpty 38 = .ok (.aload_n 0, 1) := by decide +kernel
theorem dX10_isEmpty_39 : decode cX10_isEmpty 39 = .ok (.getfield 225, 3) := by decide +kernel
theorem dX10_isEmpty_42 : decode cX10_isEmpty 42 = .ok (.aload_n 0, 1) := by decide +kernel
theorem dX10_isEmpty_43 : decode cX10_isEmpty 43 = .ok (.iload_n 2, 1) := by decide +kernel
theorem dX10_isEmpty_44 : decode cX10_isEmpty 44 = .ok (.iconst 2, 1) := by decide +kernel
theorem dX10_isEmpty_45 : decode cX10_isEmpty 45 = .ok (.invokevirtual 218, 3) := by decide +kernel
theorem dX10_isEmpty_48 : decode cX10_isEmpty 48 = .ok (.if_icmp .gt 7, 3) := by decide +kernel
theorem dX10_isEmpty_51 : decode cX10_isEmpty 51 = .ok (.iconst 1, 1) := by decide +kernel
theorem dX10_isEmpty_52 : decode cX10_isEmpty 52 = .ok (.goto 4, 3) := by decide +kernel
theorem dX10_isEmpty_55 : decode cX10_isEmpty 55 = .ok (.iconst 0, 1) := by decide +kernel
theorem dX10_isEmpty_56 : decode cX10_isEmpty 56 = .ok (.iand, 1) := by decide +kernel
theorem dX10_isEmpty_57 : decode cX10_isEmpty 57 = .ok (.istore_n 1, 1) := by decide +kernel
theorem dX10_isEmpty_58 : decode cX10_isEmpty 58 = .ok (.iinc 2 1, 3) := by decide +kernel
theorem dX10_isEmpty_61 : decode cX10_isEmpty 61 = .ok (.goto (-46), 3) := by decide +kernel
theorem dX10_isEmpty_64 : decode cX10_isEmpty 64 = .ok (.iload_n 1, 1) := by decide +kernel
theorem dX10_isEmpty_65 : decode cX10_isEmpty 65 = .ok (.ireturn, 1) := by decide +kernel
theorem dX10_empty_0 : decode cX10_empty 0 = .ok (.aload_n 0, 1) := by decide +kernel
theorem dX10_empty_1 : decode cX10_empty 1 = .ok (.invokevirtual 258, 3) := by decide +kernel
theorem dX10_empty_4 : decode cX10_empty 4 = .ok (.iconst 0, 1) := by decide +kernel
theorem dX10_empty_5 : decode cX10_empty 5 = .ok (.istore_n 1, 1) := by decide +kernel
theorem dX10_empty_6 : decode cX10_empty 6 = .ok (.iload_n 1, 1) := by decide +kernel
theorem dX10_empty_7 : decode cX10_empty 7 = .ok (.sipush 999, 3) := by decide +kernel
theorem dX10_empty_10 : decode cX10_empty 10 = .ok (.if_icmp .gt 22, 3) := by decide +kernel
theorem dX10_empty_13 : decode cX10_empty 13 = .ok (.aload_n 0, 1) := by decide +kernel
theorem dX10_empty_14 : decode cX10_empty 14 = .ok (.invokevirtual 268, 3) := by decide +kernel
theorem dX10_empty_17 : decode cX10_empty 17 = .ok (.ifCond .eq 5, 3) := by decide +kernel
theorem dX10_empty_20 : decode cX10_empty 20 = .ok (.iload_n 1, 1) := by decide +kernel
theorem dX10_empty_21 : decode cX10_empty 21 = .ok (.ireturn, 1) := by decide +kernel
theorem dX10_empty_22 : decode cX10_empty 22 = .ok (.aload_n 0, 1) := by decide +kernel
theorem dX10_empty_23 : decode cX10_empty 23 = .ok (.invokevirtual 253, 3) := by decide +kernel
theorem dX10_empty_26 : decode cX10_empty 26 = .ok (.iinc 1 1, 3) := by decide +kernel
theorem dX10_empty_29 : decode cX10_empty 29 = .ok (.goto (-23), 3) := by decide +kernel
theorem dX10_empty_32 : decode cX10_empty 32 = .ok (.bipush (-2), 2) := by decide +kernel
theorem dX10_empty_34 : decode cX10_empty 34 = .ok (.ireturn, 1) := by decide +kernel
theorem dX10_more_0 : decode cX10_more 0 = .ok (.iload_n 1, 1) := by decide +kernel
theorem dX10_more_1 : decode cX10_more 1 = .ok (.i2l, 1) := by decide +kernel
theorem dX10_more_2 : decode cX10_more 2 = .ok (.lconst 0, 1) := by decide +kernel
theorem dX10_more_3 : decode cX10_more 3 = .ok (.ldc2_w 113, 3) := by decide +kernel
theorem dX10_more_6 : decode cX10_more 6 = .ok (.invokestatic 105, 3) := by decide +kernel
theorem dX10_more_9 : decode cX10_more 9 = .ok (.ifCond .eq 13, 3) := by decide +kernel
theorem dX10_more_12 : decode cX10_more 12 = .ok (.iload_n 2, 1) := by decide +kernel
theorem dX10_more_13 : decode cX10_more 13 = .ok (.i2l, 1) := by decide +kernel
theorem dX10_more_14 : decode cX10_more 14 = .ok (.lconst 0, 1) := by decide +kernel
theorem dX10_more_15 : decode cX10_more 15 = .ok (.lconst 1, 1) := by decide +kernel
theorem dX10_more_16 : decode cX10_more 16 = .ok (.invokestatic 105, 3) := by decide +kernel
theorem dX10_more_19 : decode cX10_more 19 = .ok (.ifCond .ne 5, 3) := by decide +kernel
theorem dX10_more_22 : decode cX10_more 22 = .ok (.iconst (-1), 1) := by decide +kernel
theorem dX10_more_23 : decode cX10_more 23 = .ok (.ireturn, 1) := by decide +kernel
theorem dX10_more_24 : decode cX10_more 24 = .ok (.aload_n 0, 1) := by decide +kernel
theorem dX10_more_25 : decode cX10_more 25 = .ok (.getfield 102, 3) := by decide +kernel
theorem dX10_more_28 : decode cX10_more 28 = .ok (.ifCond .ne 14, 3) := by decide +kernel
theorem dX10_more_31 : decode cX10_more 31 = .ok (.iload_n 2, 1) := by decide +kernel
theorem dX10_more_32 : decode cX10_more 32 = .ok (.ifCond .ne 8, 3) := by decide +kernel
theorem dX10_more_35 : decode cX10_more 35 = .ok (.bipush (-2), 2) := by decide +kernel
theorem dX10_more_37 : decode cX10_more 37 = .ok (.goto 4, 3) := by decide +kernel
theorem dX10_more_40 : decode cX10_more 40 = .ok (.iconst 0, 1) := by decide +kernel
theorem dX10_more_41 : decode cX10_more 41 = .ok (.ireturn, 1) := by decide +kernel
theorem dX10_more_42 : decode cX10_more 42 = .ok (.aload_n 0, 1) := by decide +kernel
theorem dX10_more_43 : decode cX10_more 43 = .ok (.invokevirtual 258, 3) := by decide +kernel
theorem dX10_more_46 : decode cX10_more 46 = .ok (.aload_n 0, 1) := by decide +kernel
theorem dX10_more_47 : decode cX10_more 47 = .ok (.iload_n 1, 1) := by decide +kernel
theorem dX10_more_48 : decode cX10_more 48 = .ok (.invokevirtual 261, 3) := by decide +kernel
theorem dX10_more_51 : decode cX10_more 51 = .ok (.iconst 0, 1) := by decide +kernel
theorem dX10_more_52 : decode cX10_more 52 = .ok (.istore_n 3, 1) := by decide +kernel
theorem dX10_more_53 : decode cX10_more 53 = .ok (.iconst 0, 1) := by decide +kernel
theorem dX10_more_54 : decode cX10_more 54 = .ok (.istore 4, 2) := by decide +kernel
theorem dX10_more_56 : decode cX10_more 56 = .ok (.iconst 1, 1) := by decide +kernel
theorem dX10_more_57 : decode cX10_more 57 = .ok (.istore 5, 2) := by decide +kernel
theorem dX10_more_59 : decode cX10_more 59 = .ok (.iload 5, 2) := by decide +kernel
theorem dX10_more_61 : decode cX10_more 61 = .ok (.aload_n 0, 1) := by decide +kernel
theorem dX10_more_62 : decode cX10_more 62 = .ok (.getfield 102, 3) := by decide +kernel
theorem dX10_more_65 : decode cX10_more 65 = .ok (.if_icmp .ge 58, 3) := by decide +kernel
theorem dX10_more_68 : decode cX10_more 68 = .ok (.aload_n 0, 1) := by decide +kernel
theorem dX10_more_69 : decode cX10_more 69 = .ok (.getfield 37, 3) := by decide +kernel
theorem dX10_more_72 : decode cX10_more 72 = .ok (.iload 5, 2) := by decide +kernel
theorem dX10_more_74 : decode cX10_more 74 = .ok (.iaload, 1) := by decide +kernel
theorem dX10_more_75 : decode cX10_more 75 = .ok (.aload_n 0, 1) := by decide +kernel
theorem dX10_more_76 : decode cX10_more 76 = .ok (.getfield 37, 3) := by decide +kernel
theorem dX10_more_79 : decode cX10_more 79 = .ok (.iload_n 3, 1) := by decide +kernel
theorem dX10_more_80 : decode cX10_more 80 = .ok (.iaload, 1) := by decide +kernel
theorem dX10_more_81 : decode cX10_more 81 = .ok (.if_icmp .le 8, 3) := by decide +kernel
theorem dX10_more_84 : decode cX10_more 84 = .ok (.iload 5, 2) := by decide +kernel
theorem dX10_more_86 : decode cX10_more 86 = .ok (.goto 4, 3) := by decide +kernel
theorem dX10_more_89 : decode cX10_more 89 = .ok (.iload_n 3, 1) := by decide +kernel
theorem dX10_more_90 : decode cX10_more 90 = .ok (.istore_n 3, 1) := by decide +kernel
theorem dX10_more_91 : decode cX10_more 91 = .ok (.aload_n 0, 1) := by decide +kernel
theorem dX10_more_92 : decode cX10_more 92 = .ok (.getfield 37, 3) := by decide +kernel
theorem dX10_more_95 : decode cX10_more 95 = .ok (.iload 5, 2) := by decide +kernel
theorem dX10_more_97 : decode cX10_more 97 = .ok (.iaload, 1) := by decide +kernel
theorem dX10_more_98 : decode cX10_more 98 = .ok (.aload_n 0, 1) := by decide +kernel
theorem dX10_more_99 : decode cX10_more 99 = .ok (.getfield 37, 3) := by decide +kernel
theorem dX10_more_102 : decode cX10_more 102 = .ok (.iload 4, 2) := by decide +kernel
theorem dX10_more_104 : decode cX10_more 104 = .ok (.iaload, 1) := by decide +kernel
theorem dX10_more_105 : decode cX10_more 105 = .ok (.if_icmp .ge 8, 3) := by decide +kernel
theorem dX10_more_108 : decode cX10_more 108 = .ok (.iload 5, 2) := by decide +kernel
theorem dX10_more_110 : decode cX10_more 110 = .ok (.goto 5, 3) := by decide +kernel
theorem dX10_more_113 : decode cX10_more 113 = .ok (.iload 4, 2) := by decide +kernel
theorem dX10_more_115 : decode cX10_more 115 = .ok (.istore 4, 2) := by decide +kernel
theorem dX10_more_117 : decode cX10_more 117 = .ok (.iinc 5 1, 3) := by decide +kernel
theorem dX10_more_120 : decode cX10_more 120 = .ok (.goto (-61), 3) := by decide +kernel
theorem dX10_more_123 : decode cX10_more 123 = .ok (.iload_n 2, 1) := by decide +kernel
theorem dX10_more_124 : decode cX10_more 124 = .ok (.ifCond .ne 7, 3) := by decide +kernel
theorem dX10_more_127 : decode cX10_more 127 = .ok (.iload_n 3, 1) := by decide +kernel
theorem dX10_more_128 : decode cX10_more 128 = .ok (.goto 17, 3) := by decide +kernel
theorem dX10_more_131 : decode cX10_more 131 = .ok (.aload_n 0, 1) := by decide +kernel
theorem dX10_more_132 : decode cX10_more 132 = .ok (.getfield 37, 3) := by decide +kernel
theorem dX10_more_135 : decode cX10_more 135 = .ok (.iload_n 3, 1) := by decide +kernel
theorem dX10_more_136 : decode cX10_more 136 = .ok (.iaload, 1) := by decide +kernel
theorem dX10_more_137 : decode cX10_more 137 = .ok (.aload_n 0, 1) := by decide +kernel
theorem dX10_more_138 : decode cX10_more 138 = .ok (.getfield 37, 3) := by decide +kernel
theorem dX10_more_141 : decode cX10_more 141 = .ok (.iload 4, 2) := by decide +kernel
theorem dX10_more_143 : decode cX10_more 143 = .ok (.iaload, 1) := by decide +kernel
theorem dX10_more_144 : decode cX10_more 144 = .ok (.isub, 1) := by decide +kernel
theorem dX10_more_145 : decode cX10_more 145 = .ok (.ireturn, 1) := by decide +kernel
theorem dX10_turns_0 : decode cX10_turns 0 = .ok (.iload_n 1, 1) := by decide +kernel
theorem dX10_turns_1 : decode cX10_turns 1 = .ok (.i2l, 1) := by decide +kernel
theorem dX10_turns_2 : decode cX10_turns 2 = .ok (.lconst 0, 1) := by decide +kernel
theorem dX10_turns_3 : decode cX10_turns 3 = .ok (.ldc2_w 113, 3) := by decide +kernel
theorem dX10_turns_6 : decode cX10_turns 6 = .ok (.invokestatic 105, 3) := by decide +kernel
theorem dX10_turns_9 : decode cX10_turns 9 = .ok (.ifCond .eq 41, 3) := by decide +kernel
theorem dX10_turns_12 : decode cX10_turns 12 = .ok (.iload_n 2, 1) := by decide +kernel
theorem dX10_turns_13 : decode cX10_turns 13 = .ok (.ifCond .lt 37, 3) := by decide +kernel
theorem dX10_turns_16 : decode cX10_turns 16 = .ok (.iload_n 2, 1) := by decide +kernel
theorem dX10_turns_17 : decode cX10_turns 17 = .ok (.bipush 10, 2) := by decide +kernel
theorem dX10_turns_19 : decode cX10_turns 19 = .ok (.idiv, 1) := by decide +kernel
theorem dX10_turns_20 : decode cX10_turns 20 = .ok (.i2l, 1) := by decide +kernel
theorem dX10_turns_21 : decode cX10_turns 21 = .ok (.lconst 1, 1) := by decide +kernel
theorem dX10_turns_22 : decode cX10_turns 22 = .ok (.ldc2_w 139, 3) := by decide +kernel
theorem dX10_turns_25 : decode cX10_turns 25 = .ok (.invokestatic 105, 3) := by decide +kernel
theorem dX10_turns_28 : decode cX10_turns 28 = .ok (.ifCond .eq 22, 3) := by decide +kernel
theorem dX10_turns_31 : decode cX10_turns 31 = .ok (.aload_n 0, 1) := by decide +kernel
theorem dX10_turns_32 : decode cX10_turns 32 = .ok (.iload_n 2, 1) := by decide +kernel
theorem dX10_turns_33 : decode cX10_turns 33 = .ok (.bipush 10, 2) := by decide +kernel
theorem dX10_turns_35 : decode cX10_turns 35 = .ok (.irem, 1) := by decide +kernel
theorem dX10_turns_36 : decode cX10_turns 36 = .ok (.invokevirtual 130, 3) := by decide +kernel
theorem dX10_turns_39 : decode cX10_turns 39 = .ok (.ifCond .eq 11, 3) := by decide +kernel
theorem dX10_turns_42 : decode cX10_turns 42 = .ok (.aload_n 0, 1) := by decide +kernel
theorem dX10_turns_43 : decode cX10_turns 43 = .ok (.iload_n 3, 1) := by decide +kernel
theorem dX10_turns_44 : decode cX10_turns 44 = .ok (.invokevirtual 130, 3) := by decide +kernel
theorem dX10_turns_47 : decode cX10_turns 47 = .ok (.ifCond .ne 5, 3) := by decide +kernel
theorem dX10_turns_50 : decode cX10_turns 50 = .ok (.iconst (-1), 1) := by decide +kernel
theorem dX10_turns_51 : decode cX10_turns 51 = .ok (.ireturn, 1) := by decide +kernel
theorem dX10_turns_52 : decode cX10_turns 52 = .ok (.aload_n 0, 1) := by decide +kernel
theorem dX10_turns_53 : decode cX10_turns 53 = .ok (.invokevirtual 258, 3) := by decide +kernel
theorem dX10_turns_56 : decode cX10_turns 56 = .ok (.aload_n 0, 1) := by decide +kernel
theorem dX10_turns_57 : decode cX10_turns 57 = .ok (.iconst 1, 1) := by decide +kernel
theorem dX10_turns_58 : decode cX10_turns 58 = .ok (.putfield 237, 3) := by decide +kernel
theorem dX10_turns_61 : decode cX10_turns 61 = .ok (.iconst 0, 1) := by decide +kernel
theorem dX10_turns_62 : decode cX10_turns 62 = .ok (.istore 4, 2) := by decide +kernel
theorem dX10_turns_64 : decode cX10_turns 64 = .ok (.iload 4, 2) := by decide +kernel
theorem dX10_turns_66 : decode cX10_turns 66 = .ok (.iload_n 1, 1) := by decide +kernel
theorem dX10_turns_67 : decode cX10_turns 67 = .ok (.if_icmp .ge 36, 3) := by decide +kernel
theorem dX10_turns_70 : decode cX10_turns 70 = .ok (.aload_n 0, 1) := by decide +kernel
theorem dX10_turns_71 : decode cX10_turns 71 = .ok (.iconst 1, 1) := by decide +kernel
theorem dX10_turns_72 : decode cX10_turns 72 = .ok (.iload_n 2, 1) := by decide +kernel
theorem dX10_turns_73 : decode cX10_turns 73 = .ok (.bipush 10, 2) := by decide +kernel
theorem dX10_turns_75 : decode cX10_turns 75 = .ok (.irem, 1) := by decide +kernel
theorem dX10_turns_76 : decode cX10_turns 76 = .ok (.iload 4, 2) := by decide +kernel
theorem dX10_turns_78 : decode cX10_turns 78 = .ok (.iload_n 2, 1) := by decide +kernel
theorem dX10_turns_79 : decode cX10_turns 79 = .ok (.bipush 10, 2) := by decide +kernel
theorem dX10_turns_81 : decode cX10_turns 81 = .ok (.idiv, 1) := by decide +kernel
theorem dX10_turns_82 : decode cX10_turns 82 = .ok (.idiv, 1) := by decide +kernel
theorem dX10_turns_83 : decode cX10_turns 83 = .ok (.iadd, 1) := by decide +kernel
theorem dX10_turns_84 : decode cX10_turns 84 = .ok (.aload_n 0, 1) := by decide +kernel
theorem dX10_turns_85 : decode cX10_turns 85 = .ok (.getfield 102, 3) := by decide +kernel
theorem dX10_turns_88 : decode cX10_turns 88 = .ok (.irem, 1) := by decide +kernel
theorem dX10_turns_89 : decode cX10_turns 89 = .ok (.ishl, 1) := by decide +kernel
theorem dX10_turns_90 : decode cX10_turns 90 = .ok (.putfield 234, 3) := by decide +kernel
theorem dX10_turns_93 : decode cX10_turns 93 = .ok (.aload_n 0, 1) := by decide +kernel
theorem dX10_turns_94 : decode cX10_turns 94 = .ok (.invokevirtual 253, 3) := by decide +kernel
theorem dX10_turns_97 : decode cX10_turns 97 = .ok (.iinc 4 1, 3) := by decide +kernel
theorem dX10_turns_100 : decode cX10_turns 100 = .ok (.goto (-36), 3) := by decide +kernel
theorem dX10_turns_103 : decode cX10_turns 103 = .ok (.aload_n 0, 1) := by decide +kernel
theorem dX10_turns_104 : decode cX10_turns 104 = .ok (.getfield 37, 3) := by decide +kernel
theorem dX10_turns_107 : decode cX10_turns 107 = .ok (.iload_n 3, 1) := by decide +kernel
theorem dX10_turns_108 : decode cX10_turns 108 = .ok (.iaload, 1) := by decide +kernel
theorem dX10_turns_109 : decode cX10_turns 109 = .ok (.ireturn, 1) := by decide +kernel
theorem dX10_areTwo_0 : decode cX10_areTwo 0 = .ok (.iload_n 1, 1) := by decide +kernel
theorem dX10_areTwo_1 : decode cX10_areTwo 1 = .ok (.ifCond .lt 40, 3) := by decide +kernel
theorem dX10_areTwo_4 : decode cX10_areTwo 4 = .ok (.aload_n 0, 1) := by decide +kernel
theorem dX10_areTwo_5 : decode cX10_areTwo 5 = .ok (.iload_n 1, 1) := by decide +kernel
theorem dX10_areTwo_6 : decode cX10_areTwo 6 = .ok (.bipush 10, 2) := by decide +kernel
theorem dX10_areTwo_8 : decode cX10_areTwo 8 = .ok (.idiv, 1) := by decide +kernel
theorem dX10_areTwo_9 : decode cX10_areTwo 9 = .ok (.invokevirtual 130, 3) := by decide +kernel
theorem dX10_areTwo_12 : decode cX10_areTwo 12 = .ok (.ifCond .eq 29, 3) := by decide +kernel
theorem dX10_areTwo_15 : decode cX10_areTwo 15 = .ok (.aload_n 0, 1) := by decide +kernel
theorem dX10_areTwo_16 : decode cX10_areTwo 16 = .ok (.iload_n 1, 1) := by decide +kernel
theorem dX10_areTwo_17 : decode cX10_areTwo 17 = .ok (.bipush 10, 2) := by decide +kernel
theorem dX10_areTwo_19 : decode cX10_areTwo 19 = .ok (.irem, 1) := by decide +kernel
theorem dX10_areTwo_20 : decode cX10_areTwo 20 = .ok (.invokevirtual 130, 3) := by decide +kernel
theorem dX10_areTwo_23 : decode cX10_areTwo 23 = .ok (.ifCond .eq 18, 3) := by decide +kernel
theorem dX10_areTwo_26 : decode cX10_areTwo 26 = .ok (.iload_n 1, 1) := by decide +kernel
theorem dX10_areTwo_27 : decode cX10_areTwo 27 = .ok (.bipush 10, 2) := by decide +kernel
theorem dX10_areTwo_29 : decode cX10_areTwo 29 = .ok (.idiv, 1) := by decide +kernel
theorem dX10_areTwo_30 : decode cX10_areTwo 30 = .ok (.iload_n 1, 1) := by decide +kernel
theorem dX10_areTwo_31 : decode cX10_areTwo 31 = .ok (.bipush 10, 2) := by decide +kernel
theorem dX10_areTwo_33 : decode cX10_areTwo 33 = .ok (.irem, 1) := by decide +kernel
theorem dX10_areTwo_34 : decode cX10_areTwo 34 = .ok (.if_icmp .eq 7, 3) := by decide +kernel
theorem dX10_areTwo_37 : decode cX10_areTwo 37 = .ok (.iconst 1, 1) := by decide +kernel
theorem dX10_areTwo_38 : decode cX10_areTwo 38 = .ok (.goto 4, 3) := by decide +kernel
theorem dX10_areTwo_41 : decode cX10_areTwo 41 = .ok (.iconst 0, 1) := by decide +kernel
theorem dX10_areTwo_42 : decode cX10_areTwo 42 = .ok (.ireturn, 1) := by decide +kernel
theorem dX10_mark_0 : decode cX10_mark 0 = .ok (.aload_n 0, 1) := by decide +kernel
theorem dX10_mark_1 : decode cX10_mark 1 = .ok (.iload_n 1, 1) := by decide +kernel
theorem dX10_mark_2 : decode cX10_mark 2 = .ok (.invokevirtual 272, 3) := by decide +kernel
theorem dX10_mark_5 : decode cX10_mark 5 = .ok (.ifCond .ne 5, 3) := by decide +kernel
theorem dX10_mark_8 : decode cX10_mark 8 = .ok (.iconst (-1), 1) := by decide +kernel
theorem dX10_mark_9 : decode cX10_mark 9 = .ok (.ireturn, 1) := by decide +kernel
theorem dX10_mark_10 : decode cX10_mark 10 = .ok (.aload_n 0, 1) := by decide +kernel
theorem dX10_mark_11 : decode cX10_mark 11 = .ok (.getfield 93, 3) := by decide +kernel
theorem dX10_mark_14 : decode cX10_mark 14 = .ok (.istore_n 2, 1) := by decide +kernel
theorem dX10_mark_15 : decode cX10_mark 15 = .ok (.iconst 0, 1) := by decide +kernel
theorem dX10_mark_16 : decode cX10_mark 16 = .ok (.istore_n 3, 1) := by decide +kernel
theorem dX10_mark_17 : decode cX10_mark 17 = .ok (.iload_n 3, 1) := by decide +kernel
theorem dX10_mark_18 : decode cX10_mark 18 = .ok (.bipush 99, 2) := by decide +kernel
theorem dX10_mark_20 : decode cX10_mark 20 = .ok (.if_icmp .gt 91, 3) := by decide +kernel
theorem dX10_mark_23 : decode cX10_mark 23 = .ok (.aload_n 0, 1) := by decide +kernel
theorem dX10_mark_24 : decode cX10_mark 24 = .ok (.invokevirtual 258, 3) := by decide +kernel
theorem dX10_mark_27 : decode cX10_mark 27 = .ok (.aload_n 0, 1) := by decide +kernel
theorem dX10_mark_28 : decode cX10_mark 28 = .ok (.iconst 1, 1) := by decide +kernel
theorem dX10_mark_29 : decode cX10_mark 29 = .ok (.putfield 237, 3) := by decide +kernel
theorem dX10_mark_32 : decode cX10_mark 32 = .ok (.aload_n 0, 1) := by decide +kernel
theorem dX10_mark_33 : decode cX10_mark 33 = .ok (.iconst 1, 1) := by decide +kernel
theorem dX10_mark_34 : decode cX10_mark 34 = .ok (.iload_n 1, 1) := by decide +kernel
theorem dX10_mark_35 : decode cX10_mark 35 = .ok (.bipush 10, 2) := by decide +kernel
theorem dX10_mark_37 : decode cX10_mark 37 = .ok (.idiv, 1) := by decide +kernel
theorem dX10_mark_38 : decode cX10_mark 38 = .ok (.ishl, 1) := by decide +kernel
theorem dX10_mark_39 : decode cX10_mark 39 = .ok (.putfield 234, 3) := by decide +kernel
theorem dX10_mark_42 : decode cX10_mark 42 = .ok (.aload_n 0, 1) := by decide +kernel
theorem dX10_mark_43 : decode cX10_mark 43 = .ok (.iload_n 3, 1) := by decide +kernel
theorem dX10_mark_44 : decode cX10_mark 44 = .ok (.invokevirtual 261, 3) := by decide +kernel
theorem dX10_mark_47 : decode cX10_mark 47 = .ok (.aload_n 0, 1) := by decide +kernel
theorem dX10_mark_48 : decode cX10_mark 48 = .ok (.getfield 225, 3) := by decide +kernel
theorem dX10_mark_51 : decode cX10_mark 51 = .ok (.istore 4, 2) := by decide +kernel
theorem dX10_mark_53 : decode cX10_mark 53 = .ok (.aload_n 0, 1) := by decide +kernel
theorem dX10_mark_54 : decode cX10_mark 54 = .ok (.iconst 1, 1) := by decide +kernel
theorem dX10_mark_55 : decode cX10_mark 55 = .ok (.iload_n 1, 1) := by decide +kernel
theorem dX10_mark_56 : decode cX10_mark 56 = .ok (.bipush 10, 2) := by decide +kernel
theorem dX10_mark_58 : decode cX10_mark 58 = .ok (.irem, 1) := by decide +kernel
theorem dX10_mark_59 : decode cX10_mark 59 = .ok (.ishl, 1) := by decide +kernel
theorem dX10_mark_60 : decode cX10_mark 60 = .ok (.putfield 234, 3) := by decide +kernel
theorem dX10_mark_63 : decode cX10_mark 63 = .ok (.aload_n 0, 1) := by decide +kernel
theorem dX10_mark_64 : decode cX10_mark 64 = .ok (.bipush 99, 2) := by decide +kernel
theorem dX10_mark_66 : decode cX10_mark 66 = .ok (.iload_n 3, 1) := by decide +kernel
theorem dX10_mark_67 : decode cX10_mark 67 = .ok (.isub, 1) := by decide +kernel
theorem dX10_mark_68 : decode cX10_mark 68 = .ok (.invokevirtual 261, 3) := by decide +kernel
theorem dX10_mark_71 : decode cX10_mark 71 = .ok (.iload 4, 2) := by decide +kernel
theorem dX10_mark_73 : decode cX10_mark 73 = .ok (.iload_n 2, 1) := by decide +kernel
theorem dX10_mark_74 : decode cX10_mark 74 = .ok (.if_icmp .ge 29, 3) := by decide +kernel
theorem dX10_mark_77 : decode cX10_mark 77 = .ok (.aload_n 0, 1) := by decide +kernel
theorem dX10_mark_78 : decode cX10_mark 78 = .ok (.getfield 37, 3) := by decide +kernel
theorem dX10_mark_81 : decode cX10_mark 81 = .ok (.iload_n 1, 1) := by decide +kernel
theorem dX10_mark_82 : decode cX10_mark 82 = .ok (.bipush 10, 2) := by decide +kernel
theorem dX10_mark_84 : decode cX10_mark 84 = .ok (.idiv, 1) := by decide +kernel
theorem dX10_mark_85 : decode cX10_mark 85 = .ok (.iaload, 1) := by decide +kernel
theorem dX10_mark_86 : decode cX10_mark 86 = .ok (.aload_n 0, 1) := by decide +kernel
theorem dX10_mark_87 : decode cX10_mark 87 = .ok (.getfield 37, 3) := by decide +kernel
theorem dX10_mark_90 : decode cX10_mark 90 = .ok (.iload_n 1, 1) := by decide +kernel
theorem dX10_mark_91 : decode cX10_mark 91 = .ok (.bipush 10, 2) := by decide +kernel
theorem dX10_mark_93 : decode cX10_mark 93 = .ok (.irem, 1) := by decide +kernel
theorem dX10_mark_94 : decode cX10_mark 94 = .ok (.iaload, 1) := by decide +kernel
theorem dX10_mark_95 : decode cX10_mark 95 = .ok (.if_icmp .gt 8, 3) := by decide +kernel
theorem dX10_mark_98 : decode cX10_mark 98 = .ok (.iload 4, 2) := by decide +kernel
theorem dX10_mark_100 : decode cX10_mark 100 = .ok (.goto 4, 3) := by decide +kernel
theorem dX10_mark_103 : decode cX10_mark 103 = .ok (.iload_n 2, 1) := by decide +kernel
theorem dX10_mark_104 : decode cX10_mark 104 = .ok (.istore_n 2, 1) := by decide +kernel
theorem dX10_mark_105 : decode cX10_mark 105 = .ok (.iinc 3 1, 3) := by decide +kernel
theorem dX10_mark_108 : decode cX10_mark 108 = .ok (.goto (-91), 3) := by decide +kernel
theorem dX10_mark_111 : decode cX10_mark 111 = .ok (.iload_n 2, 1) := by decide +kernel
theorem dX10_mark_112 : decode cX10_mark 112 = .ok (.ireturn, 1) := by decide +kernel
theorem dX10_alone_0 : decode cX10_alone 0 = .ok (.aload_n 0, 1) := by decide +kernel
theorem dX10_alone_1 : decode cX10_alone 1 = .ok (.invokevirtual 258, 3) := by decide +kernel
theorem dX10_alone_4 : decode cX10_alone 4 = .ok (.aload_n 0, 1) := by decide +kernel
theorem dX10_alone_5 : decode cX10_alone 5 = .ok (.iconst 1, 1) := by decide +kernel
theorem dX10_alone_6 : decode cX10_alone 6 = .ok (.putfield 237, 3) := by decide +kernel
theorem dX10_alone_9 : decode cX10_alone 9 = .ok (.aload_n 0, 1) := by decide +kernel
theorem dX10_alone_10 : decode cX10_alone 10 = .ok (.iload_n 2, 1) := by decide +kernel
theorem dX10_alone_11 : decode cX10_alone 11 = .ok (.putfield 225, 3) := by decide +kernel
theorem dX10_alone_14 : decode cX10_alone 14 = .ok (.aload_n 0, 1) := by decide +kernel
theorem dX10_alone_15 : decode cX10_alone 15 = .ok (.iconst 0, 1) := by decide +kernel
theorem dX10_alone_16 : decode cX10_alone 16 = .ok (.putfield 228, 3) := by decide +kernel
theorem dX10_alone_19 : decode cX10_alone 19 = .ok (.aload_n 0, 1) := by decide +kernel
theorem dX10_alone_20 : decode cX10_alone 20 = .ok (.iconst 1, 1) := by decide +kernel
theorem dX10_alone_21 : decode cX10_alone 21 = .ok (.iload_n 1, 1) := by decide +kernel
theorem dX10_alone_22 : decode cX10_alone 22 = .ok (.ishl, 1) := by decide +kernel
theorem dX10_alone_23 : decode cX10_alone 23 = .ok (.putfield 234, 3) := by decide +kernel
theorem dX10_alone_26 : decode cX10_alone 26 = .ok (.aload_n 0, 1) := by decide +kernel
theorem dX10_alone_27 : decode cX10_alone 27 = .ok (.bipush 60, 2) := by decide +kernel
theorem dX10_alone_29 : decode cX10_alone 29 = .ok (.invokevirtual 261, 3) := by decide +kernel
theorem dX10_alone_32 : decode cX10_alone 32 = .ok (.aload_n 0, 1) := by decide +kernel
theorem dX10_alone_33 : decode cX10_alone 33 = .ok (.getfield 37, 3) := by decide +kernel
theorem dX10_alone_36 : decode cX10_alone 36 = .ok (.iload_n 1, 1) := by decide +kernel
theorem dX10_alone_37 : decode cX10_alone 37 = .ok (.iaload, 1) := by decide +kernel
theorem dX10_alone_38 : decode cX10_alone 38 = .ok (.ireturn, 1) := by decide +kernel
theorem dX10_halves_0 : decode cX10_halves 0 = .ok (.aload_n 0, 1) := by decide +kernel
theorem dX10_halves_1 : decode cX10_halves 1 = .ok (.iload_n 1, 1) := by decide +kernel
theorem dX10_halves_2 : decode cX10_halves 2 = .ok (.invokevirtual 272, 3) := by decide +kernel
theorem dX10_halves_5 : decode cX10_halves 5 = .ok (.ifCond .eq 15, 3) := by decide +kernel
theorem dX10_halves_8 : decode cX10_halves 8 = .ok (.iload_n 2, 1) := by decide +kernel
theorem dX10_halves_9 : decode cX10_halves 9 = .ok (.i2l, 1) := by decide +kernel
theorem dX10_halves_10 : decode cX10_halves 10 = .ok (.lconst 0, 1) := by decide +kernel
theorem dX10_halves_11 : decode cX10_halves 11 = .ok (.ldc2_w 256, 3) := by decide +kernel
theorem dX10_halves_14 : decode cX10_halves 14 = .ok (.invokestatic 105, 3) := by decide +kernel
theorem dX10_halves_17 : decode cX10_halves 17 = .ok (.ifCond .ne 5, 3) := by decide +kernel
theorem dX10_halves_20 : decode cX10_halves 20 = .ok (.iconst (-1), 1) := by decide +kernel
theorem dX10_halves_21 : decode cX10_halves 21 = .ok (.ireturn, 1) := by decide +kernel
theorem dX10_halves_22 : decode cX10_halves 22 = .ok (.iconst 0, 1) := by decide +kernel
theorem dX10_halves_23 : decode cX10_halves 23 = .ok (.istore_n 3, 1) := by decide +kernel
theorem dX10_halves_24 : decode cX10_halves 24 = .ok (.iload_n 3, 1) := by decide +kernel
theorem dX10_halves_25 : decode cX10_halves 25 = .ok (.aload_n 0, 1) := by decide +kernel
theorem dX10_halves_26 : decode cX10_halves 26 = .ok (.getfield 93, 3) := by decide +kernel
theorem dX10_halves_29 : decode cX10_halves 29 = .ok (.if_icmp .gt 39, 3) := by decide +kernel
theorem dX10_halves_32 : decode cX10_halves 32 = .ok (.aload_n 0, 1) := by decide +kernel
theorem dX10_halves_33 : decode cX10_halves 33 = .ok (.getfield 46, 3) := by decide +kernel
theorem dX10_halves_36 : decode cX10_halves 36 = .ok (.iload_n 3, 1) := by decide +kernel
theorem dX10_halves_37 : decode cX10_halves 37 = .ok (.aload_n 0, 1) := by decide +kernel
theorem dX10_halves_38 : decode cX10_halves 38 = .ok (.iload_n 1, 1) := by decide +kernel
theorem dX10_halves_39 : decode cX10_halves 39 = .ok (.bipush 10, 2) := by decide +kernel
theorem dX10_halves_41 : decode cX10_halves 41 = .ok (.idiv, 1) := by decide +kernel
theorem dX10_halves_42 : decode cX10_halves 42 = .ok (.iload_n 3, 1) := by decide +kernel
theorem dX10_halves_43 : decode cX10_halves 43 = .ok (.invokevirtual 275, 3) := by decide +kernel
theorem dX10_halves_46 : decode cX10_halves 46 = .ok (.iastore, 1) := by decide +kernel
theorem dX10_halves_47 : decode cX10_halves 47 = .ok (.aload_n 0, 1) := by decide +kernel
theorem dX10_halves_48 : decode cX10_halves 48 = .ok (.getfield 49, 3) := by decide +kernel
theorem dX10_halves_51 : decode cX10_halves 51 = .ok (.iload_n 3, 1) := by decide +kernel
theorem dX10_halves_52 : decode cX10_halves 52 = .ok (.aload_n 0, 1) := by decide +kernel
theorem dX10_halves_53 : decode cX10_halves 53 = .ok (.iload_n 1, 1) := by decide +kernel
theorem dX10_halves_54 : decode cX10_halves 54 = .ok (.bipush 10, 2) := by decide +kernel
theorem dX10_halves_56 : decode cX10_halves 56 = .ok (.irem, 1) := by decide +kernel
theorem dX10_halves_57 : decode cX10_halves 57 = .ok (.iload_n 3, 1) := by decide +kernel
theorem dX10_halves_58 : decode cX10_halves 58 = .ok (.invokevirtual 275, 3) := by decide +kernel
theorem dX10_halves_61 : decode cX10_halves 61 = .ok (.iastore, 1) := by decide +kernel
theorem dX10_halves_62 : decode cX10_halves 62 = .ok (.iinc 3 1, 3) := by decide +kernel
theorem dX10_halves_65 : decode cX10_halves 65 = .ok (.goto (-41), 3) := by decide +kernel
theorem dX10_halves_68 : decode cX10_halves 68 = .ok (.iconst 0, 1) := by decide +kernel
theorem dX10_halves_69 : decode cX10_halves 69 = .ok (.istore_n 3, 1) := by decide +kernel
theorem dX10_halves_70 : decode cX10_halves 70 = .ok (.iconst (-1), 1) := by decide +kernel
theorem dX10_halves_71 : decode cX10_halves 71 = .ok (.istore 4, 2) := by decide +kernel
theorem dX10_halves_73 : decode cX10_halves 73 = .ok (.iconst 0, 1) := by decide +kernel
theorem dX10_halves_74 : decode cX10_halves 74 = .ok (.istore 5, 2) := by decide +kernel
theorem dX10_halves_76 : decode cX10_halves 76 = .ok (.iconst 0, 1) := by decide +kernel
theorem dX10_halves_77 : decode cX10_halves 77 = .ok (.istore 6, 2) := by decide +kernel
theorem dX10_halves_79 : decode cX10_halves 79 = .ok (.iload 6, 2) := by decide +kernel
theorem dX10_halves_81 : decode cX10_halves 81 = .ok (.aload_n 0, 1) := by decide +kernel
theorem dX10_halves_82 : decode cX10_halves 82 = .ok (.getfield 93, 3) := by decide +kernel
theorem dX10_halves_85 : decode cX10_halves 85 = .ok (.if_icmp .gt 110, 3) := by decide +kernel
theorem dX10_halves_88 : decode cX10_halves 88 = .ok (.aload_n 0, 1) := by decide +kernel
theorem dX10_halves_89 : decode cX10_halves 89 = .ok (.getfield 49, 3) := by decide +kernel
theorem dX10_halves_92 : decode cX10_halves 92 = .ok (.iload 6, 2) := by decide +kernel
theorem dX10_halves_94 : decode cX10_halves 94 = .ok (.iaload, 1) := by decide +kernel
theorem dX10_halves_95 : decode cX10_halves 95 = .ok (.aload_n 0, 1) := by decide +kernel
theorem dX10_halves_96 : decode cX10_halves 96 = .ok (.getfield 49, 3) := by decide +kernel
theorem dX10_halves_99 : decode cX10_halves 99 = .ok (.aload_n 0, 1) := by decide +kernel
theorem dX10_halves_100 : decode cX10_halves 100 = .ok (.getfield 93, 3) := by decide +kernel
theorem dX10_halves_103 : decode cX10_halves 103 = .ok (.iload 6, 2) := by decide +kernel
theorem dX10_halves_105 : decode cX10_halves 105 = .ok (.isub, 1) := by decide +kernel
theorem dX10_halves_106 : decode cX10_halves 106 = .ok (.iaload, 1) := by decide +kernel
theorem dX10_halves_107 : decode cX10_halves 107 = .ok (.if_icmp .lt 7, 3) := by decide +kernel
theorem dX10_halves_110 : decode cX10_halves 110 = .ok (.iconst 1, 1) := by decide +kernel
theorem dX10_halves_111 : decode cX10_halves 111 = .ok (.goto 4, 3) := by decide +kernel
theorem dX10_halves_114 : decode cX10_halves 114 = .ok (.iconst 0, 1) := by decide +kernel
theorem dX10_halves_115 : decode cX10_halves 115 = .ok (.istore 7, 2) := by decide +kernel
theorem dX10_halves_117 : decode cX10_halves 117 = .ok (.iload 7, 2) := by decide +kernel
theorem dX10_halves_119 : decode cX10_halves 119 = .ok (.ifCond .eq 18, 3) := by decide +kernel
theorem dX10_halves_122 : decode cX10_halves 122 = .ok (.aload_n 0, 1) := by decide +kernel
theorem dX10_halves_123 : decode cX10_halves 123 = .ok (.getfield 46, 3) := by decide +kernel
theorem dX10_halves_126 : decode cX10_halves 126 = .ok (.aload_n 0, 1) := by decide +kernel
theorem dX10_halves_127 : decode cX10_halves 127 = .ok (.getfield 93, 3) := by decide +kernel
theorem dX10_halves_130 : decode cX10_halves 130 = .ok (.iload 6, 2) := by decide +kernel
theorem dX10_halves_132 : decode cX10_halves 132 = .ok (.isub, 1) := by decide +kernel
theorem dX10_halves_133 : decode cX10_halves 133 = .ok (.iaload, 1) := by decide +kernel
theorem dX10_halves_134 : decode cX10_halves 134 = .ok (.goto 10, 3) := by decide +kernel
theorem dX10_halves_137 : decode cX10_halves 137 = .ok (.aload_n 0, 1) := by decide +kernel
theorem dX10_halves_138 : decode cX10_halves 138 = .ok (.getfield 46, 3) := by decide +kernel
theorem dX10_halves_141 : decode cX10_halves 141 = .ok (.iload 6, 2) := by decide +kernel
theorem dX10_halves_143 : decode cX10_halves 143 = .ok (.iaload, 1) := by decide +kernel
theorem dX10_halves_144 : decode cX10_halves 144 = .ok (.istore 8, 2) := by decide +kernel
theorem dX10_halves_146 : decode cX10_halves 146 = .ok (.iload 8, 2) := by decide +kernel
theorem dX10_halves_148 : decode cX10_halves 148 = .ok (.iload 4, 2) := by decide +kernel
theorem dX10_halves_150 : decode cX10_halves 150 = .ok (.if_icmp .le 39, 3) := by decide +kernel
theorem dX10_halves_153 : decode cX10_halves 153 = .ok (.iload 6, 2) := by decide +kernel
theorem dX10_halves_155 : decode cX10_halves 155 = .ok (.istore_n 3, 1) := by decide +kernel
theorem dX10_halves_156 : decode cX10_halves 156 = .ok (.iload 8, 2) := by decide +kernel
theorem dX10_halves_158 : decode cX10_halves 158 = .ok (.istore 4, 2) := by decide +kernel
theorem dX10_halves_160 : decode cX10_halves 160 = .ok (.iload 7, 2) := by decide +kernel
theorem dX10_halves_162 : decode cX10_halves 162 = .ok (.ifCond .eq 13, 3) := by decide +kernel
theorem dX10_halves_165 : decode cX10_halves 165 = .ok (.aload_n 0, 1) := by decide +kernel
theorem dX10_halves_166 : decode cX10_halves 166 = .ok (.getfield 49, 3) := by decide +kernel
theorem dX10_halves_169 : decode cX10_halves 169 = .ok (.iload 6, 2) := by decide +kernel
theorem dX10_halves_171 : decode cX10_halves 171 = .ok (.iaload, 1) := by decide +kernel
theorem dX10_halves_172 : decode cX10_halves 172 = .ok (.goto 15, 3) := by decide +kernel
theorem dX10_halves_175 : decode cX10_halves 175 = .ok (.aload_n 0, 1) := by decide +kernel
theorem dX10_halves_176 : decode cX10_halves 176 = .ok (.getfield 49, 3) := by decide +kernel
theorem dX10_halves_179 : decode cX10_halves 179 = .ok (.aload_n 0, 1) := by decide +kernel
theorem dX10_halves_180 : decode cX10_halves 180 = .ok (.getfield 93, 3) := by decide +kernel
theorem dX10_halves_183 : decode cX10_halves 183 = .ok (.iload 6, 2) := by decide +kernel
theorem dX10_halves_185 : decode cX10_halves 185 = .ok (.isub, 1) := by decide +kernel
theorem dX10_halves_186 : decode cX10_halves 186 = .ok (.iaload, 1) := by decide +kernel
theorem dX10_halves_187 : decode cX10_halves 187 = .ok (.istore 5, 2) := by decide +kernel
theorem dX10_halves_189 : decode cX10_halves 189 = .ok (.iinc 6 1, 3) := by decide +kernel
theorem dX10_halves_192 : decode cX10_halves 192 = .ok (.goto (-113), 3) := by decide +kernel
theorem dX10_halves_195 : decode cX10_halves 195 = .ok (.iload_n 2, 1) := by decide +kernel
theorem dX10_halves_196 : decode cX10_halves 196 = .ok (.ifCond .ne 7, 3) := by decide +kernel
theorem dX10_halves_199 : decode cX10_halves 199 = .ok (.iload_n 3, 1) := by decide +kernel
theorem dX10_halves_200 : decode cX10_halves 200 = .ok (.goto 15, 3) := by decide +kernel
theorem dX10_halves_203 : decode cX10_halves 203 = .ok (.iload_n 2, 1) := by decide +kernel
theorem dX10_halves_204 : decode cX10_halves 204 = .ok (.iconst 1, 1) := by decide +kernel
theorem dX10_halves_205 : decode cX10_halves 205 = .ok (.if_icmp .ne 8, 3) := by decide +kernel
theorem dX10_halves_208 : decode cX10_halves 208 = .ok (.iload 4, 2) := by decide +kernel
theorem dX10_halves_210 : decode cX10_halves 210 = .ok (.goto 5, 3) := by decide +kernel
theorem dX10_halves_213 : decode cX10_halves 213 = .ok (.iload 5, 2) := by decide +kernel
theorem dX10_halves_215 : decode cX10_halves 215 = .ok (.ireturn, 1) := by decide +kernel
theorem dX10_isSoon_0 : decode cX10_isSoon 0 = .ok (.iload_n 0, 1) := by decide +kernel
theorem dX10_isSoon_1 : decode cX10_isSoon 1 = .ok (.i2l, 1) := by decide +kernel
theorem dX10_isSoon_2 : decode cX10_isSoon 2 = .ok (.lconst 0, 1) := by decide +kernel
theorem dX10_isSoon_3 : decode cX10_isSoon 3 = .ok (.ldc2_w 139, 3) := by decide +kernel
theorem dX10_isSoon_6 : decode cX10_isSoon 6 = .ok (.invokestatic 105, 3) := by decide +kernel
theorem dX10_isSoon_9 : decode cX10_isSoon 9 = .ok (.ireturn, 1) := by decide +kernel
theorem dX10_gets_0 : decode cX10_gets 0 = .ok (.aload_n 0, 1) := by decide +kernel
theorem dX10_gets_1 : decode cX10_gets 1 = .ok (.invokevirtual 258, 3) := by decide +kernel
theorem dX10_gets_4 : decode cX10_gets 4 = .ok (.aload_n 0, 1) := by decide +kernel
theorem dX10_gets_5 : decode cX10_gets 5 = .ok (.iload_n 2, 1) := by decide +kernel
theorem dX10_gets_6 : decode cX10_gets 6 = .ok (.invokevirtual 261, 3) := by decide +kernel
theorem dX10_gets_9 : decode cX10_gets 9 = .ok (.aload_n 0, 1) := by decide +kernel
theorem dX10_gets_10 : decode cX10_gets 10 = .ok (.getfield 37, 3) := by decide +kernel
theorem dX10_gets_13 : decode cX10_gets 13 = .ok (.iload_n 1, 1) := by decide +kernel
theorem dX10_gets_14 : decode cX10_gets 14 = .ok (.iaload, 1) := by decide +kernel
theorem dX10_gets_15 : decode cX10_gets 15 = .ok (.ireturn, 1) := by decide +kernel
theorem dX10_reachFor_0 : decode cX10_reachFor 0 = .ok (.aload_n 0, 1) := by decide +kernel
theorem dX10_reachFor_1 : decode cX10_reachFor 1 = .ok (.iload_n 1, 1) := by decide +kernel
theorem dX10_reachFor_2 : decode cX10_reachFor 2 = .ok (.invokevirtual 130, 3) := by decide +kernel
theorem dX10_reachFor_5 : decode cX10_reachFor 5 = .ok (.ifCond .eq 22, 3) := by decide +kernel
theorem dX10_reachFor_8 : decode cX10_reachFor 8 = .ok (.iload_n 2, 1) := by decide +kernel
theorem dX10_reachFor_9 : decode cX10_reachFor 9 = .ok (.invokestatic 278, 3) := by decide +kernel
theorem dX10_reachFor_12 : decode cX10_reachFor 12 = .ok (.ifCond .eq 15, 3) := by decide +kernel
theorem dX10_reachFor_15 : decode cX10_reachFor 15 = .ok (.iload_n 3, 1) := by decide +kernel
theorem dX10_reachFor_16 : decode cX10_reachFor 16 = .ok (.i2l, 1) := by decide +kernel
theorem dX10_reachFor_17 : decode cX10_reachFor 17 = .ok (.lconst 0, 1) := by decide +kernel
theorem dX10_reachFor_18 : decode cX10_reachFor 18 = .ok (.ldc2_w 115, 3) := by decide +kernel
theorem dX10_reachFor_21 : decode cX10_reachFor 21 = .ok (.invokestatic 105, 3) := by decide +kernel
theorem dX10_reachFor_24 : decode cX10_reachFor 24 = .ok (.ifCond .ne 5, 3) := by decide +kernel
theorem dX10_reachFor_27 : decode cX10_reachFor 27 = .ok (.iconst (-1), 1) := by decide +kernel
theorem dX10_reachFor_28 : decode cX10_reachFor 28 = .ok (.ireturn, 1) := by decide +kernel
theorem dX10_reachFor_29 : decode cX10_reachFor 29 = .ok (.bipush 8, 2) := by decide +kernel
theorem dX10_reachFor_31 : decode cX10_reachFor 31 = .ok (.iload_n 1, 1) := by decide +kernel
theorem dX10_reachFor_32 : decode cX10_reachFor 32 = .ok (.imul, 1) := by decide +kernel
theorem dX10_reachFor_33 : decode cX10_reachFor 33 = .ok (.iconst 2, 1) := by decide +kernel
theorem dX10_reachFor_34 : decode cX10_reachFor 34 = .ok (.iadd, 1) := by decide +kernel
theorem dX10_reachFor_35 : decode cX10_reachFor 35 = .ok (.istore 4, 2) := by decide +kernel
theorem dX10_reachFor_37 : decode cX10_reachFor 37 = .ok (.aload_n 0, 1) := by decide +kernel
theorem dX10_reachFor_38 : decode cX10_reachFor 38 = .ok (.getfield 9, 3) := by decide +kernel
theorem dX10_reachFor_41 : decode cX10_reachFor 41 = .ok (.iload 4, 2) := by decide +kernel
theorem dX10_reachFor_43 : decode cX10_reachFor 43 = .ok (.iaload, 1) := by decide +kernel
theorem dX10_reachFor_44 : decode cX10_reachFor 44 = .ok (.istore 5, 2) := by decide +kernel
theorem dX10_reachFor_46 : decode cX10_reachFor 46 = .ok (.iconst 0, 1) := by decide +kernel
theorem dX10_reachFor_47 : decode cX10_reachFor 47 = .ok (.istore 6, 2) := by decide +kernel
theorem dX10_reachFor_49 : decode cX10_reachFor 49 = .ok (.iconst (-1), 1) := by decide +kernel
theorem dX10_reachFor_50 : decode cX10_reachFor 50 = .ok (.istore 7, 2) := by decide +kernel
theorem dX10_reachFor_52 : decode cX10_reachFor 52 = .ok (.iconst 0, 1) := by decide +kernel
theorem dX10_reachFor_53 : decode cX10_reachFor 53 = .ok (.istore 8, 2) := by decide +kernel
theorem dX10_reachFor_55 : decode cX10_reachFor 55 = .ok (.iload 8, 2) := by decide +kernel
theorem dX10_reachFor_57 : decode cX10_reachFor 57 = .ok (.sipush 999, 3) := by decide +kernel
theorem dX10_reachFor_60 : decode cX10_reachFor 60 = .ok (.if_icmp .gt 77, 3) := by decide +kernel
theorem dX10_reachFor_63 : decode cX10_reachFor 63 = .ok (.aload_n 0, 1) := by decide +kernel
theorem dX10_reachFor_64 : decode cX10_reachFor 64 = .ok (.getfield 9, 3) := by decide +kernel
theorem dX10_reachFor_67 : decode cX10_reachFor 67 = .ok (.iload 4, 2) := by decide +kernel
theorem dX10_reachFor_69 : decode cX10_reachFor 69 = .ok (.iload 8, 2) := by decide +kernel
theorem dX10_reachFor_71 : decode cX10_reachFor 71 = .ok (.iastore, 1) := by decide +kernel
theorem dX10_reachFor_72 : decode cX10_reachFor 72 = .ok (.aload_n 0, 1) := by decide +kernel
theorem dX10_reachFor_73 : decode cX10_reachFor 73 = .ok (.iload_n 1, 1) := by decide +kernel
theorem dX10_reachFor_74 : decode cX10_reachFor 74 = .ok (.iload_n 2, 1) := by decide +kernel
theorem dX10_reachFor_75 : decode cX10_reachFor 75 = .ok (.invokevirtual 281, 3) := by decide +kernel
theorem dX10_reachFor_78 : decode cX10_reachFor 78 = .ok (.istore 9, 2) := by decide +kernel
theorem dX10_reachFor_80 : decode cX10_reachFor 80 = .ok (.iload_n 3, 1) := by decide +kernel
theorem dX10_reachFor_81 : decode cX10_reachFor 81 = .ok (.iconst 2, 1) := by decide +kernel
theorem dX10_reachFor_82 : decode cX10_reachFor 82 = .ok (.if_icmp .ge 8, 3) := by decide +kernel
theorem dX10_reachFor_85 : decode cX10_reachFor 85 = .ok (.iload 9, 2) := by decide +kernel
theorem dX10_reachFor_87 : decode cX10_reachFor 87 = .ok (.goto 10, 3) := by decide +kernel
theorem dX10_reachFor_90 : decode cX10_reachFor 90 = .ok (.aload_n 0, 1) := by decide +kernel
theorem dX10_reachFor_91 : decode cX10_reachFor 91 = .ok (.iload_n 1, 1) := by decide +kernel
theorem dX10_reachFor_92 : decode cX10_reachFor 92 = .ok (.iload 9, 2) := by decide +kernel
theorem dX10_reachFor_94 : decode cX10_reachFor 94 = .ok (.invokevirtual 265, 3) := by decide +kernel
theorem dX10_reachFor_97 : decode cX10_reachFor 97 = .ok (.istore 9, 2) := by decide +kernel
theorem dX10_reachFor_99 : decode cX10_reachFor 99 = .ok (.iload 9, 2) := by decide +kernel
theorem dX10_reachFor_101 : decode cX10_reachFor 101 = .ok (.iload 7, 2) := by decide +kernel
theorem dX10_reachFor_103 : decode cX10_reachFor 103 = .ok (.if_icmp .le 8, 3) := by decide +kernel
theorem dX10_reachFor_106 : decode cX10_reachFor 106 = .ok (.iload 8, 2) := by decide +kernel
theorem dX10_reachFor_108 : decode cX10_reachFor 108 = .ok (.goto 5, 3) := by decide +kernel
theorem dX10_reachFor_111 : decode cX10_reachFor 111 = .ok (.iload 6, 2) := by decide +kernel
theorem dX10_reachFor_113 : decode cX10_reachFor 113 = .ok (.istore 6, 2) := by decide +kernel
theorem dX10_reachFor_115 : decode cX10_reachFor 115 = .ok (.iload 9, 2) := by decide +kernel
theorem dX10_reachFor_117 : decode cX10_reachFor 117 = .ok (.iload 7, 2) := by decide +kernel
theorem dX10_reachFor_119 : decode cX10_reachFor 119 = .ok (.if_icmp .le 8, 3) := by decide +kernel
theorem dX10_reachFor_122 : decode cX10_reachFor 122 = .ok (.iload 9, 2) := by decide +kernel
theorem dX10_reachFor_124 : decode cX10_reachFor 124 = .ok (.goto 5, 3) := by decide +kernel
theorem dX10_reachFor_127 : decode cX10_reachFor 127 = .ok (.iload 7, 2) := by decide +kernel
theorem dX10_reachFor_129 : decode cX10_reachFor 129 = .ok (.istore 7, 2) := by decide +kernel
theorem dX10_reachFor_131 : decode cX10_reachFor 131 = .ok (.iinc 8 1, 3) := by decide +kernel
theorem dX10_reachFor_134 : decode cX10_reachFor 134 = .ok (.goto (-79), 3) := by decide +kernel
theorem dX10_reachFor_137 : decode cX10_reachFor 137 = .ok (.aload_n 0, 1) := by decide +kernel
theorem dX10_reachFor_138 : decode cX10_reachFor 138 = .ok (.getfield 9, 3) := by decide +kernel
theorem dX10_reachFor_141 : decode cX10_reachFor 141 = .ok (.iload 4, 2) := by decide +kernel
theorem dX10_reachFor_143 : decode cX10_reachFor 143 = .ok (.iload 5, 2) := by decide +kernel
theorem dX10_reachFor_145 : decode cX10_reachFor 145 = .ok (.iastore, 1) := by decide +kernel
theorem dX10_reachFor_146 : decode cX10_reachFor 146 = .ok (.iload_n 3, 1) := by decide +kernel
theorem dX10_reachFor_147 : decode cX10_reachFor 147 = .ok (.iconst 2, 1) := by decide +kernel
theorem dX10_reachFor_148 : decode cX10_reachFor 148 = .ok (.irem, 1) := by decide +kernel
theorem dX10_reachFor_149 : decode cX10_reachFor 149 = .ok (.ifCond .ne 8, 3) := by decide +kernel
theorem dX10_reachFor_152 : decode cX10_reachFor 152 = .ok (.iload 6, 2) := by decide +kernel
theorem dX10_reachFor_154 : decode cX10_reachFor 154 = .ok (.goto 5, 3) := by decide +kernel
theorem dX10_reachFor_157 : decode cX10_reachFor 157 = .ok (.iload 7, 2) := by decide +kernel
theorem dX10_reachFor_159 : decode cX10_reachFor 159 = .ok (.ireturn, 1) := by decide +kernel
theorem dX10_slow_0 : decode cX10_slow 0 = .ok (.aload_n 0, 1) := by decide +kernel
theorem dX10_slow_1 : decode cX10_slow 1 = .ok (.iload_n 1, 1) := by decide +kernel
theorem dX10_slow_2 : decode cX10_slow 2 = .ok (.invokevirtual 130, 3) := by decide +kernel
theorem dX10_slow_5 : decode cX10_slow 5 = .ok (.ifCond .eq 10, 3) := by decide +kernel
theorem dX10_slow_8 : decode cX10_slow 8 = .ok (.iload_n 2, 1) := by decide +kernel
theorem dX10_slow_9 : decode cX10_slow 9 = .ok (.invokestatic 278, 3) := by decide +kernel
theorem dX10_slow_12 : decode cX10_slow 12 = .ok (.ifCond .ne 5, 3) := by decide +kernel
theorem dX10_slow_15 : decode cX10_slow 15 = .ok (.iconst (-1), 1) := by decide +kernel
theorem dX10_slow_16 : decode cX10_slow 16 = .ok (.ireturn, 1) := by decide +kernel
theorem dX10_slow_17 : decode cX10_slow 17 = .ok (.bipush 8, 2) := by decide +kernel
theorem dX10_slow_19 : decode cX10_slow 19 = .ok (.iload_n 1, 1) := by decide +kernel
theorem dX10_slow_20 : decode cX10_slow 20 = .ok (.imul, 1) := by decide +kernel
theorem dX10_slow_21 : decode cX10_slow 21 = .ok (.iconst 0, 1) := by decide +kernel
theorem dX10_slow_22 : decode cX10_slow 22 = .ok (.iadd, 1) := by decide +kernel
theorem dX10_slow_23 : decode cX10_slow 23 = .ok (.istore_n 3, 1) := by decide +kernel
theorem dX10_slow_24 : decode cX10_slow 24 = .ok (.aload_n 0, 1) := by decide +kernel
theorem dX10_slow_25 : decode cX10_slow 25 = .ok (.getfield 9, 3) := by decide +kernel
theorem dX10_slow_28 : decode cX10_slow 28 = .ok (.iload_n 3, 1) := by decide +kernel
theorem dX10_slow_29 : decode cX10_slow 29 = .ok (.iaload, 1) := by decide +kernel
theorem dX10_slow_30 : decode cX10_slow 30 = .ok (.istore 4, 2) := by decide +kernel
theorem dX10_slow_32 : decode cX10_slow 32 = .ok (.iconst 0, 1) := by decide +kernel
theorem dX10_slow_33 : decode cX10_slow 33 = .ok (.istore 5, 2) := by decide +kernel
theorem dX10_slow_35 : decode cX10_slow 35 = .ok (.iconst (-1), 1) := by decide +kernel
theorem dX10_slow_36 : decode cX10_slow 36 = .ok (.istore 6, 2) := by decide +kernel
theorem dX10_slow_38 : decode cX10_slow 38 = .ok (.iconst 0, 1) := by decide +kernel
theorem dX10_slow_39 : decode cX10_slow 39 = .ok (.istore 7, 2) := by decide +kernel
theorem dX10_slow_41 : decode cX10_slow 41 = .ok (.iload 7, 2) := by decide +kernel
theorem dX10_slow_43 : decode cX10_slow 43 = .ok (.iload 4, 2) := by decide +kernel
theorem dX10_slow_45 : decode cX10_slow 45 = .ok (.if_icmp .gt 57, 3) := by decide +kernel
theorem dX10_slow_48 : decode cX10_slow 48 = .ok (.aload_n 0, 1) := by decide +kernel
theorem dX10_slow_49 : decode cX10_slow 49 = .ok (.getfield 9, 3) := by decide +kernel
theorem dX10_slow_52 : decode cX10_slow 52 = .ok (.iload_n 3, 1) := by decide +kernel
theorem dX10_slow_53 : decode cX10_slow 53 = .ok (.iload 7, 2) := by decide +kernel
theorem dX10_slow_55 : decode cX10_slow 55 = .ok (.iastore, 1) := by decide +kernel
theorem dX10_slow_56 : decode cX10_slow 56 = .ok (.aload_n 0, 1) := by decide +kernel
theorem dX10_slow_57 : decode cX10_slow 57 = .ok (.iload_n 1, 1) := by decide +kernel
theorem dX10_slow_58 : decode cX10_slow 58 = .ok (.iload_n 2, 1) := by decide +kernel
theorem dX10_slow_59 : decode cX10_slow 59 = .ok (.invokevirtual 281, 3) := by decide +kernel
theorem dX10_slow_62 : decode cX10_slow 62 = .ok (.istore 8, 2) := by decide +kernel
theorem dX10_slow_64 : decode cX10_slow 64 = .ok (.iload 8, 2) := by decide +kernel
theorem dX10_slow_66 : decode cX10_slow 66 = .ok (.iload 6, 2) := by decide +kernel
theorem dX10_slow_68 : decode cX10_slow 68 = .ok (.if_icmp .le 8, 3) := by decide +kernel
theorem dX10_slow_71 : decode cX10_slow 71 = .ok (.iload 7, 2) := by decide +kernel
theorem dX10_slow_73 : decode cX10_slow 73 = .ok (.goto 5, 3) := by decide +kernel
theorem dX10_slow_76 : decode cX10_slow 76 = .ok (.iload 5, 2) := by decide +kernel
theorem dX10_slow_78 : decode cX10_slow 78 = .ok (.istore 5, 2) := by decide +kernel
theorem dX10_slow_80 : decode cX10_slow 80 = .ok (.iload 8, 2) := by decide +kernel
theorem dX10_slow_82 : decode cX10_slow 82 = .ok (.iload 6, 2) := by decide +kernel
theorem dX10_slow_84 : decode cX10_slow 84 = .ok (.if_icmp .le 8, 3) := by decide +kernel
theorem dX10_slow_87 : decode cX10_slow 87 = .ok (.iload 8, 2) := by decide +kernel
theorem dX10_slow_89 : decode cX10_slow 89 = .ok (.goto 5, 3) := by decide +kernel
theorem dX10_slow_92 : decode cX10_slow 92 = .ok (.iload 6, 2) := by decide +kernel
theorem dX10_slow_94 : decode cX10_slow 94 = .ok (.istore 6, 2) := by decide +kernel
theorem dX10_slow_96 : decode cX10_slow 96 = .ok (.iinc 7 1, 3) := by decide +kernel
theorem dX10_slow_99 : decode cX10_slow 99 = .ok (.goto (-58), 3) := by decide +kernel
theorem dX10_slow_102 : decode cX10_slow 102 = .ok (.aload_n 0, 1) := by decide +kernel
theorem dX10_slow_103 : decode cX10_slow 103 = .ok (.getfield 9, 3) := by decide +kernel
theorem dX10_slow_106 : decode cX10_slow 106 = .ok (.iload_n 3, 1) := by decide +kernel
theorem dX10_slow_107 : decode cX10_slow 107 = .ok (.iload 4, 2) := by decide +kernel
theorem dX10_slow_109 : decode cX10_slow 109 = .ok (.iastore, 1) := by decide +kernel
theorem dX10_slow_110 : decode cX10_slow 110 = .ok (.iload 5, 2) := by decide +kernel
theorem dX10_slow_112 : decode cX10_slow 112 = .ok (.ireturn, 1) := by decide +kernel
theorem dX10_isSelf_0 : decode cX10_isSelf 0 = .ok (.iconst 0, 1) := by decide +kernel
theorem dX10_isSelf_1 : decode cX10_isSelf 1 = .ok (.istore 5, 2) := by decide +kernel
theorem dX10_isSelf_3 : decode cX10_isSelf 3 = .ok (.iload 5, 2) := by decide +kernel
theorem dX10_isSelf_5 : decode cX10_isSelf 5 = .ok (.iload_n 3, 1) := by decide +kernel
theorem dX10_isSelf_6 : decode cX10_isSelf 6 = .ok (.if_icmp .gt 37, 3) := by decide +kernel
theorem dX10_isSelf_9 : decode cX10_isSelf 9 = .ok (.aload_n 0, 1) := by decide +kernel
theorem dX10_isSelf_10 : decode cX10_isSelf 10 = .ok (.getfield 52, 3) := by decide +kernel
theorem dX10_isSelf_13 : decode cX10_isSelf 13 = .ok (.bipush 21, 2) := by decide +kernel
theorem dX10_isSelf_15 : decode cX10_isSelf 15 = .ok (.iload 5, 2) := by decide +kernel
theorem dX10_isSelf_17 : decode cX10_isSelf 17 = .ok (.imul, 1) := by decide +kernel
theorem dX10_isSelf_18 : decode cX10_isSelf 18 = .ok (.iload_n 2, 1) := by decide +kernel
theorem dX10_isSelf_19 : decode cX10_isSelf 19 = .ok (.iadd, 1) := by decide +kernel
theorem dX10_isSelf_20 : decode cX10_isSelf 20 = .ok (.iaload, 1) := by decide +kernel
theorem dX10_isSelf_21 : decode cX10_isSelf 21 = .ok (.aload_n 0, 1) := by decide +kernel
theorem dX10_isSelf_22 : decode cX10_isSelf 22 = .ok (.getfield 52, 3) := by decide +kernel
theorem dX10_isSelf_25 : decode cX10_isSelf 25 = .ok (.bipush 21, 2) := by decide +kernel
theorem dX10_isSelf_27 : decode cX10_isSelf 27 = .ok (.iload_n 1, 1) := by decide +kernel
theorem dX10_isSelf_28 : decode cX10_isSelf 28 = .ok (.imul, 1) := by decide +kernel
theorem dX10_isSelf_29 : decode cX10_isSelf 29 = .ok (.iload_n 2, 1) := by decide +kernel
theorem dX10_isSelf_30 : decode cX10_isSelf 30 = .ok (.iadd, 1) := by decide +kernel
theorem dX10_isSelf_31 : decode cX10_isSelf 31 = .ok (.iaload, 1) := by decide +kernel
theorem dX10_isSelf_32 : decode cX10_isSelf 32 = .ok (.if_icmp .le 5, 3) := by decide +kernel
theorem dX10_isSelf_35 : decode cX10_isSelf 35 = .ok (.iconst 0, 1) := by decide +kernel
theorem dX10_isSelf_36 : decode cX10_isSelf 36 = .ok (.ireturn, 1) := by decide +kernel
theorem dX10_isSelf_37 : decode cX10_isSelf 37 = .ok (.iinc 5 1, 3) := by decide +kernel
theorem dX10_isSelf_40 : decode cX10_isSelf 40 = .ok (.goto (-37), 3) := by decide +kernel
theorem dX10_isSelf_43 : decode cX10_isSelf 43 = .ok (.iconst 0, 1) := by decide +kernel
theorem dX10_isSelf_44 : decode cX10_isSelf 44 = .ok (.istore 5, 2) := by decide +kernel
theorem dX10_isSelf_46 : decode cX10_isSelf 46 = .ok (.iload 5, 2) := by decide +kernel
theorem dX10_isSelf_48 : decode cX10_isSelf 48 = .ok (.iload 4, 2) := by decide +kernel
theorem dX10_isSelf_50 : decode cX10_isSelf 50 = .ok (.if_icmp .gt 37, 3) := by decide +kernel
theorem dX10_isSelf_53 : decode cX10_isSelf 53 = .ok (.aload_n 0, 1) := by decide +kernel
theorem dX10_isSelf_54 : decode cX10_isSelf 54 = .ok (.getfield 55, 3) := by decide +kernel
theorem dX10_isSelf_57 : decode cX10_isSelf 57 = .ok (.bipush 21, 2) := by decide +kernel
theorem dX10_isSelf_59 : decode cX10_isSelf 59 = .ok (.iload_n 1, 1) := by decide +kernel
theorem dX10_isSelf_60 : decode cX10_isSelf 60 = .ok (.imul, 1) := by decide +kernel
theorem dX10_isSelf_61 : decode cX10_isSelf 61 = .ok (.iload 5, 2) := by decide +kernel
theorem dX10_isSelf_63 : decode cX10_isSelf 63 = .ok (.iadd, 1) := by decide +kernel
theorem dX10_isSelf_64 : decode cX10_isSelf 64 = .ok (.iaload, 1) := by decide +kernel
theorem dX10_isSelf_65 : decode cX10_isSelf 65 = .ok (.aload_n 0, 1) := by decide +kernel
theorem dX10_isSelf_66 : decode cX10_isSelf 66 = .ok (.getfield 55, 3) := by decide +kernel
theorem dX10_isSelf_69 : decode cX10_isSelf 69 = .ok (.bipush 21, 2) := by decide +kernel
theorem dX10_isSelf_71 : decode cX10_isSelf 71 = .ok (.iload_n 1, 1) := by decide +kernel
theorem dX10_isSelf_72 : decode cX10_isSelf 72 = .ok (.imul, 1) := by decide +kernel
theorem dX10_isSelf_73 : decode cX10_isSelf 73 = .ok (.iload_n 2, 1) := by decide +kernel
theorem dX10_isSelf_74 : decode cX10_isSelf 74 = .ok (.iadd, 1) := by decide +kernel
theorem dX10_isSelf_75 : decode cX10_isSelf 75 = .ok (.iaload, 1) := by decide +kernel
theorem dX10_isSelf_76 : decode cX10_isSelf 76 = .ok (.if_icmp .le 5, 3) := by decide +kernel
theorem dX10_isSelf_79 : decode cX10_isSelf 79 = .ok (.iconst 0, 1) := by decide +kernel
theorem dX10_isSelf_80 : decode cX10_isSelf 80 = .ok (.ireturn, 1) := by decide +kernel
theorem dX10_isSelf_81 : decode cX10_isSelf 81 = .ok (.iinc 5 1, 3) := by decide +kernel
theorem dX10_isSelf_84 : decode cX10_isSelf 84 = .ok (.goto (-38), 3) := by decide +kernel
theorem dX10_isSelf_87 : decode cX10_isSelf 87 = .ok (.iconst 1, 1) := by decide +kernel
theorem dX10_isSelf_88 : decode cX10_isSelf 88 = .ok (.ireturn, 1) := by decide +kernel
theorem dX10_both_0 : decode cX10_both 0 = .ok (.iload_n 1, 1) := by decide +kernel
theorem dX10_both_1 : decode cX10_both 1 = .ok (.invokestatic 278, 3) := by decide +kernel
theorem dX10_both_4 : decode cX10_both 4 = .ok (.ifCond .eq 13, 3) := by decide +kernel
theorem dX10_both_7 : decode cX10_both 7 = .ok (.iload_n 2, 1) := by decide +kernel
theorem dX10_both_8 : decode cX10_both 8 = .ok (.i2l, 1) := by decide +kernel
theorem dX10_both_9 : decode cX10_both 9 = .ok (.lconst 0, 1) := by decide +kernel
theorem dX10_both_10 : decode cX10_both 10 = .ok (.lconst 1, 1) := by decide +kernel
theorem dX10_both_11 : decode cX10_both 11 = .ok (.invokestatic 105, 3) := by decide +kernel
theorem dX10_both_14 : decode cX10_both 14 = .ok (.ifCond .ne 5, 3) := by decide +kernel
theorem dX10_both_17 : decode cX10_both 17 = .ok (.iconst (-1), 1) := by decide +kernel
theorem dX10_both_18 : decode cX10_both 18 = .ok (.ireturn, 1) := by decide +kernel
theorem dX10_both_19 : decode cX10_both 19 = .ok (.aload_n 0, 1) := by decide +kernel
theorem dX10_both_20 : decode cX10_both 20 = .ok (.getfield 102, 3) := by decide +kernel
theorem dX10_both_23 : decode cX10_both 23 = .ok (.iconst 2, 1) := by decide +kernel
theorem dX10_both_24 : decode cX10_both 24 = .ok (.if_icmp .ge 6, 3) := by decide +kernel
theorem dX10_both_27 : decode cX10_both 27 = .ok (.bipush (-5), 2) := by decide +kernel
theorem dX10_both_29 : decode cX10_both 29 = .ok (.ireturn, 1) := by decide +kernel
theorem dX10_both_30 : decode cX10_both 30 = .ok (.aload_n 0, 1) := by decide +kernel
theorem dX10_both_31 : decode cX10_both 31 = .ok (.getfield 9, 3) := by decide +kernel
theorem dX10_both_34 : decode cX10_both 34 = .ok (.iconst 0, 1) := by decide +kernel
theorem dX10_both_35 : decode cX10_both 35 = .ok (.iaload, 1) := by decide +kernel
theorem dX10_both_36 : decode cX10_both 36 = .ok (.istore_n 3, 1) := by decide +kernel
theorem dX10_both_37 : decode cX10_both 37 = .ok (.aload_n 0, 1) := by decide +kernel
theorem dX10_both_38 : decode cX10_both 38 = .ok (.getfield 9, 3) := by decide +kernel
theorem dX10_both_41 : decode cX10_both 41 = .ok (.bipush 8, 2) := by decide +kernel
theorem dX10_both_43 : decode cX10_both 43 = .ok (.iaload, 1) := by decide +kernel
theorem dX10_both_44 : decode cX10_both 44 = .ok (.istore 4, 2) := by decide +kernel
theorem dX10_both_46 : decode cX10_both 46 = .ok (.bipush (-2), 2) := by decide +kernel
theorem dX10_both_48 : decode cX10_both 48 = .ok (.istore 5, 2) := by decide +kernel
theorem dX10_both_50 : decode cX10_both 50 = .ok (.iconst (-1), 1) := by decide +kernel
theorem dX10_both_51 : decode cX10_both 51 = .ok (.istore 6, 2) := by decide +kernel
theorem dX10_both_53 : decode cX10_both 53 = .ok (.iconst 0, 1) := by decide +kernel
theorem dX10_both_54 : decode cX10_both 54 = .ok (.istore 7, 2) := by decide +kernel
theorem dX10_both_56 : decode cX10_both 56 = .ok (.iload 7, 2) := by decide +kernel
theorem dX10_both_58 : decode cX10_both 58 = .ok (.iload_n 3, 1) := by decide +kernel
theorem dX10_both_59 : decode cX10_both 59 = .ok (.if_icmp .gt 89, 3) := by decide +kernel
theorem dX10_both_62 : decode cX10_both 62 = .ok (.iconst 0, 1) := by decide +kernel
theorem dX10_both_63 : decode cX10_both 63 = .ok (.istore 8, 2) := by decide +kernel
theorem dX10_both_65 : decode cX10_both 65 = .ok (.iload 8, 2) := by decide +kernel
theorem dX10_both_67 : decode cX10_both 67 = .ok (.iload 4, 2) := by decide +kernel
theorem dX10_both_69 : decode cX10_both 69 = .ok (.if_icmp .gt 73, 3) := by decide +kernel
theorem dX10_both_72 : decode cX10_both 72 = .ok (.aload_n 0, 1) := by decide +kernel
theorem dX10_both_73 : decode cX10_both 73 = .ok (.getfield 9, 3) := by decide +kernel
theorem dX10_both_76 : decode cX10_both 76 = .ok (.iconst 0, 1) := by decide +kernel
theorem dX10_both_77 : decode cX10_both 77 = .ok (.iload 7, 2) := by decide +kernel
theorem dX10_both_79 : decode cX10_both 79 = .ok (.iastore, 1) := by decide +kernel
theorem dX10_both_80 : decode cX10_both 80 = .ok (.aload_n 0, 1) := by decide +kernel
theorem dX10_both_81 : decode cX10_both 81 = .ok (.getfield 9, 3) := by decide +kernel
theorem dX10_both_84 : decode cX10_both 84 = .ok (.bipush 8, 2) := by decide +kernel
theorem dX10_both_86 : decode cX10_both 86 = .ok (.iload 8, 2) := by decide +kernel
theorem dX10_both_88 : decode cX10_both 88 = .ok (.iastore, 1) := by decide +kernel
theorem dX10_both_89 : decode cX10_both 89 = .ok (.aload_n 0, 1) := by decide +kernel
theorem dX10_both_90 : decode cX10_both 90 = .ok (.invokevirtual 258, 3) := by decide +kernel
theorem dX10_both_93 : decode cX10_both 93 = .ok (.aload_n 0, 1) := by decide +kernel
theorem dX10_both_94 : decode cX10_both 94 = .ok (.iload_n 1, 1) := by decide +kernel
theorem dX10_both_95 : decode cX10_both 95 = .ok (.invokevirtual 261, 3) := by decide +kernel
theorem dX10_both_98 : decode cX10_both 98 = .ok (.aload_n 0, 1) := by decide +kernel
theorem dX10_both_99 : decode cX10_both 99 = .ok (.getfield 52, 3) := by decide +kernel
theorem dX10_both_102 : decode cX10_both 102 = .ok (.bipush 21, 2) := by decide +kernel
theorem dX10_both_104 : decode cX10_both 104 = .ok (.iload 7, 2) := by decide +kernel
theorem dX10_both_106 : decode cX10_both 106 = .ok (.imul, 1) := by decide +kernel
theorem dX10_both_107 : decode cX10_both 107 = .ok (.iload 8, 2) := by decide +kernel
theorem dX10_both_109 : decode cX10_both 109 = .ok (.iadd, 1) := by decide +kernel
theorem dX10_both_110 : decode cX10_both 110 = .ok (.aload_n 0, 1) := by decide +kernel
theorem dX10_both_111 : decode cX10_both 111 = .ok (.getfield 37, 3) := by decide +kernel
theorem dX10_both_114 : decode cX10_both 114 = .ok (.iconst 0, 1) := by decide +kernel
theorem dX10_both_115 : decode cX10_both 115 = .ok (.iaload, 1) := by decide +kernel
theorem dX10_both_116 : decode cX10_both 116 = .ok (.iastore, 1) := by decide +kernel
theorem dX10_both_117 : decode cX10_both 117 = .ok (.aload_n 0, 1) := by decide +kernel
theorem dX10_both_118 : decode cX10_both 118 = .ok (.getfield 55, 3) := by decide +kernel
theorem dX10_both_121 : decode cX10_both 121 = .ok (.bipush 21, 2) := by decide +kernel
theorem dX10_both_123 : decode cX10_both 123 = .ok (.iload 7, 2) := by decide +kernel
theorem dX10_both_125 : decode cX10_both 125 = .ok (.imul, 1) := by decide +kernel
theorem dX10_both_126 : decode cX10_both 126 = .ok (.iload 8, 2) := by decide +kernel
theorem dX10_both_128 : decode cX10_both 128 = .ok (.iadd, 1) := by decide +kernel
theorem dX10_both_129 : decode cX10_both 129 = .ok (.aload_n 0, 1) := by decide +kernel
theorem dX10_both_130 : decode cX10_both 130 = .ok (.getfield 37, 3) := by decide +kernel
theorem dX10_both_133 : decode cX10_both 133 = .ok (.iconst 1, 1) := by decide +kernel
theorem dX10_both_134 : decode cX10_both 134 = .ok (.iaload, 1) := by decide +kernel
theorem dX10_both_135 : decode cX10_both 135 = .ok (.iastore, 1) := by decide +kernel
theorem dX10_both_136 : decode cX10_both 136 = .ok (.iinc 8 1, 3) := by decide +kernel
theorem dX10_both_139 : decode cX10_both 139 = .ok (.goto (-74), 3) := by decide +kernel
theorem dX10_both_142 : decode cX10_both 142 = .ok (.iinc 7 1, 3) := by decide +kernel
theorem dX10_both_145 : decode cX10_both 145 = .ok (.goto (-89), 3) := by decide +kernel
theorem dX10_both_148 : decode cX10_both 148 = .ok (.aload_n 0, 1) := by decide +kernel
theorem dX10_both_149 : decode cX10_both 149 = .ok (.getfield 9, 3) := by decide +kernel
theorem dX10_both_152 : decode cX10_both 152 = .ok (.iconst 0, 1) := by decide +kernel
theorem dX10_both_153 : decode cX10_both 153 = .ok (.iload_n 3, 1) := by decide +kernel
theorem dX10_both_154 : decode cX10_both 154 = .ok (.iastore, 1) := by decide +kernel
theorem dX10_both_155 : decode cX10_both 155 = .ok (.aload_n 0, 1) := by decide +kernel
theorem dX10_both_156 : decode cX10_both 156 = .ok (.getfield 9, 3) := by decide +kernel
theorem dX10_both_159 : decode cX10_both 159 = .ok (.bipush 8, 2) := by decide +kernel
theorem dX10_both_161 : decode cX10_both 161 = .ok (.iload 4, 2) := by decide +kernel
theorem dX10_both_163 : decode cX10_both 163 = .ok (.iastore, 1) := by decide +kernel
theorem dX10_both_164 : decode cX10_both 164 = .ok (.iconst 0, 1) := by decide +kernel
theorem dX10_both_165 : decode cX10_both 165 = .ok (.istore 7, 2) := by decide +kernel
theorem dX10_both_167 : decode cX10_both 167 = .ok (.iload 7, 2) := by decide +kernel
theorem dX10_both_169 : decode cX10_both 169 = .ok (.iload_n 3, 1) := by decide +kernel
theorem dX10_both_170 : decode cX10_both 170 = .ok (.if_icmp .gt 113, 3) := by decide +kernel
theorem dX10_both_173 : decode cX10_both 173 = .ok (.iconst 0, 1) := by decide +kernel
theorem dX10_both_174 : decode cX10_both 174 = .ok (.istore 8, 2) := by decide +kernel
theorem dX10_both_176 : decode cX10_both 176 = .ok (.iload 8, 2) := by decide +kernel
theorem dX10_both_178 : decode cX10_both 178 = .ok (.iload 4, 2) := by decide +kernel
theorem dX10_both_180 : decode cX10_both 180 = .ok (.if_icmp .gt 97, 3) := by decide +kernel
theorem dX10_both_183 : decode cX10_both 183 = .ok (.aload_n 0, 1) := by decide +kernel
theorem dX10_both_184 : decode cX10_both 184 = .ok (.iconst 0, 1) := by decide +kernel
theorem dX10_both_185 : decode cX10_both 185 = .ok (.aload_n 0, 1) := by decide +kernel
theorem dX10_both_186 : decode cX10_both 186 = .ok (.getfield 52, 3) := by decide +kernel
theorem dX10_both_189 : decode cX10_both 189 = .ok (.bipush 21, 2) := by decide +kernel
theorem dX10_both_191 : decode cX10_both 191 = .ok (.iload 7, 2) := by decide +kernel
theorem dX10_both_193 : decode cX10_both 193 = .ok (.imul, 1) := by decide +kernel
theorem dX10_both_194 : decode cX10_both 194 = .ok (.iload 8, 2) := by decide +kernel
theorem dX10_both_196 : decode cX10_both 196 = .ok (.iadd, 1) := by decide +kernel
theorem dX10_both_197 : decode cX10_both 197 = .ok (.iaload, 1) := by decide +kernel
theorem dX10_both_198 : decode cX10_both 198 = .ok (.invokevirtual 265, 3) := by decide +kernel
theorem dX10_both_201 : decode cX10_both 201 = .ok (.aload_n 0, 1) := by decide +kernel
theorem dX10_both_202 : decode cX10_both 202 = .ok (.iconst 1, 1) := by decide +kernel
theorem dX10_both_203 : decode cX10_both 203 = .ok (.aload_n 0, 1) := by decide +kernel
theorem dX10_both_204 : decode cX10_both 204 = .ok (.getfield 55, 3) := by decide +kernel
theorem dX10_both_207 : decode cX10_both 207 = .ok (.bipush 21, 2) := by decide +kernel
theorem dX10_both_209 : decode cX10_both 209 = .ok (.iload 7, 2) := by decide +kernel
theorem dX10_both_211 : decode cX10_both 211 = .ok (.imul, 1) := by decide +kernel
theorem dX10_both_212 : decode cX10_both 212 = .ok (.iload 8, 2) := by decide +kernel
theorem dX10_both_214 : decode cX10_both 214 = .ok (.iadd, 1) := by decide +kernel
theorem dX10_both_215 : decode cX10_both 215 = .ok (.iaload, 1) := by decide +kernel
theorem dX10_both_216 : decode cX10_both 216 = .ok (.invokevirtual 265, 3) := by decide +kernel
theorem dX10_both_219 : decode cX10_both 219 = .ok (.iadd, 1) := by decide +kernel
theorem dX10_both_220 : decode cX10_both 220 = .ok (.istore 9, 2) := by decide +kernel
theorem dX10_both_222 : decode cX10_both 222 = .ok (.iload_n 2, 1) := by decide +kernel
theorem dX10_both_223 : decode cX10_both 223 = .ok (.iconst 1, 1) := by decide +kernel
theorem dX10_both_224 : decode cX10_both 224 = .ok (.if_icmp .ne 10, 3) := by decide +kernel
theorem dX10_both_227 : decode cX10_both 227 = .ok (.iload 9, 2) := by decide +kernel
theorem dX10_both_229 : decode cX10_both 229 = .ok (.iload 6, 2) := by decide +kernel
theorem dX10_both_231 : decode cX10_both 231 = .ok (.if_icmp .gt 26, 3) := by decide +kernel
theorem dX10_both_234 : decode cX10_both 234 = .ok (.iload_n 2, 1) := by decide +kernel
theorem dX10_both_235 : decode cX10_both 235 = .ok (.ifCond .ne 36, 3) := by decide +kernel
theorem dX10_both_238 : decode cX10_both 238 = .ok (.iload 5, 2) := by decide +kernel
theorem dX10_both_240 : decode cX10_both 240 = .ok (.ifCond .ge 31, 3) := by decide +kernel
theorem dX10_both_243 : decode cX10_both 243 = .ok (.aload_n 0, 1) := by decide +kernel
theorem dX10_both_244 : decode cX10_both 244 = .ok (.iload 7, 2) := by decide +kernel
theorem dX10_both_246 : decode cX10_both 246 = .ok (.iload 8, 2) := by decide +kernel
theorem dX10_both_248 : decode cX10_both 248 = .ok (.iload_n 3, 1) := by decide +kernel
theorem dX10_both_249 : decode cX10_both 249 = .ok (.iload 4, 2) := by decide +kernel
theorem dX10_both_251 : decode cX10_both 251 = .ok (.invokevirtual 284, 3) := by decide +kernel
theorem dX10_both_254 : decode cX10_both 254 = .ok (.ifCond .eq 17, 3) := by decide +kernel
theorem dX10_both_257 : decode cX10_both 257 = .ok (.bipush 100, 2) := by decide +kernel
theorem dX10_both_259 : decode cX10_both 259 = .ok (.iload 7, 2) := by decide +kernel
theorem dX10_both_261 : decode cX10_both 261 = .ok (.imul, 1) := by decide +kernel
theorem dX10_both_262 : decode cX10_both 262 = .ok (.iload 8, 2) := by decide +kernel
theorem dX10_both_264 : decode cX10_both 264 = .ok (.iadd, 1) := by decide +kernel
theorem dX10_both_265 : decode cX10_both 265 = .ok (.istore 5, 2) := by decide +kernel
theorem dX10_both_267 : decode cX10_both 267 = .ok (.iload 9, 2) := by decide +kernel
theorem dX10_both_269 : decode cX10_both 269 = .ok (.istore 6, 2) := by decide +kernel
theorem dX10_both_271 : decode cX10_both 271 = .ok (.iinc 8 1, 3) := by decide +kernel
theorem dX10_both_274 : decode cX10_both 274 = .ok (.goto (-98), 3) := by decide +kernel
theorem dX10_both_277 : decode cX10_both 277 = .ok (.iinc 7 1, 3) := by decide +kernel
theorem dX10_both_280 : decode cX10_both 280 = .ok (.goto (-113), 3) := by decide +kernel
theorem dX10_both_283 : decode cX10_both 283 = .ok (.iload 5, 2) := by decide +kernel
theorem dX10_both_285 : decode cX10_both 285 = .ok (.ireturn, 1) := by decide +kernel
theorem dX10_othersGet_0 : decode cX10_othersGet 0 = .ok (.bipush 8, 2) := by decide +kernel
theorem dX10_othersGet_2 : decode cX10_othersGet 2 = .ok (.iload_n 1, 1) := by decide +kernel
theorem dX10_othersGet_3 : decode cX10_othersGet 3 = .ok (.imul, 1) := by decide +kernel
theorem dX10_othersGet_4 : decode cX10_othersGet 4 = .ok (.bipush 6, 2) := by decide +kernel
theorem dX10_othersGet_6 : decode cX10_othersGet 6 = .ok (.iadd, 1) := by decide +kernel
theorem dX10_othersGet_7 : decode cX10_othersGet 7 = .ok (.istore 4, 2) := by decide +kernel
theorem dX10_othersGet_9 : decode cX10_othersGet 9 = .ok (.aload_n 0, 1) := by decide +kernel
theorem dX10_othersGet_10 : decode cX10_othersGet 10 = .ok (.getfield 9, 3) := by decide +kernel
theorem dX10_othersGet_13 : decode cX10_othersGet 13 = .ok (.iload 4, 2) := by decide +kernel
theorem dX10_othersGet_15 : decode cX10_othersGet 15 = .ok (.iaload, 1) := by decide +kernel
theorem dX10_othersGet_16 : decode cX10_othersGet 16 = .ok (.istore 5, 2) := by decide +kernel
theorem dX10_othersGet_18 : decode cX10_othersGet 18 = .ok (.aload_n 0, 1) := by decide +kernel
theorem dX10_othersGet_19 : decode cX10_othersGet 19 = .ok (.getfield 9, 3) := by decide +kernel
theorem dX10_othersGet_22 : decode cX10_othersGet 22 = .ok (.iload 4, 2) := by decide +kernel
theorem dX10_othersGet_24 : decode cX10_othersGet 24 = .ok (.iload_n 2, 1) := by decide +kernel
theorem dX10_othersGet_25 : decode cX10_othersGet 25 = .ok (.iastore, 1) := by decide +kernel
theorem dX10_othersGet_26 : decode cX10_othersGet 26 = .ok (.aload_n 0, 1) := by decide +kernel
theorem dX10_othersGet_27 : decode cX10_othersGet 27 = .ok (.invokevirtual 258, 3) := by decide +kernel
theorem dX10_othersGet_30 : decode cX10_othersGet 30 = .ok (.aload_n 0, 1) := by decide +kernel
theorem dX10_othersGet_31 : decode cX10_othersGet 31 = .ok (.iload_n 3, 1) := by decide +kernel
theorem dX10_othersGet_32 : decode cX10_othersGet 32 = .ok (.invokevirtual 261, 3) := by decide +kernel
theorem dX10_othersGet_35 : decode cX10_othersGet 35 = .ok (.aload_n 0, 1) := by decide +kernel
theorem dX10_othersGet_36 : decode cX10_othersGet 36 = .ok (.getfield 9, 3) := by decide +kernel
theorem dX10_othersGet_39 : decode cX10_othersGet 39 = .ok (.iload 4, 2) := by decide +kernel
theorem dX10_othersGet_41 : decode cX10_othersGet 41 = .ok (.iload 5, 2) := by decide +kernel
theorem dX10_othersGet_43 : decode cX10_othersGet 43 = .ok (.iastore, 1) := by decide +kernel
theorem dX10_othersGet_44 : decode cX10_othersGet 44 = .ok (.iconst 0, 1) := by decide +kernel
theorem dX10_othersGet_45 : decode cX10_othersGet 45 = .ok (.istore 6, 2) := by decide +kernel
theorem dX10_othersGet_47 : decode cX10_othersGet 47 = .ok (.iconst 0, 1) := by decide +kernel
theorem dX10_othersGet_48 : decode cX10_othersGet 48 = .ok (.istore 7, 2) := by decide +kernel
theorem dX10_othersGet_50 : decode cX10_othersGet 50 = .ok (.iload 7, 2) := by decide +kernel
theorem dX10_othersGet_52 : decode cX10_othersGet 52 = .ok (.aload_n 0, 1) := by decide +kernel
theorem dX10_othersGet_53 : decode cX10_othersGet 53 = .ok (.getfield 102, 3) := by decide +kernel
theorem dX10_othersGet_56 : decode cX10_othersGet 56 = .ok (.if_icmp .ge 31, 3) := by decide +kernel
theorem dX10_othersGet_59 : decode cX10_othersGet 59 = .ok (.iload 6, 2) := by decide +kernel
theorem dX10_othersGet_61 : decode cX10_othersGet 61 = .ok (.iload 7, 2) := by decide +kernel
theorem dX10_othersGet_63 : decode cX10_othersGet 63 = .ok (.iload_n 1, 1) := by decide +kernel
theorem dX10_othersGet_64 : decode cX10_othersGet 64 = .ok (.if_icmp .ne 7, 3) := by decide +kernel
theorem dX10_othersGet_67 : decode cX10_othersGet 67 = .ok (.iconst 0, 1) := by decide +kernel
theorem dX10_othersGet_68 : decode cX10_othersGet 68 = .ok (.goto 10, 3) := by decide +kernel
theorem dX10_othersGet_71 : decode cX10_othersGet 71 = .ok (.aload_n 0, 1) := by decide +kernel
theorem dX10_othersGet_72 : decode cX10_othersGet 72 = .ok (.getfield 37, 3) := by decide +kernel
theorem dX10_othersGet_75 : decode cX10_othersGet 75 = .ok (.iload 7, 2) := by decide +kernel
theorem dX10_othersGet_77 : decode cX10_othersGet 77 = .ok (.iaload, 1) := by decide +kernel
theorem dX10_othersGet_78 : decode cX10_othersGet 78 = .ok (.iadd, 1) := by decide +kernel
theorem dX10_othersGet_79 : decode cX10_othersGet 79 = .ok (.istore 6, 2) := by decide +kernel
theorem dX10_othersGet_81 : decode cX10_othersGet 81 = .ok (.iinc 7 1, 3) := by decide +kernel
theorem dX10_othersGet_84 : decode cX10_othersGet 84 = .ok (.goto (-34), 3) := by decide +kernel
theorem dX10_othersGet_87 : decode cX10_othersGet 87 = .ok (.iload 6, 2) := by decide +kernel
theorem dX10_othersGet_89 : decode cX10_othersGet 89 = .ok (.ireturn, 1) := by decide +kernel
theorem dX10_holeFor_0 : decode cX10_holeFor 0 = .ok (.aload_n 0, 1) := by decide +kernel
theorem dX10_holeFor_1 : decode cX10_holeFor 1 = .ok (.iload_n 1, 1) := by decide +kernel
theorem dX10_holeFor_2 : decode cX10_holeFor 2 = .ok (.invokevirtual 130, 3) := by decide +kernel
theorem dX10_holeFor_5 : decode cX10_holeFor 5 = .ok (.ifCond .eq 40, 3) := by decide +kernel
theorem dX10_holeFor_8 : decode cX10_holeFor 8 = .ok (.iload_n 2, 1) := by decide +kernel
theorem dX10_holeFor_9 : decode cX10_holeFor 9 = .ok (.i2l, 1) := by decide +kernel
theorem dX10_holeFor_10 : decode cX10_holeFor 10 = .ok (.lconst 0, 1) := by decide +kernel
theorem dX10_holeFor_11 : decode cX10_holeFor 11 = .ok (.ldc2_w 113, 3) := by decide +kernel
theorem dX10_holeFor_14 : decode cX10_holeFor 14 = .ok (.invokestatic 105, 3) := by decide +kernel
theorem dX10_holeFor_17 : decode cX10_holeFor 17 = .ok (.ifCond .eq 28, 3) := by decide +kernel
theorem dX10_holeFor_20 : decode cX10_holeFor 20 = .ok (.iload_n 3, 1) := by decide +kernel
theorem dX10_holeFor_21 : decode cX10_holeFor 21 = .ok (.invokestatic 278, 3) := by decide +kernel
theorem dX10_holeFor_24 : decode cX10_holeFor 24 = .ok (.ifCond .eq 21, 3) := by decide +kernel
theorem dX10_holeFor_27 : decode cX10_holeFor 27 = .ok (.aload_n 0, 1) := by decide +kernel
theorem dX10_holeFor_28 : decode cX10_holeFor 28 = .ok (.iload_n 1, 1) := by decide +kernel
theorem dX10_holeFor_29 : decode cX10_holeFor 29 = .ok (.iload_n 2, 1) := by decide +kernel
theorem dX10_holeFor_30 : decode cX10_holeFor 30 = .ok (.iload_n 3, 1) := by decide +kernel
theorem dX10_holeFor_31 : decode cX10_holeFor 31 = .ok (.invokevirtual 288, 3) := by decide +kernel
theorem dX10_holeFor_34 : decode cX10_holeFor 34 = .ok (.aload_n 0, 1) := by decide +kernel
theorem dX10_holeFor_35 : decode cX10_holeFor 35 = .ok (.iload_n 1, 1) := by decide +kernel
theorem dX10_holeFor_36 : decode cX10_holeFor 36 = .ok (.iconst (-1), 1) := by decide +kernel
theorem dX10_holeFor_37 : decode cX10_holeFor 37 = .ok (.iload_n 3, 1) := by decide +kernel
theorem dX10_holeFor_38 : decode cX10_holeFor 38 = .ok (.invokevirtual 288, 3) := by decide +kernel
theorem dX10_holeFor_41 : decode cX10_holeFor 41 = .ok (.isub, 1) := by decide +kernel
theorem dX10_holeFor_42 : decode cX10_holeFor 42 = .ok (.goto 5, 3) := by decide +kernel
theorem dX10_holeFor_45 : decode cX10_holeFor 45 = .ok (.ldc 156, 2) := by decide +kernel
theorem dX10_holeFor_47 : decode cX10_holeFor 47 = .ok (.ireturn, 1) := by decide +kernel
theorem dX10_getsStopping_0 : decode cX10_getsStopping 0 = .ok (.bipush 8, 2) := by decide +kernel
theorem dX10_getsStopping_2 : decode cX10_getsStopping 2 = .ok (.iload_n 1, 1) := by decide +kernel
theorem dX10_getsStopping_3 : decode cX10_getsStopping 3 = .ok (.imul, 1) := by decide +kernel
theorem dX10_getsStopping_4 : decode cX10_getsStopping 4 = .ok (.bipush 7, 2) := by decide +kernel
theorem dX10_getsStopping_6 : decode cX10_getsStopping 6 = .ok (.iadd, 1) := by decide +kernel
theorem dX10_getsStopping_7 : decode cX10_getsStopping 7 = .ok (.istore_n 3, 1) := by decide +kernel
theorem dX10_getsStopping_8 : decode cX10_getsStopping 8 = .ok (.aload_n 0, 1) := by decide +kernel
theorem dX10_getsStopping_9 : decode cX10_getsStopping 9 = .ok (.getfield 9, 3) := by decide +kernel
theorem dX10_getsStopping_12 : decode cX10_getsStopping 12 = .ok (.iload_n 3, 1) := by decide +kernel
theorem dX10_getsStopping_13 : decode cX10_getsStopping 13 = .ok (.iaload, 1) := by decide +kernel
theorem dX10_getsStopping_14 : decode cX10_getsStopping 14 = .ok (.istore 4, 2) := by decide +kernel
theorem dX10_getsStopping_16 : decode cX10_getsStopping 16 = .ok (.aload_n 0, 1) := by decide +kernel
theorem dX10_getsStopping_17 : decode cX10_getsStopping 17 = .ok (.getfield 9, 3) := by decide +kernel
theorem dX10_getsStopping_20 : decode cX10_getsStopping 20 = .ok (.iload_n 3, 1) := by decide +kernel
theorem dX10_getsStopping_21 : decode cX10_getsStopping 21 = .ok (.iload_n 2, 1) := by decide +kernel
theorem dX10_getsStopping_22 : decode cX10_getsStopping 22 = .ok (.iastore, 1) := by decide +kernel
theorem dX10_getsStopping_23 : decode cX10_getsStopping 23 = .ok (.aload_n 0, 1) := by decide +kernel
theorem dX10_getsStopping_24 : decode cX10_getsStopping 24 = .ok (.iload_n 1, 1) := by decide +kernel
theorem dX10_getsStopping_25 : decode cX10_getsStopping 25 = .ok (.bipush 99, 2) := by decide +kernel
theorem dX10_getsStopping_27 : decode cX10_getsStopping 27 = .ok (.invokevirtual 281, 3) := by decide +kernel
theorem dX10_getsStopping_30 : decode cX10_getsStopping 30 = .ok (.istore 5, 2) := by decide +kernel
theorem dX10_getsStopping_32 : decode cX10_getsStopping 32 = .ok (.aload_n 0, 1) := by decide +kernel
theorem dX10_getsStopping_33 : decode cX10_getsStopping 33 = .ok (.getfield 9, 3) := by decide +kernel
theorem dX10_getsStopping_36 : decode cX10_getsStopping 36 = .ok (.iload_n 3, 1) := by decide +kernel
theorem dX10_getsStopping_37 : decode cX10_getsStopping 37 = .ok (.iload 4, 2) := by decide +kernel
theorem dX10_getsStopping_39 : decode cX10_getsStopping 39 = .ok (.iastore, 1) := by decide +kernel
theorem dX10_getsStopping_40 : decode cX10_getsStopping 40 = .ok (.iload 5, 2) := by decide +kernel
theorem dX10_getsStopping_42 : decode cX10_getsStopping 42 = .ok (.ireturn, 1) := by decide +kernel
theorem dX10_stopFor_0 : decode cX10_stopFor 0 = .ok (.aload_n 0, 1) := by decide +kernel
theorem dX10_stopFor_1 : decode cX10_stopFor 1 = .ok (.iload_n 1, 1) := by decide +kernel
theorem dX10_stopFor_2 : decode cX10_stopFor 2 = .ok (.invokevirtual 130, 3) := by decide +kernel
theorem dX10_stopFor_5 : decode cX10_stopFor 5 = .ok (.ifCond .ne 5, 3) := by decide +kernel
theorem dX10_stopFor_8 : decode cX10_stopFor 8 = .ok (.iconst (-1), 1) := by decide +kernel
theorem dX10_stopFor_9 : decode cX10_stopFor 9 = .ok (.ireturn, 1) := by decide +kernel
theorem dX10_stopFor_10 : decode cX10_stopFor 10 = .ok (.aload_n 0, 1) := by decide +kernel
theorem dX10_stopFor_11 : decode cX10_stopFor 11 = .ok (.iload_n 1, 1) := by decide +kernel
theorem dX10_stopFor_12 : decode cX10_stopFor 12 = .ok (.sipush 5000, 3) := by decide +kernel
theorem dX10_stopFor_15 : decode cX10_stopFor 15 = .ok (.invokevirtual 291, 3) := by decide +kernel
theorem dX10_stopFor_18 : decode cX10_stopFor 18 = .ok (.istore_n 2, 1) := by decide +kernel
theorem dX10_stopFor_19 : decode cX10_stopFor 19 = .ok (.iconst 0, 1) := by decide +kernel
theorem dX10_stopFor_20 : decode cX10_stopFor 20 = .ok (.istore_n 3, 1) := by decide +kernel
theorem dX10_stopFor_21 : decode cX10_stopFor 21 = .ok (.aload_n 0, 1) := by decide +kernel
theorem dX10_stopFor_22 : decode cX10_stopFor 22 = .ok (.iload_n 1, 1) := by decide +kernel
theorem dX10_stopFor_23 : decode cX10_stopFor 23 = .ok (.iload_n 3, 1) := by decide +kernel
theorem dX10_stopFor_24 : decode cX10_stopFor 24 = .ok (.invokevirtual 291, 3) := by decide +kernel
theorem dX10_stopFor_27 : decode cX10_stopFor 27 = .ok (.iload_n 2, 1) := by decide +kernel
theorem dX10_stopFor_28 : decode cX10_stopFor 28 = .ok (.if_icmp .ge 25, 3) := by decide +kernel
theorem dX10_stopFor_31 : decode cX10_stopFor 31 = .ok (.iload_n 3, 1) := by decide +kernel
theorem dX10_stopFor_32 : decode cX10_stopFor 32 = .ok (.aload_n 0, 1) := by decide +kernel
theorem dX10_stopFor_33 : decode cX10_stopFor 33 = .ok (.getfield 160, 3) := by decide +kernel
theorem dX10_stopFor_36 : decode cX10_stopFor 36 = .ok (.if_icmp .ge 10, 3) := by decide +kernel
theorem dX10_stopFor_39 : decode cX10_stopFor 39 = .ok (.aload_n 0, 1) := by decide +kernel
theorem dX10_stopFor_40 : decode cX10_stopFor 40 = .ok (.getfield 160, 3) := by decide +kernel
theorem dX10_stopFor_43 : decode cX10_stopFor 43 = .ok (.goto 6, 3) := by decide +kernel
theorem dX10_stopFor_46 : decode cX10_stopFor 46 = .ok (.iload_n 3, 1) := by decide +kernel
theorem dX10_stopFor_47 : decode cX10_stopFor 47 = .ok (.iconst 1, 1) := by decide +kernel
theorem dX10_stopFor_48 : decode cX10_stopFor 48 = .ok (.iadd, 1) := by decide +kernel
theorem dX10_stopFor_49 : decode cX10_stopFor 49 = .ok (.istore_n 3, 1) := by decide +kernel
theorem dX10_stopFor_50 : decode cX10_stopFor 50 = .ok (.goto (-29), 3) := by decide +kernel
theorem dX10_stopFor_53 : decode cX10_stopFor 53 = .ok (.iload_n 3, 1) := by decide +kernel
theorem dX10_stopFor_54 : decode cX10_stopFor 54 = .ok (.ireturn, 1) := by decide +kernel
theorem dX10_shortsAre_0 : decode cX10_shortsAre 0 = .ok (.iload_n 1, 1) := by decide +kernel
theorem dX10_shortsAre_1 : decode cX10_shortsAre 1 = .ok (.invokestatic 124, 3) := by decide +kernel
theorem dX10_shortsAre_4 : decode cX10_shortsAre 4 = .ok (.ifCond .ne 7, 3) := by decide +kernel
theorem dX10_shortsAre_7 : decode cX10_shortsAre 7 = .ok (.iconst (-1), 1) := by decide +kernel
theorem dX10_shortsAre_8 : decode cX10_shortsAre 8 = .ok (.goto 34, 3) := by decide +kernel
theorem dX10_shortsAre_11 : decode cX10_shortsAre 11 = .ok (.aload_n 0, 1) := by decide +kernel
theorem dX10_shortsAre_12 : decode cX10_shortsAre 12 = .ok (.getfield 76, 3) := by decide +kernel
theorem dX10_shortsAre_15 : decode cX10_shortsAre 15 = .ok (.iload_n 1, 1) := by decide +kernel
theorem dX10_shortsAre_16 : decode cX10_shortsAre 16 = .ok (.iaload, 1) := by decide +kernel
theorem dX10_shortsAre_17 : decode cX10_shortsAre 17 = .ok (.ifCond .ge 8, 3) := by decide +kernel
theorem dX10_shortsAre_20 : decode cX10_shortsAre 20 = .ok (.bipush (-11), 2) := by decide +kernel
theorem dX10_shortsAre_22 : decode cX10_shortsAre 22 = .ok (.goto 20, 3) := by decide +kernel
theorem dX10_shortsAre_25 : decode cX10_shortsAre 25 = .ok (.aload_n 0, 1) := by decide +kernel
theorem dX10_shortsAre_26 : decode cX10_shortsAre 26 = .ok (.getfield 76, 3) := by decide +kernel
theorem dX10_shortsAre_29 : decode cX10_shortsAre 29 = .ok (.iload_n 1, 1) := by decide +kernel
theorem dX10_shortsAre_30 : decode cX10_shortsAre 30 = .ok (.iaload, 1) := by decide +kernel
theorem dX10_shortsAre_31 : decode cX10_shortsAre 31 = .ok (.bipush 51, 2) := by decide +kernel
theorem dX10_shortsAre_33 : decode cX10_shortsAre 33 = .ok (.if_icmp .ne 7, 3) := by decide +kernel
theorem dX10_shortsAre_36 : decode cX10_shortsAre 36 = .ok (.iconst 1, 1) := by decide +kernel
theorem dX10_shortsAre_37 : decode cX10_shortsAre 37 = .ok (.goto 5, 3) := by decide +kernel
theorem dX10_shortsAre_40 : decode cX10_shortsAre 40 = .ok (.bipush (-12), 2) := by decide +kernel
theorem dX10_shortsAre_42 : decode cX10_shortsAre 42 = .ok (.ireturn, 1) := by decide +kernel
theorem dX10_firstFalse_0 : decode cX10_firstFalse 0 = .ok (.iconst 0, 1) := by decide +kernel
theorem dX10_firstFalse_1 : decode cX10_firstFalse 1 = .ok (.istore_n 2, 1) := by decide +kernel
theorem dX10_firstFalse_2 : decode cX10_firstFalse 2 = .ok (.iload_n 2, 1) := by decide +kernel
theorem dX10_firstFalse_3 : decode cX10_firstFalse 3 = .ok (.aload_n 0, 1) := by decide +kernel
theorem dX10_firstFalse_4 : decode cX10_firstFalse 4 = .ok (.getfield 79, 3) := by decide +kernel
theorem dX10_firstFalse_7 : decode cX10_firstFalse 7 = .ok (.iload_n 1, 1) := by decide +kernel
theorem dX10_firstFalse_8 : decode cX10_firstFalse 8 = .ok (.iaload, 1) := by decide +kernel
theorem dX10_firstFalse_9 : decode cX10_firstFalse 9 = .ok (.if_icmp .ge 35, 3) := by decide +kernel
theorem dX10_firstFalse_12 : decode cX10_firstFalse 12 = .ok (.aload_n 0, 1) := by decide +kernel
theorem dX10_firstFalse_13 : decode cX10_firstFalse 13 = .ok (.invokevirtual 253, 3) := by decide +kernel
theorem dX10_firstFalse_16 : decode cX10_firstFalse 16 = .ok (.aload_n 0, 1) := by decide +kernel
theorem dX10_firstFalse_17 : decode cX10_firstFalse 17 = .ok (.getfield 82, 3) := by decide +kernel
theorem dX10_firstFalse_20 : decode cX10_firstFalse 20 = .ok (.bipush 60, 2) := by decide +kernel
theorem dX10_firstFalse_22 : decode cX10_firstFalse 22 = .ok (.iload_n 1, 1) := by decide +kernel
theorem dX10_firstFalse_23 : decode cX10_firstFalse 23 = .ok (.imul, 1) := by decide +kernel
theorem dX10_firstFalse_24 : decode cX10_firstFalse 24 = .ok (.iload_n 2, 1) := by decide +kernel
theorem dX10_firstFalse_25 : decode cX10_firstFalse 25 = .ok (.iadd, 1) := by decide +kernel
theorem dX10_firstFalse_26 : decode cX10_firstFalse 26 = .ok (.laload, 1) := by decide +kernel
theorem dX10_firstFalse_27 : decode cX10_firstFalse 27 = .ok (.aload_n 0, 1) := by decide +kernel
theorem dX10_firstFalse_28 : decode cX10_firstFalse 28 = .ok (.getfield 225, 3) := by decide +kernel
theorem dX10_firstFalse_31 : decode cX10_firstFalse 31 = .ok (.i2l, 1) := by decide +kernel
theorem dX10_firstFalse_32 : decode cX10_firstFalse 32 = .ok (.lcmp, 1) := by decide +kernel
theorem dX10_firstFalse_33 : decode cX10_firstFalse 33 = .ok (.ifCond .eq 5, 3) := by decide +kernel
theorem dX10_firstFalse_36 : decode cX10_firstFalse 36 = .ok (.iload_n 2, 1) := by decide +kernel
theorem dX10_firstFalse_37 : decode cX10_firstFalse 37 = .ok (.ireturn, 1) := by decide +kernel
theorem dX10_firstFalse_38 : decode cX10_firstFalse 38 = .ok (.iinc 2 1, 3) := by decide +kernel
theorem dX10_firstFalse_41 : decode cX10_firstFalse 41 = .ok (.goto (-39), 3) := by decide +kernel
theorem dX10_firstFalse_44 : decode cX10_firstFalse 44 = .ok (.bipush (-2), 2) := by decide +kernel
theorem dX10_firstFalse_46 : decode cX10_firstFalse 46 = .ok (.ireturn, 1) := by decide +kernel
theorem dX10_judge_0 : decode cX10_judge 0 = .ok (.aload_n 0, 1) := by decide +kernel
theorem dX10_judge_1 : decode cX10_judge 1 = .ok (.iload_n 1, 1) := by decide +kernel
theorem dX10_judge_2 : decode cX10_judge 2 = .ok (.invokevirtual 294, 3) := by decide +kernel
theorem dX10_judge_5 : decode cX10_judge 5 = .ok (.ifCond .ge 9, 3) := by decide +kernel
theorem dX10_judge_8 : decode cX10_judge 8 = .ok (.aload_n 0, 1) := by decide +kernel
theorem dX10_judge_9 : decode cX10_judge 9 = .ok (.iload_n 1, 1) := by decide +kernel
theorem dX10_judge_10 : decode cX10_judge 10 = .ok (.invokevirtual 294, 3) := by decide +kernel
theorem dX10_judge_13 : decode cX10_judge 13 = .ok (.ireturn, 1) := by decide +kernel
theorem dX10_judge_14 : decode cX10_judge 14 = .ok (.aload_n 0, 1) := by decide +kernel
theorem dX10_judge_15 : decode cX10_judge 15 = .ok (.invokevirtual 258, 3) := by decide +kernel
theorem dX10_judge_18 : decode cX10_judge 18 = .ok (.aload_n 0, 1) := by decide +kernel
theorem dX10_judge_19 : decode cX10_judge 19 = .ok (.iload_n 1, 1) := by decide +kernel
theorem dX10_judge_20 : decode cX10_judge 20 = .ok (.invokevirtual 297, 3) := by decide +kernel
theorem dX10_judge_23 : decode cX10_judge 23 = .ok (.ireturn, 1) := by decide +kernel
theorem dX10_who_0 : decode cX10_who 0 = .ok (.aload_n 0, 1) := by decide +kernel
theorem dX10_who_1 : decode cX10_who 1 = .ok (.iload_n 1, 1) := by decide +kernel
theorem dX10_who_2 : decode cX10_who 2 = .ok (.invokevirtual 294, 3) := by decide +kernel
theorem dX10_who_5 : decode cX10_who 5 = .ok (.iconst (-1), 1) := by decide +kernel
theorem dX10_who_6 : decode cX10_who 6 = .ok (.if_icmp .eq 13, 3) := by decide +kernel
theorem dX10_who_9 : decode cX10_who 9 = .ok (.iload_n 2, 1) := by decide +kernel
theorem dX10_who_10 : decode cX10_who 10 = .ok (.i2l, 1) := by decide +kernel
theorem dX10_who_11 : decode cX10_who 11 = .ok (.lconst 0, 1) := by decide +kernel
theorem dX10_who_12 : decode cX10_who 12 = .ok (.lconst 1, 1) := by decide +kernel
theorem dX10_who_13 : decode cX10_who 13 = .ok (.invokestatic 105, 3) := by decide +kernel
theorem dX10_who_16 : decode cX10_who 16 = .ok (.ifCond .ne 5, 3) := by decide +kernel
theorem dX10_who_19 : decode cX10_who 19 = .ok (.iconst (-1), 1) := by decide +kernel
theorem dX10_who_20 : decode cX10_who 20 = .ok (.ireturn, 1) := by decide +kernel
theorem dX10_who_21 : decode cX10_who 21 = .ok (.aload_n 0, 1) := by decide +kernel
theorem dX10_who_22 : decode cX10_who 22 = .ok (.iload_n 1, 1) := by decide +kernel
theorem dX10_who_23 : decode cX10_who 23 = .ok (.invokevirtual 294, 3) := by decide +kernel
theorem dX10_who_26 : decode cX10_who 26 = .ok (.ifCond .ge 9, 3) := by decide +kernel
theorem dX10_who_29 : decode cX10_who 29 = .ok (.aload_n 0, 1) := by decide +kernel
theorem dX10_who_30 : decode cX10_who 30 = .ok (.iload_n 1, 1) := by decide +kernel
theorem dX10_who_31 : decode cX10_who 31 = .ok (.invokevirtual 294, 3) := by decide +kernel
theorem dX10_who_34 : decode cX10_who 34 = .ok (.ireturn, 1) := by decide +kernel
theorem dX10_who_35 : decode cX10_who 35 = .ok (.iconst 0, 1) := by decide +kernel
theorem dX10_who_36 : decode cX10_who 36 = .ok (.istore_n 3, 1) := by decide +kernel
theorem dX10_who_37 : decode cX10_who 37 = .ok (.bipush (-2), 2) := by decide +kernel
theorem dX10_who_39 : decode cX10_who 39 = .ok (.istore 4, 2) := by decide +kernel
theorem dX10_who_41 : decode cX10_who 41 = .ok (.iconst 0, 1) := by decide +kernel
theorem dX10_who_42 : decode cX10_who 42 = .ok (.istore 5, 2) := by decide +kernel
theorem dX10_who_44 : decode cX10_who 44 = .ok (.iload 5, 2) := by decide +kernel
theorem dX10_who_46 : decode cX10_who 46 = .ok (.iconst 1, 1) := by decide +kernel
theorem dX10_who_47 : decode cX10_who 47 = .ok (.aload_n 0, 1) := by decide +kernel
theorem dX10_who_48 : decode cX10_who 48 = .ok (.getfield 102, 3) := by decide +kernel
theorem dX10_who_51 : decode cX10_who 51 = .ok (.ishl, 1) := by decide +kernel
theorem dX10_who_52 : decode cX10_who 52 = .ok (.if_icmp .ge 45, 3) := by decide +kernel
theorem dX10_who_55 : decode cX10_who 55 = .ok (.aload_n 0, 1) := by decide +kernel
theorem dX10_who_56 : decode cX10_who 56 = .ok (.invokevirtual 258, 3) := by decide +kernel
theorem dX10_who_59 : decode cX10_who 59 = .ok (.aload_n 0, 1) := by decide +kernel
theorem dX10_who_60 : decode cX10_who 60 = .ok (.iload 5, 2) := by decide +kernel
theorem dX10_who_62 : decode cX10_who 62 = .ok (.putfield 234, 3) := by decide +kernel
theorem dX10_who_65 : decode cX10_who 65 = .ok (.aload_n 0, 1) := by decide +kernel
theorem dX10_who_66 : decode cX10_who 66 = .ok (.iload_n 1, 1) := by decide +kernel
theorem dX10_who_67 : decode cX10_who 67 = .ok (.invokevirtual 297, 3) := by decide +kernel
theorem dX10_who_70 : decode cX10_who 70 = .ok (.bipush (-2), 2) := by decide +kernel
theorem dX10_who_72 : decode cX10_who 72 = .ok (.if_icmp .ne 19, 3) := by decide +kernel
theorem dX10_who_75 : decode cX10_who 75 = .ok (.iload_n 3, 1) := by decide +kernel
theorem dX10_who_76 : decode cX10_who 76 = .ok (.ifCond .ne 8, 3) := by decide +kernel
theorem dX10_who_79 : decode cX10_who 79 = .ok (.iload 5, 2) := by decide +kernel
theorem dX10_who_81 : decode cX10_who 81 = .ok (.goto 5, 3) := by decide +kernel
theorem dX10_who_84 : decode cX10_who 84 = .ok (.iload 4, 2) := by decide +kernel
theorem dX10_who_86 : decode cX10_who 86 = .ok (.istore 4, 2) := by decide +kernel
theorem dX10_who_88 : decode cX10_who 88 = .ok (.iinc 3 1, 3) := by decide +kernel
theorem dX10_who_91 : decode cX10_who 91 = .ok (.iinc 5 1, 3) := by decide +kernel
theorem dX10_who_94 : decode cX10_who 94 = .ok (.goto (-50), 3) := by decide +kernel
theorem dX10_who_97 : decode cX10_who 97 = .ok (.iload_n 2, 1) := by decide +kernel
theorem dX10_who_98 : decode cX10_who 98 = .ok (.ifCond .ne 7, 3) := by decide +kernel
theorem dX10_who_101 : decode cX10_who 101 = .ok (.iload_n 3, 1) := by decide +kernel
theorem dX10_who_102 : decode cX10_who 102 = .ok (.goto 5, 3) := by decide +kernel
theorem dX10_who_105 : decode cX10_who 105 = .ok (.iload 4, 2) := by decide +kernel
theorem dX10_who_107 : decode cX10_who 107 = .ok (.ireturn, 1) := by decide +kernel
theorem dX10_since_0 : decode cX10_since 0 = .ok (.aload_n 0, 1) := by decide +kernel
theorem dX10_since_1 : decode cX10_since 1 = .ok (.iload_n 1, 1) := by decide +kernel
theorem dX10_since_2 : decode cX10_since 2 = .ok (.invokevirtual 294, 3) := by decide +kernel
theorem dX10_since_5 : decode cX10_since 5 = .ok (.iconst (-1), 1) := by decide +kernel
theorem dX10_since_6 : decode cX10_since 6 = .ok (.if_icmp .eq 11, 3) := by decide +kernel
theorem dX10_since_9 : decode cX10_since 9 = .ok (.aload_n 0, 1) := by decide +kernel
theorem dX10_since_10 : decode cX10_since 10 = .ok (.iload_n 2, 1) := by decide +kernel
theorem dX10_since_11 : decode cX10_since 11 = .ok (.invokevirtual 130, 3) := by decide +kernel
theorem dX10_since_14 : decode cX10_since 14 = .ok (.ifCond .ne 5, 3) := by decide +kernel
theorem dX10_since_17 : decode cX10_since 17 = .ok (.iconst (-1), 1) := by decide +kernel
theorem dX10_since_18 : decode cX10_since 18 = .ok (.ireturn, 1) := by decide +kernel
theorem dX10_since_19 : decode cX10_since 19 = .ok (.aload_n 0, 1) := by decide +kernel
theorem dX10_since_20 : decode cX10_since 20 = .ok (.iload_n 1, 1) := by decide +kernel
theorem dX10_since_21 : decode cX10_since 21 = .ok (.invokevirtual 294, 3) := by decide +kernel
theorem dX10_since_24 : decode cX10_since 24 = .ok (.ifCond .ge 9, 3) := by decide +kernel
theorem dX10_since_27 : decode cX10_since 27 = .ok (.aload_n 0, 1) := by decide +kernel
theorem dX10_since_28 : decode cX10_since 28 = .ok (.iload_n 1, 1) := by decide +kernel
theorem dX10_since_29 : decode cX10_since 29 = .ok (.invokevirtual 294, 3) := by decide +kernel
theorem dX10_since_32 : decode cX10_since 32 = .ok (.ireturn, 1) := by decide +kernel
theorem dX10_since_33 : decode cX10_since 33 = .ok (.bipush 8, 2) := by decide +kernel
theorem dX10_since_35 : decode cX10_since 35 = .ok (.iload_n 2, 1) := by decide +kernel
theorem dX10_since_36 : decode cX10_since 36 = .ok (.imul, 1) := by decide +kernel
theorem dX10_since_37 : decode cX10_since 37 = .ok (.bipush 7, 2) := by decide +kernel
theorem dX10_since_39 : decode cX10_since 39 = .ok (.iadd, 1) := by decide +kernel
theorem dX10_since_40 : decode cX10_since 40 = .ok (.istore_n 3, 1) := by decide +kernel
theorem dX10_since_41 : decode cX10_since 41 = .ok (.aload_n 0, 1) := by decide +kernel
theorem dX10_since_42 : decode cX10_since 42 = .ok (.getfield 9, 3) := by decide +kernel
theorem dX10_since_45 : decode cX10_since 45 = .ok (.iload_n 3, 1) := by decide +kernel
theorem dX10_since_46 : decode cX10_since 46 = .ok (.iaload, 1) := by decide +kernel
theorem dX10_since_47 : decode cX10_since 47 = .ok (.istore 4, 2) := by decide +kernel
theorem dX10_since_49 : decode cX10_since 49 = .ok (.bipush (-2), 2) := by decide +kernel
theorem dX10_since_51 : decode cX10_since 51 = .ok (.istore 5, 2) := by decide +kernel
theorem dX10_since_53 : decode cX10_since 53 = .ok (.aload_n 0, 1) := by decide +kernel
theorem dX10_since_54 : decode cX10_since 54 = .ok (.getfield 79, 3) := by decide +kernel
theorem dX10_since_57 : decode cX10_since 57 = .ok (.iload_n 1, 1) := by decide +kernel
theorem dX10_since_58 : decode cX10_since 58 = .ok (.iaload, 1) := by decide +kernel
theorem dX10_since_59 : decode cX10_since 59 = .ok (.istore 6, 2) := by decide +kernel
theorem dX10_since_61 : decode cX10_since 61 = .ok (.iload 6, 2) := by decide +kernel
theorem dX10_since_63 : decode cX10_since 63 = .ok (.ifCond .lt 45, 3) := by decide +kernel
theorem dX10_since_66 : decode cX10_since 66 = .ok (.aload_n 0, 1) := by decide +kernel
theorem dX10_since_67 : decode cX10_since 67 = .ok (.getfield 9, 3) := by decide +kernel
theorem dX10_since_70 : decode cX10_since 70 = .ok (.iload_n 3, 1) := by decide +kernel
theorem dX10_since_71 : decode cX10_since 71 = .ok (.aload_n 0, 1) := by decide +kernel
theorem dX10_since_72 : decode cX10_since 72 = .ok (.getfield 160, 3) := by decide +kernel
theorem dX10_since_75 : decode cX10_since 75 = .ok (.iload 6, 2) := by decide +kernel
theorem dX10_since_77 : decode cX10_since 77 = .ok (.iadd, 1) := by decide +kernel
theorem dX10_since_78 : decode cX10_since 78 = .ok (.iastore, 1) := by decide +kernel
theorem dX10_since_79 : decode cX10_since 79 = .ok (.aload_n 0, 1) := by decide +kernel
theorem dX10_since_80 : decode cX10_since 80 = .ok (.invokevirtual 258, 3) := by decide +kernel
theorem dX10_since_83 : decode cX10_since 83 = .ok (.aload_n 0, 1) := by decide +kernel
theorem dX10_since_84 : decode cX10_since 84 = .ok (.iload_n 1, 1) := by decide +kernel
theorem dX10_since_85 : decode cX10_since 85 = .ok (.invokevirtual 297, 3) := by decide +kernel
theorem dX10_since_88 : decode cX10_since 88 = .ok (.bipush (-2), 2) := by decide +kernel
theorem dX10_since_90 : decode cX10_since 90 = .ok (.if_icmp .ne 8, 3) := by decide +kernel
theorem dX10_since_93 : decode cX10_since 93 = .ok (.iload 6, 2) := by decide +kernel
theorem dX10_since_95 : decode cX10_since 95 = .ok (.goto 5, 3) := by decide +kernel
theorem dX10_since_98 : decode cX10_since 98 = .ok (.iload 5, 2) := by decide +kernel
theorem dX10_since_100 : decode cX10_since 100 = .ok (.istore 5, 2) := by decide +kernel
theorem dX10_since_102 : decode cX10_since 102 = .ok (.iinc 6 (-1), 3) := by decide +kernel
theorem dX10_since_105 : decode cX10_since 105 = .ok (.goto (-44), 3) := by decide +kernel
theorem dX10_since_108 : decode cX10_since 108 = .ok (.aload_n 0, 1) := by decide +kernel
theorem dX10_since_109 : decode cX10_since 109 = .ok (.getfield 9, 3) := by decide +kernel
theorem dX10_since_112 : decode cX10_since 112 = .ok (.iload_n 3, 1) := by decide +kernel
theorem dX10_since_113 : decode cX10_since 113 = .ok (.iload 4, 2) := by decide +kernel
theorem dX10_since_115 : decode cX10_since 115 = .ok (.iastore, 1) := by decide +kernel
theorem dX10_since_116 : decode cX10_since 116 = .ok (.iload 5, 2) := by decide +kernel
theorem dX10_since_118 : decode cX10_since 118 = .ok (.ireturn, 1) := by decide +kernel
theorem dX10_drawn_0 : decode cX10_drawn 0 = .ok (.iload_n 2, 1) := by decide +kernel
theorem dX10_drawn_1 : decode cX10_drawn 1 = .ok (.i2l, 1) := by decide +kernel
theorem dX10_drawn_2 : decode cX10_drawn 2 = .ok (.lconst 1, 1) := by decide +kernel
theorem dX10_drawn_3 : decode cX10_drawn 3 = .ok (.ldc2_w 109, 3) := by decide +kernel
theorem dX10_drawn_6 : decode cX10_drawn 6 = .ok (.invokestatic 105, 3) := by decide +kernel
theorem dX10_drawn_9 : decode cX10_drawn 9 = .ok (.ifCond .eq 16, 3) := by decide +kernel
theorem dX10_drawn_12 : decode cX10_drawn 12 = .ok (.iload_n 3, 1) := by decide +kernel
theorem dX10_drawn_13 : decode cX10_drawn 13 = .ok (.iconst (-1), 1) := by decide +kernel
theorem dX10_drawn_14 : decode cX10_drawn 14 = .ok (.if_icmp .eq 13, 3) := by decide +kernel
theorem dX10_drawn_17 : decode cX10_drawn 17 = .ok (.aload_n 0, 1) := by decide +kernel
theorem dX10_drawn_18 : decode cX10_drawn 18 = .ok (.iload_n 3, 1) := by decide +kernel
theorem dX10_drawn_19 : decode cX10_drawn 19 = .ok (.invokevirtual 130, 3) := by decide +kernel
theorem dX10_drawn_22 : decode cX10_drawn 22 = .ok (.ifCond .ne 5, 3) := by decide +kernel
theorem dX10_drawn_25 : decode cX10_drawn 25 = .ok (.iconst (-1), 1) := by decide +kernel
theorem dX10_drawn_26 : decode cX10_drawn 26 = .ok (.ireturn, 1) := by decide +kernel
theorem dX10_drawn_27 : decode cX10_drawn 27 = .ok (.iload_n 1, 1) := by decide +kernel
theorem dX10_drawn_28 : decode cX10_drawn 28 = .ok (.istore 4, 2) := by decide +kernel
theorem dX10_drawn_30 : decode cX10_drawn 30 = .ok (.iconst 0, 1) := by decide +kernel
theorem dX10_drawn_31 : decode cX10_drawn 31 = .ok (.istore 5, 2) := by decide +kernel
theorem dX10_drawn_33 : decode cX10_drawn 33 = .ok (.iconst 0, 1) := by decide +kernel
theorem dX10_drawn_34 : decode cX10_drawn 34 = .ok (.istore 6, 2) := by decide +kernel
theorem dX10_drawn_36 : decode cX10_drawn 36 = .ok (.iload 6, 2) := by decide +kernel
theorem dX10_drawn_38 : decode cX10_drawn 38 = .ok (.iload_n 2, 1) := by decide +kernel
theorem dX10_drawn_39 : decode cX10_drawn 39 = .ok (.if_icmp .ge 125, 3) := by decide +kernel
theorem dX10_drawn_42 : decode cX10_drawn 42 = .ok (.aload_n 0, 1) := by decide +kernel
theorem dX10_drawn_43 : decode cX10_drawn 43 = .ok (.invokevirtual 258, 3) := by decide +kernel
theorem dX10_drawn_46 : decode cX10_drawn 46 = .ok (.iconst 0, 1) := by decide +kernel
theorem dX10_drawn_47 : decode cX10_drawn 47 = .ok (.istore 7, 2) := by decide +kernel
theorem dX10_drawn_49 : decode cX10_drawn 49 = .ok (.iload 7, 2) := by decide +kernel
theorem dX10_drawn_51 : decode cX10_drawn 51 = .ok (.bipush 60, 2) := by decide +kernel
theorem dX10_drawn_53 : decode cX10_drawn 53 = .ok (.if_icmp .ge 83, 3) := by decide +kernel
theorem dX10_drawn_56 : decode cX10_drawn 56 = .ok (.aload_n 0, 1) := by decide +kernel
theorem dX10_drawn_57 : decode cX10_drawn 57 = .ok (.iconst 0, 1) := by decide +kernel
theorem dX10_drawn_58 : decode cX10_drawn 58 = .ok (.putfield 241, 3) := by decide +kernel
theorem dX10_drawn_61 : decode cX10_drawn 61 = .ok (.iconst 0, 1) := by decide +kernel
theorem dX10_drawn_62 : decode cX10_drawn 62 = .ok (.istore 8, 2) := by decide +kernel
theorem dX10_drawn_64 : decode cX10_drawn 64 = .ok (.iload 8, 2) := by decide +kernel
theorem dX10_drawn_66 : decode cX10_drawn 66 = .ok (.aload_n 0, 1) := by decide +kernel
theorem dX10_drawn_67 : decode cX10_drawn 67 = .ok (.getfield 102, 3) := by decide +kernel
theorem dX10_drawn_70 : decode cX10_drawn 70 = .ok (.if_icmp .ge 56, 3) := by decide +kernel
theorem dX10_drawn_73 : decode cX10_drawn 73 = .ok (.iload 4, 2) := by decide +kernel
theorem dX10_drawn_75 : decode cX10_drawn 75 = .ok (.ldc_w 300, 3) := by decide +kernel
theorem dX10_drawn_78 : decode cX10_drawn 78 = .ok (.imul, 1) := by decide +kernel
theorem dX10_drawn_79 : decode cX10_drawn 79 = .ok (.sipush 12345, 3) := by decide +kernel
theorem dX10_drawn_82 : decode cX10_drawn 82 = .ok (.iadd, 1) := by decide +kernel
theorem dX10_drawn_83 : decode cX10_drawn 83 = .ok (.istore 4, 2) := by decide +kernel
theorem dX10_drawn_85 : decode cX10_drawn 85 = .ok (.aload_n 0, 1) := by decide +kernel
theorem dX10_drawn_86 : decode cX10_drawn 86 = .ok (.dup, 1) := by decide +kernel
theorem dX10_drawn_87 : decode cX10_drawn 87 = .ok (.getfield 241, 3) := by decide +kernel
theorem dX10_drawn_90 : decode cX10_drawn 90 = .ok (.iload 4, 2) := by decide +kernel
theorem dX10_drawn_92 : decode cX10_drawn 92 = .ok (.bipush 8, 2) := by decide +kernel
theorem dX10_drawn_94 : decode cX10_drawn 94 = .ok (.iushr, 1) := by decide +kernel
theorem dX10_drawn_95 : decode cX10_drawn 95 = .ok (.bipush 12, 2) := by decide +kernel
theorem dX10_drawn_97 : decode cX10_drawn 97 = .ok (.irem, 1) := by decide +kernel
theorem dX10_drawn_98 : decode cX10_drawn 98 = .ok (.aload_n 0, 1) := by decide +kernel
theorem dX10_drawn_99 : decode cX10_drawn 99 = .ok (.getfield 9, 3) := by decide +kernel
theorem dX10_drawn_102 : decode cX10_drawn 102 = .ok (.bipush 27, 2) := by decide +kernel
theorem dX10_drawn_104 : decode cX10_drawn 104 = .ok (.iaload, 1) := by decide +kernel
theorem dX10_drawn_105 : decode cX10_drawn 105 = .ok (.if_icmp .ge 10, 3) := by decide +kernel
theorem dX10_drawn_108 : decode cX10_drawn 108 = .ok (.iconst 1, 1) := by decide +kernel
theorem dX10_drawn_109 : decode cX10_drawn 109 = .ok (.iload 8, 2) := by decide +kernel
theorem dX10_drawn_111 : decode cX10_drawn 111 = .ok (.ishl, 1) := by decide +kernel
theorem dX10_drawn_112 : decode cX10_drawn 112 = .ok (.goto 4, 3) := by decide +kernel
theorem dX10_drawn_115 : decode cX10_drawn 115 = .ok (.iconst 0, 1) := by decide +kernel
theorem dX10_drawn_116 : decode cX10_drawn 116 = .ok (.ior, 1) := by decide +kernel
theorem dX10_drawn_117 : decode cX10_drawn 117 = .ok (.putfield 241, 3) := by decide +kernel
theorem dX10_drawn_120 : decode cX10_drawn 120 = .ok (.iinc 8 1, 3) := by decide +kernel
theorem dX10_drawn_123 : decode cX10_drawn 123 = .ok (.goto (-59), 3) := by decide +kernel
theorem dX10_drawn_126 : decode cX10_drawn 126 = .ok (.aload_n 0, 1) := by decide +kernel
theorem dX10_drawn_127 : decode cX10_drawn 127 = .ok (.invokevirtual 253, 3) := by decide +kernel
theorem dX10_drawn_130 : decode cX10_drawn 130 = .ok (.iinc 7 1, 3) := by decide +kernel
theorem dX10_drawn_133 : decode cX10_drawn 133 = .ok (.goto (-84), 3) := by decide +kernel
theorem dX10_drawn_136 : decode cX10_drawn 136 = .ok (.iload 5, 2) := by decide +kernel
theorem dX10_drawn_138 : decode cX10_drawn 138 = .ok (.iload_n 3, 1) := by decide +kernel
theorem dX10_drawn_139 : decode cX10_drawn 139 = .ok (.ifCond .ge 10, 3) := by decide +kernel
theorem dX10_drawn_142 : decode cX10_drawn 142 = .ok (.aload_n 0, 1) := by decide +kernel
theorem dX10_drawn_143 : decode cX10_drawn 143 = .ok (.getfield 225, 3) := by decide +kernel
theorem dX10_drawn_146 : decode cX10_drawn 146 = .ok (.goto 9, 3) := by decide +kernel
theorem dX10_drawn_149 : decode cX10_drawn 149 = .ok (.aload_n 0, 1) := by decide +kernel
theorem dX10_drawn_150 : decode cX10_drawn 150 = .ok (.getfield 37, 3) := by decide +kernel
theorem dX10_drawn_153 : decode cX10_drawn 153 = .ok (.iload_n 3, 1) := by decide +kernel
theorem dX10_drawn_154 : decode cX10_drawn 154 = .ok (.iaload, 1) := by decide +kernel
theorem dX10_drawn_155 : decode cX10_drawn 155 = .ok (.iadd, 1) := by decide +kernel
theorem dX10_drawn_156 : decode cX10_drawn 156 = .ok (.istore 5, 2) := by decide +kernel
theorem dX10_drawn_158 : decode cX10_drawn 158 = .ok (.iinc 6 1, 3) := by decide +kernel
theorem dX10_drawn_161 : decode cX10_drawn 161 = .ok (.goto (-125), 3) := by decide +kernel
theorem dX10_drawn_164 : decode cX10_drawn 164 = .ok (.iload 5, 2) := by decide +kernel
theorem dX10_drawn_166 : decode cX10_drawn 166 = .ok (.ireturn, 1) := by decide +kernel
theorem dX10_second_0 : decode cX10_second 0 = .ok (.aload_n 0, 1) := by decide +kernel
theorem dX10_second_1 : decode cX10_second 1 = .ok (.getfield 160, 3) := by decide +kernel
theorem dX10_second_4 : decode cX10_second 4 = .ok (.sipush 999, 3) := by decide +kernel
theorem dX10_second_7 : decode cX10_second 7 = .ok (.if_icmp .ne 6, 3) := by decide +kernel
theorem dX10_second_10 : decode cX10_second 10 = .ok (.bipush (-5), 2) := by decide +kernel
theorem dX10_second_12 : decode cX10_second 12 = .ok (.ireturn, 1) := by decide +kernel
theorem dX10_second_13 : decode cX10_second 13 = .ok (.aload_n 0, 1) := by decide +kernel
theorem dX10_second_14 : decode cX10_second 14 = .ok (.invokevirtual 258, 3) := by decide +kernel
theorem dX10_second_17 : decode cX10_second 17 = .ok (.aload_n 0, 1) := by decide +kernel
theorem dX10_second_18 : decode cX10_second 18 = .ok (.invokevirtual 253, 3) := by decide +kernel
theorem dX10_second_21 : decode cX10_second 21 = .ok (.aload_n 0, 1) := by decide +kernel
theorem dX10_second_22 : decode cX10_second 22 = .ok (.aload_n 0, 1) := by decide +kernel
theorem dX10_second_23 : decode cX10_second 23 = .ok (.getfield 225, 3) := by decide +kernel
theorem dX10_second_26 : decode cX10_second 26 = .ok (.putfield 93, 3) := by decide +kernel
theorem dX10_second_29 : decode cX10_second 29 = .ok (.aload_n 0, 1) := by decide +kernel
theorem dX10_second_30 : decode cX10_second 30 = .ok (.aload_n 0, 1) := by decide +kernel
theorem dX10_second_31 : decode cX10_second 31 = .ok (.getfield 228, 3) := by decide +kernel
theorem dX10_second_34 : decode cX10_second 34 = .ok (.putfield 157, 3) := by decide +kernel
theorem dX10_second_37 : decode cX10_second 37 = .ok (.aload_n 0, 1) := by decide +kernel
theorem dX10_second_38 : decode cX10_second 38 = .ok (.aload_n 0, 1) := by decide +kernel
theorem dX10_second_39 : decode cX10_second 39 = .ok (.getfield 231, 3) := by decide +kernel
theorem dX10_second_42 : decode cX10_second 42 = .ok (.putfield 160, 3) := by decide +kernel
theorem dX10_second_45 : decode cX10_second 45 = .ok (.iconst 0, 1) := by decide +kernel
theorem dX10_second_46 : decode cX10_second 46 = .ok (.istore_n 1, 1) := by decide +kernel
theorem dX10_second_47 : decode cX10_second 47 = .ok (.iload_n 1, 1) := by decide +kernel
theorem dX10_second_48 : decode cX10_second 48 = .ok (.aload_n 0, 1) := by decide +kernel
theorem dX10_second_49 : decode cX10_second 49 = .ok (.getfield 102, 3) := by decide +kernel
theorem dX10_second_52 : decode cX10_second 52 = .ok (.if_icmp .ge 71, 3) := by decide +kernel
theorem dX10_second_55 : decode cX10_second 55 = .ok (.aload_n 0, 1) := by decide +kernel
theorem dX10_second_56 : decode cX10_second 56 = .ok (.getfield 22, 3) := by decide +kernel
theorem dX10_second_59 : decode cX10_second 59 = .ok (.iload_n 1, 1) := by decide +kernel
theorem dX10_second_60 : decode cX10_second 60 = .ok (.aload_n 0, 1) := by decide +kernel
theorem dX10_second_61 : decode cX10_second 61 = .ok (.getfield 34, 3) := by decide +kernel
theorem dX10_second_64 : decode cX10_second 64 = .ok (.iload_n 1, 1) := by decide +kernel
theorem dX10_second_65 : decode cX10_second 65 = .ok (.iaload, 1) := by decide +kernel
theorem dX10_second_66 : decode cX10_second 66 = .ok (.iastore, 1) := by decide +kernel
theorem dX10_second_67 : decode cX10_second 67 = .ok (.aload_n 0, 1) := by decide +kernel
theorem dX10_second_68 : decode cX10_second 68 = .ok (.getfield 58, 3) := by decide +kernel
theorem dX10_second_71 : decode cX10_second 71 = .ok (.iload_n 1, 1) := by decide +kernel
theorem dX10_second_72 : decode cX10_second 72 = .ok (.dup2, 1) := by decide +kernel
theorem dX10_second_73 : decode cX10_second 73 = .ok (.iaload, 1) := by decide +kernel
theorem dX10_second_74 : decode cX10_second 74 = .ok (.aload_n 0, 1) := by decide +kernel
theorem dX10_second_75 : decode cX10_second 75 = .ok (.getfield 37, 3) := by decide +kernel
theorem dX10_second_78 : decode cX10_second 78 = .ok (.iload_n 1, 1) := by decide +kernel
theorem dX10_second_79 : decode cX10_second 79 = .ok (.iaload, 1) := by decide +kernel
theorem dX10_second_80 : decode cX10_second 80 = .ok (.iadd, 1) := by decide +kernel
theorem dX10_second_81 : decode cX10_second 81 = .ok (.iastore, 1) := by decide +kernel
theorem dX10_second_82 : decode cX10_second 82 = .ok (.aload_n 0, 1) := by decide +kernel
theorem dX10_second_83 : decode cX10_second 83 = .ok (.getfield 61, 3) := by decide +kernel
theorem dX10_second_86 : decode cX10_second 86 = .ok (.iload_n 1, 1) := by decide +kernel
theorem dX10_second_87 : decode cX10_second 87 = .ok (.dup2, 1) := by decide +kernel
theorem dX10_second_88 : decode cX10_second 88 = .ok (.iaload, 1) := by decide +kernel
theorem dX10_second_89 : decode cX10_second 89 = .ok (.aload_n 0, 1) := by decide +kernel
theorem dX10_second_90 : decode cX10_second 90 = .ok (.iload_n 1, 1) := by decide +kernel
theorem dX10_second_91 : decode cX10_second 91 = .ok (.aload_n 0, 1) := by decide +kernel
theorem dX10_second_92 : decode cX10_second 92 = .ok (.getfield 37, 3) := by decide +kernel
theorem dX10_second_95 : decode cX10_second 95 = .ok (.iload_n 1, 1) := by decide +kernel
theorem dX10_second_96 : decode cX10_second 96 = .ok (.iaload, 1) := by decide +kernel
theorem dX10_second_97 : decode cX10_second 97 = .ok (.invokevirtual 265, 3) := by decide +kernel
theorem dX10_second_100 : decode cX10_second 100 = .ok (.iadd, 1) := by decide +kernel
theorem dX10_second_101 : decode cX10_second 101 = .ok (.iastore, 1) := by decide +kernel
theorem dX10_second_102 : decode cX10_second 102 = .ok (.aload_n 0, 1) := by decide +kernel
theorem dX10_second_103 : decode cX10_second 103 = .ok (.getfield 64, 3) := by decide +kernel
theorem dX10_second_106 : decode cX10_second 106 = .ok (.iload_n 1, 1) := by decide +kernel
theorem dX10_second_107 : decode cX10_second 107 = .ok (.dup2, 1) := by decide +kernel
theorem dX10_second_108 : decode cX10_second 108 = .ok (.iaload, 1) := by decide +kernel
theorem dX10_second_109 : decode cX10_second 109 = .ok (.aload_n 0, 1) := by decide +kernel
theorem dX10_second_110 : decode cX10_second 110 = .ok (.getfield 40, 3) := by decide +kernel
theorem dX10_second_113 : decode cX10_second 113 = .ok (.iload_n 1, 1) := by decide +kernel
theorem dX10_second_114 : decode cX10_second 114 = .ok (.iaload, 1) := by decide +kernel
theorem dX10_second_115 : decode cX10_second 115 = .ok (.iadd, 1) := by decide +kernel
theorem dX10_second_116 : decode cX10_second 116 = .ok (.iastore, 1) := by decide +kernel
theorem dX10_second_117 : decode cX10_second 117 = .ok (.iinc 1 1, 3) := by decide +kernel
theorem dX10_second_120 : decode cX10_second 120 = .ok (.goto (-73), 3) := by decide +kernel
theorem dX10_second_123 : decode cX10_second 123 = .ok (.aload_n 0, 1) := by decide +kernel
theorem dX10_second_124 : decode cX10_second 124 = .ok (.dup, 1) := by decide +kernel
theorem dX10_second_125 : decode cX10_second 125 = .ok (.getfield 301, 3) := by decide +kernel
theorem dX10_second_128 : decode cX10_second 128 = .ok (.iconst 1, 1) := by decide +kernel
theorem dX10_second_129 : decode cX10_second 129 = .ok (.iadd, 1) := by decide +kernel
theorem dX10_second_130 : decode cX10_second 130 = .ok (.putfield 301, 3) := by decide +kernel
theorem dX10_second_133 : decode cX10_second 133 = .ok (.aload_n 0, 1) := by decide +kernel
theorem dX10_second_134 : decode cX10_second 134 = .ok (.getfield 93, 3) := by decide +kernel
theorem dX10_second_137 : decode cX10_second 137 = .ok (.ireturn, 1) := by decide +kernel
theorem dX10_fill_0 : decode cX10_fill 0 = .ok (.iload_n 1, 1) := by decide +kernel
theorem dX10_fill_1 : decode cX10_fill 1 = .ok (.i2l, 1) := by decide +kernel
theorem dX10_fill_2 : decode cX10_fill 2 = .ok (.lconst 0, 1) := by decide +kernel
theorem dX10_fill_3 : decode cX10_fill 3 = .ok (.ldc2_w 113, 3) := by decide +kernel
theorem dX10_fill_6 : decode cX10_fill 6 = .ok (.invokestatic 105, 3) := by decide +kernel
theorem dX10_fill_9 : decode cX10_fill 9 = .ok (.ifCond .ne 5, 3) := by decide +kernel
theorem dX10_fill_12 : decode cX10_fill 12 = .ok (.iconst (-1), 1) := by decide +kernel
theorem dX10_fill_13 : decode cX10_fill 13 = .ok (.ireturn, 1) := by decide +kernel
theorem dX10_fill_14 : decode cX10_fill 14 = .ok (.aload_n 0, 1) := by decide +kernel
theorem dX10_fill_15 : decode cX10_fill 15 = .ok (.getfield 93, 3) := by decide +kernel
theorem dX10_fill_18 : decode cX10_fill 18 = .ok (.istore_n 2, 1) := by decide +kernel
theorem dX10_fill_19 : decode cX10_fill 19 = .ok (.aload_n 0, 1) := by decide +kernel
theorem dX10_fill_20 : decode cX10_fill 20 = .ok (.iload_n 1, 1) := by decide +kernel
theorem dX10_fill_21 : decode cX10_fill 21 = .ok (.putfield 93, 3) := by decide +kernel
theorem dX10_fill_24 : decode cX10_fill 24 = .ok (.aload_n 0, 1) := by decide +kernel
theorem dX10_fill_25 : decode cX10_fill 25 = .ok (.iconst 0, 1) := by decide +kernel
theorem dX10_fill_26 : decode cX10_fill 26 = .ok (.putfield 160, 3) := by decide +kernel
theorem dX10_fill_29 : decode cX10_fill 29 = .ok (.iconst 0, 1) := by decide +kernel
theorem dX10_fill_30 : decode cX10_fill 30 = .ok (.istore_n 3, 1) := by decide +kernel
theorem dX10_fill_31 : decode cX10_fill 31 = .ok (.iload_n 3, 1) := by decide +kernel
theorem dX10_fill_32 : decode cX10_fill 32 = .ok (.iconst 3, 1) := by decide +kernel
theorem dX10_fill_33 : decode cX10_fill 33 = .ok (.if_icmp .ge 16, 3) := by decide +kernel
theorem dX10_fill_36 : decode cX10_fill 36 = .ok (.aload_n 0, 1) := by decide +kernel
theorem dX10_fill_37 : decode cX10_fill 37 = .ok (.getfield 22, 3) := by decide +kernel
theorem dX10_fill_40 : decode cX10_fill 40 = .ok (.iload_n 3, 1) := by decide +kernel
theorem dX10_fill_41 : decode cX10_fill 41 = .ok (.iconst 0, 1) := by decide +kernel
theorem dX10_fill_42 : decode cX10_fill 42 = .ok (.iastore, 1) := by decide +kernel
theorem dX10_fill_43 : decode cX10_fill 43 = .ok (.iinc 3 1, 3) := by decide +kernel
theorem dX10_fill_46 : decode cX10_fill 46 = .ok (.goto (-15), 3) := by decide +kernel
theorem dX10_fill_49 : decode cX10_fill 49 = .ok (.aload_n 0, 1) := by decide +kernel
theorem dX10_fill_50 : decode cX10_fill 50 = .ok (.dup, 1) := by decide +kernel
theorem dX10_fill_51 : decode cX10_fill 51 = .ok (.getfield 304, 3) := by decide +kernel
theorem dX10_fill_54 : decode cX10_fill 54 = .ok (.iconst 1, 1) := by decide +kernel
theorem dX10_fill_55 : decode cX10_fill 55 = .ok (.iadd, 1) := by decide +kernel
theorem dX10_fill_56 : decode cX10_fill 56 = .ok (.putfield 304, 3) := by decide +kernel
theorem dX10_fill_59 : decode cX10_fill 59 = .ok (.iload_n 2, 1) := by decide +kernel
theorem dX10_fill_60 : decode cX10_fill 60 = .ok (.ireturn, 1) := by decide +kernel
theorem dX10_ice_0 : decode cX10_ice 0 = .ok (.iload_n 1, 1) := by decide +kernel
theorem dX10_ice_1 : decode cX10_ice 1 = .ok (.i2l, 1) := by decide +kernel
theorem dX10_ice_2 : decode cX10_ice 2 = .ok (.lconst 1, 1) := by decide +kernel
theorem dX10_ice_3 : decode cX10_ice 3 = .ok (.ldc2_w 137, 3) := by decide +kernel
theorem dX10_ice_6 : decode cX10_ice 6 = .ok (.invokestatic 105, 3) := by decide +kernel
theorem dX10_ice_9 : decode cX10_ice 9 = .ok (.ifCond .ne 5, 3) := by decide +kernel
theorem dX10_ice_12 : decode cX10_ice 12 = .ok (.iconst (-1), 1) := by decide +kernel
theorem dX10_ice_13 : decode cX10_ice 13 = .ok (.ireturn, 1) := by decide +kernel
theorem dX10_ice_14 : decode cX10_ice 14 = .ok (.aload_n 0, 1) := by decide +kernel
theorem dX10_ice_15 : decode cX10_ice 15 = .ok (.getfield 157, 3) := by decide +kernel
theorem dX10_ice_18 : decode cX10_ice 18 = .ok (.iload_n 1, 1) := by decide +kernel
theorem dX10_ice_19 : decode cX10_ice 19 = .ok (.iadd, 1) := by decide +kernel
theorem dX10_ice_20 : decode cX10_ice 20 = .ok (.bipush 99, 2) := by decide +kernel
theorem dX10_ice_22 : decode cX10_ice 22 = .ok (.if_icmp .le 6, 3) := by decide +kernel
theorem dX10_ice_25 : decode cX10_ice 25 = .ok (.bipush (-5), 2) := by decide +kernel
theorem dX10_ice_27 : decode cX10_ice 27 = .ok (.ireturn, 1) := by decide +kernel
theorem dX10_ice_28 : decode cX10_ice 28 = .ok (.aload_n 0, 1) := by decide +kernel
theorem dX10_ice_29 : decode cX10_ice 29 = .ok (.dup, 1) := by decide +kernel
theorem dX10_ice_30 : decode cX10_ice 30 = .ok (.getfield 157, 3) := by decide +kernel
theorem dX10_ice_33 : decode cX10_ice 33 = .ok (.iload_n 1, 1) := by decide +kernel
theorem dX10_ice_34 : decode cX10_ice 34 = .ok (.iadd, 1) := by decide +kernel
theorem dX10_ice_35 : decode cX10_ice 35 = .ok (.putfield 157, 3) := by decide +kernel
theorem dX10_ice_38 : decode cX10_ice 38 = .ok (.aload_n 0, 1) := by decide +kernel
theorem dX10_ice_39 : decode cX10_ice 39 = .ok (.getfield 157, 3) := by decide +kernel
theorem dX10_ice_42 : decode cX10_ice 42 = .ok (.ireturn, 1) := by decide +kernel
theorem dX10_led_0 : decode cX10_led 0 = .ok (.iload_n 2, 1) := by decide +kernel
theorem dX10_led_1 : decode cX10_led 1 = .ok (.i2l, 1) := by decide +kernel
theorem dX10_led_2 : decode cX10_led 2 = .ok (.lconst 0, 1) := by decide +kernel
theorem dX10_led_3 : decode cX10_led 3 = .ok (.ldc2_w 256, 3) := by decide +kernel
theorem dX10_led_6 : decode cX10_led 6 = .ok (.invokestatic 105, 3) := by decide +kernel
theorem dX10_led_9 : decode cX10_led 9 = .ok (.ifCond .eq 49, 3) := by decide +kernel
theorem dX10_led_12 : decode cX10_led 12 = .ok (.aload_n 0, 1) := by decide +kernel
theorem dX10_led_13 : decode cX10_led 13 = .ok (.iload_n 1, 1) := by decide +kernel
theorem dX10_led_14 : decode cX10_led 14 = .ok (.invokevirtual 130, 3) := by decide +kernel
theorem dX10_led_17 : decode cX10_led 17 = .ok (.ifCond .ne 7, 3) := by decide +kernel
theorem dX10_led_20 : decode cX10_led 20 = .ok (.iconst (-1), 1) := by decide +kernel
theorem dX10_led_21 : decode cX10_led 21 = .ok (.goto 36, 3) := by decide +kernel
theorem dX10_led_24 : decode cX10_led 24 = .ok (.iload_n 2, 1) := by decide +kernel
theorem dX10_led_25 : decode cX10_led 25 = .ok (.ifCond .ne 12, 3) := by decide +kernel
theorem dX10_led_28 : decode cX10_led 28 = .ok (.aload_n 0, 1) := by decide +kernel
theorem dX10_led_29 : decode cX10_led 29 = .ok (.getfield 58, 3) := by decide +kernel
theorem dX10_led_32 : decode cX10_led 32 = .ok (.iload_n 1, 1) := by decide +kernel
theorem dX10_led_33 : decode cX10_led 33 = .ok (.iaload, 1) := by decide +kernel
theorem dX10_led_34 : decode cX10_led 34 = .ok (.goto 23, 3) := by decide +kernel
theorem dX10_led_37 : decode cX10_led 37 = .ok (.iload_n 2, 1) := by decide +kernel
theorem dX10_led_38 : decode cX10_led 38 = .ok (.iconst 1, 1) := by decide +kernel
theorem dX10_led_39 : decode cX10_led 39 = .ok (.if_icmp .ne 12, 3) := by decide +kernel
theorem dX10_led_42 : decode cX10_led 42 = .ok (.aload_n 0, 1) := by decide +kernel
theorem dX10_led_43 : decode cX10_led 43 = .ok (.getfield 61, 3) := by decide +kernel
theorem dX10_led_46 : decode cX10_led 46 = .ok (.iload_n 1, 1) := by decide +kernel
theorem dX10_led_47 : decode cX10_led 47 = .ok (.iaload, 1) := by decide +kernel
theorem dX10_led_48 : decode cX10_led 48 = .ok (.goto 9, 3) := by decide +kernel
theorem dX10_led_51 : decode cX10_led 51 = .ok (.aload_n 0, 1) := by decide +kernel
theorem dX10_led_52 : decode cX10_led 52 = .ok (.getfield 64, 3) := by decide +kernel
theorem dX10_led_55 : decode cX10_led 55 = .ok (.iload_n 1, 1) := by decide +kernel
theorem dX10_led_56 : decode cX10_led 56 = .ok (.iaload, 1) := by decide +kernel
theorem dX10_led_57 : decode cX10_led 57 = .ok (.ireturn, 1) := by decide +kernel
theorem dX10_led_58 : decode cX10_led 58 = .ok (.iload_n 1, 1) := by decide +kernel
theorem dX10_led_59 : decode cX10_led 59 = .ok (.ifCond .ne 15, 3) := by decide +kernel
theorem dX10_led_62 : decode cX10_led 62 = .ok (.iload_n 2, 1) := by decide +kernel
theorem dX10_led_63 : decode cX10_led 63 = .ok (.iconst 3, 1) := by decide +kernel
theorem dX10_led_64 : decode cX10_led 64 = .ok (.if_icmp .ne 10, 3) := by decide +kernel
theorem dX10_led_67 : decode cX10_led 67 = .ok (.aload_n 0, 1) := by decide +kernel
theorem dX10_led_68 : decode cX10_led 68 = .ok (.getfield 301, 3) := by decide +kernel
theorem dX10_led_71 : decode cX10_led 71 = .ok (.goto 20, 3) := by decide +kernel
theorem dX10_led_74 : decode cX10_led 74 = .ok (.iload_n 1, 1) := by decide +kernel
theorem dX10_led_75 : decode cX10_led 75 = .ok (.ifCond .ne 15, 3) := by decide +kernel
theorem dX10_led_78 : decode cX10_led 78 = .ok (.iload_n 2, 1) := by decide +kernel
theorem dX10_led_79 : decode cX10_led 79 = .ok (.iconst 4, 1) := by decide +kernel
theorem dX10_led_80 : decode cX10_led 80 = .ok (.if_icmp .ne 10, 3) := by decide +kernel
theorem dX10_led_83 : decode cX10_led 83 = .ok (.aload_n 0, 1) := by decide +kernel
theorem dX10_led_84 : decode cX10_led 84 = .ok (.getfield 304, 3) := by decide +kernel
theorem dX10_led_87 : decode cX10_led 87 = .ok (.goto 4, 3) := by decide +kernel
theorem dX10_led_90 : decode cX10_led 90 = .ok (.iconst (-1), 1) := by decide +kernel
theorem dX10_led_91 : decode cX10_led 91 = .ok (.ireturn, 1) := by decide +kernel
theorem dX10_image_0 : decode cX10_image 0 = .ok (.aload_n 0, 1) := by decide +kernel
theorem dX10_image_1 : decode cX10_image 1 = .ok (.iconst 1, 1) := by decide +kernel
theorem dX10_image_2 : decode cX10_image 2 = .ok (.putfield 307, 3) := by decide +kernel
theorem dX10_image_5 : decode cX10_image 5 = .ok (.aload_n 0, 1) := by decide +kernel
theorem dX10_image_6 : decode cX10_image 6 = .ok (.aload_n 0, 1) := by decide +kernel
theorem dX10_image_7 : decode cX10_image 7 = .ok (.getfield 102, 3) := by decide +kernel
theorem dX10_image_10 : decode cX10_image 10 = .ok (.putfield 310, 3) := by decide +kernel
theorem dX10_image_13 : decode cX10_image 13 = .ok (.iconst 0, 1) := by decide +kernel
theorem dX10_image_14 : decode cX10_image 14 = .ok (.istore_n 1, 1) := by decide +kernel
theorem dX10_image_15 : decode cX10_image 15 = .ok (.iload_n 1, 1) := by decide +kernel
theorem dX10_image_16 : decode cX10_image 16 = .ok (.iconst 3, 1) := by decide +kernel
theorem dX10_image_17 : decode cX10_image 17 = .ok (.if_icmp .ge 71, 3) := by decide +kernel
theorem dX10_image_20 : decode cX10_image 20 = .ok (.aload_n 0, 1) := by decide +kernel
theorem dX10_image_21 : decode cX10_image 21 = .ok (.getfield 67, 3) := by decide +kernel
theorem dX10_image_24 : decode cX10_image 24 = .ok (.iconst 4, 1) := by decide +kernel
theorem dX10_image_25 : decode cX10_image 25 = .ok (.iload_n 1, 1) := by decide +kernel
theorem dX10_image_26 : decode cX10_image 26 = .ok (.imul, 1) := by decide +kernel
theorem dX10_image_27 : decode cX10_image 27 = .ok (.aload_n 0, 1) := by decide +kernel
theorem dX10_image_28 : decode cX10_image 28 = .ok (.getfield 22, 3) := by decide +kernel
theorem dX10_image_31 : decode cX10_image 31 = .ok (.iload_n 1, 1) := by decide +kernel
theorem dX10_image_32 : decode cX10_image 32 = .ok (.iaload, 1) := by decide +kernel
theorem dX10_image_33 : decode cX10_image 33 = .ok (.iastore, 1) := by decide +kernel
theorem dX10_image_34 : decode cX10_image 34 = .ok (.aload_n 0, 1) := by decide +kernel
theorem dX10_image_35 : decode cX10_image 35 = .ok (.getfield 67, 3) := by decide +kernel
theorem dX10_image_38 : decode cX10_image 38 = .ok (.iconst 4, 1) := by decide +kernel
theorem dX10_image_39 : decode cX10_image 39 = .ok (.iload_n 1, 1) := by decide +kernel
theorem dX10_image_40 : decode cX10_image 40 = .ok (.imul, 1) := by decide +kernel
theorem dX10_image_41 : decode cX10_image 41 = .ok (.iconst 1, 1) := by decide +kernel
theorem dX10_image_42 : decode cX10_image 42 = .ok (.iadd, 1) := by decide +kernel
theorem dX10_image_43 : decode cX10_image 43 = .ok (.aload_n 0, 1) := by decide +kernel
theorem dX10_image_44 : decode cX10_image 44 = .ok (.getfield 58, 3) := by decide +kernel
theorem dX10_image_47 : decode cX10_image 47 = .ok (.iload_n 1, 1) := by decide +kernel
theorem dX10_image_48 : decode cX10_image 48 = .ok (.iaload, 1) := by decide +kernel
theorem dX10_image_49 : decode cX10_image 49 = .ok (.iastore, 1) := by decide +kernel
theorem dX10_image_50 : decode cX10_image 50 = .ok (.aload_n 0, 1) := by decide +kernel
theorem dX10_image_51 : decode cX10_image 51 = .ok (.getfield 67, 3) := by decide +kernel
theorem dX10_image_54 : decode cX10_image 54 = .ok (.iconst 4, 1) := by decide +kernel
theorem dX10_image_55 : decode cX10_image 55 = .ok (.iload_n 1, 1) := by decide +kernel
theorem dX10_image_56 : decode cX10_image 56 = .ok (.imul, 1) := by decide +kernel
theorem dX10_image_57 : decode cX10_image 57 = .ok (.iconst 2, 1) := by decide +kernel
theorem dX10_image_58 : decode cX10_image 58 = .ok (.iadd, 1) := by decide +kernel
theorem dX10_image_59 : decode cX10_image 59 = .ok (.aload_n 0, 1) := by decide +kernel
theorem dX10_image_60 : decode cX10_image 60 = .ok (.getfield 61, 3) := by decide +kernel
theorem dX10_image_63 : decode cX10_image 63 = .ok (.iload_n 1, 1) := by decide +kernel
theorem dX10_image_64 : decode cX10_image 64 = .ok (.iaload, 1) := by decide +kernel
theorem dX10_image_65 : decode cX10_image 65 = .ok (.iastore, 1) := by decide +kernel
theorem dX10_image_66 : decode cX10_image 66 = .ok (.aload_n 0, 1) := by decide +kernel
theorem dX10_image_67 : decode cX10_image 67 = .ok (.getfield 67, 3) := by decide +kernel
theorem dX10_image_70 : decode cX10_image 70 = .ok (.iconst 4, 1) := by decide +kernel
theorem dX10_image_71 : decode cX10_image 71 = .ok (.iload_n 1, 1) := by decide +kernel
theorem dX10_image_72 : decode cX10_image 72 = .ok (.imul, 1) := by decide +kernel
theorem dX10_image_73 : decode cX10_image 73 = .ok (.iconst 3, 1) := by decide +kernel
theorem dX10_image_74 : decode cX10_image 74 = .ok (.iadd, 1) := by decide +kernel
theorem dX10_image_75 : decode cX10_image 75 = .ok (.aload_n 0, 1) := by decide +kernel
theorem dX10_image_76 : decode cX10_image 76 = .ok (.getfield 64, 3) := by decide +kernel
theorem dX10_image_79 : decode cX10_image 79 = .ok (.iload_n 1, 1) := by decide +kernel
theorem dX10_image_80 : decode cX10_image 80 = .ok (.iaload, 1) := by decide +kernel
theorem dX10_image_81 : decode cX10_image 81 = .ok (.iastore, 1) := by decide +kernel
theorem dX10_image_82 : decode cX10_image 82 = .ok (.iinc 1 1, 3) := by decide +kernel
theorem dX10_image_85 : decode cX10_image 85 = .ok (.goto (-70), 3) := by decide +kernel
theorem dX10_image_88 : decode cX10_image 88 = .ok (.aload_n 0, 1) := by decide +kernel
theorem dX10_image_89 : decode cX10_image 89 = .ok (.getfield 67, 3) := by decide +kernel
theorem dX10_image_92 : decode cX10_image 92 = .ok (.bipush 12, 2) := by decide +kernel
theorem dX10_image_94 : decode cX10_image 94 = .ok (.aload_n 0, 1) := by decide +kernel
theorem dX10_image_95 : decode cX10_image 95 = .ok (.getfield 93, 3) := by decide +kernel
theorem dX10_image_98 : decode cX10_image 98 = .ok (.iastore, 1) := by decide +kernel
theorem dX10_image_99 : decode cX10_image 99 = .ok (.aload_n 0, 1) := by decide +kernel
theorem dX10_image_100 : decode cX10_image 100 = .ok (.getfield 67, 3) := by decide +kernel
theorem dX10_image_103 : decode cX10_image 103 = .ok (.bipush 13, 2) := by decide +kernel
theorem dX10_image_105 : decode cX10_image 105 = .ok (.aload_n 0, 1) := by decide +kernel
theorem dX10_image_106 : decode cX10_image 106 = .ok (.getfield 157, 3) := by decide +kernel
theorem dX10_image_109 : decode cX10_image 109 = .ok (.iastore, 1) := by decide +kernel
theorem dX10_image_110 : decode cX10_image 110 = .ok (.aload_n 0, 1) := by decide +kernel
theorem dX10_image_111 : decode cX10_image 111 = .ok (.getfield 67, 3) := by decide +kernel
theorem dX10_image_114 : decode cX10_image 114 = .ok (.bipush 14, 2) := by decide +kernel
theorem dX10_image_116 : decode cX10_image 116 = .ok (.aload_n 0, 1) := by decide +kernel
theorem dX10_image_117 : decode cX10_image 117 = .ok (.getfield 160, 3) := by decide +kernel
theorem dX10_image_120 : decode cX10_image 120 = .ok (.iastore, 1) := by decide +kernel
theorem dX10_image_121 : decode cX10_image 121 = .ok (.aload_n 0, 1) := by decide +kernel
theorem dX10_image_122 : decode cX10_image 122 = .ok (.getfield 67, 3) := by decide +kernel
theorem dX10_image_125 : decode cX10_image 125 = .ok (.bipush 15, 2) := by decide +kernel
theorem dX10_image_127 : decode cX10_image 127 = .ok (.aload_n 0, 1) := by decide +kernel
theorem dX10_image_128 : decode cX10_image 128 = .ok (.getfield 301, 3) := by decide +kernel
theorem dX10_image_131 : decode cX10_image 131 = .ok (.iastore, 1) := by decide +kernel
theorem dX10_image_132 : decode cX10_image 132 = .ok (.aload_n 0, 1) := by decide +kernel
theorem dX10_image_133 : decode cX10_image 133 = .ok (.getfield 67, 3) := by decide +kernel
theorem dX10_image_136 : decode cX10_image 136 = .ok (.bipush 16, 2) := by decide +kernel
theorem dX10_image_138 : decode cX10_image 138 = .ok (.aload_n 0, 1) := by decide +kernel
theorem dX10_image_139 : decode cX10_image 139 = .ok (.getfield 304, 3) := by decide +kernel
theorem dX10_image_142 : decode cX10_image 142 = .ok (.iastore, 1) := by decide +kernel
theorem dX10_image_143 : decode cX10_image 143 = .ok (.aload_n 0, 1) := by decide +kernel
theorem dX10_image_144 : decode cX10_image 144 = .ok (.getfield 93, 3) := by decide +kernel
theorem dX10_image_147 : decode cX10_image 147 = .ok (.ireturn, 1) := by decide +kernel
theorem dX10_back_0 : decode cX10_back 0 = .ok (.aload_n 0, 1) := by decide +kernel
theorem dX10_back_1 : decode cX10_back 1 = .ok (.getfield 307, 3) := by decide +kernel
theorem dX10_back_4 : decode cX10_back 4 = .ok (.ifCond .ne 6, 3) := by decide +kernel
theorem dX10_back_7 : decode cX10_back 7 = .ok (.bipush (-5), 2) := by decide +kernel
theorem dX10_back_9 : decode cX10_back 9 = .ok (.ireturn, 1) := by decide +kernel
theorem dX10_back_10 : decode cX10_back 10 = .ok (.iconst 0, 1) := by decide +kernel
theorem dX10_back_11 : decode cX10_back 11 = .ok (.istore_n 1, 1) := by decide +kernel
theorem dX10_back_12 : decode cX10_back 12 = .ok (.iload_n 1, 1) := by decide +kernel
theorem dX10_back_13 : decode cX10_back 13 = .ok (.iconst 3, 1) := by decide +kernel
theorem dX10_back_14 : decode cX10_back 14 = .ok (.if_icmp .ge 117, 3) := by decide +kernel
theorem dX10_back_17 : decode cX10_back 17 = .ok (.iload_n 1, 1) := by decide +kernel
theorem dX10_back_18 : decode cX10_back 18 = .ok (.aload_n 0, 1) := by decide +kernel
theorem dX10_back_19 : decode cX10_back 19 = .ok (.getfield 310, 3) := by decide +kernel
theorem dX10_back_22 : decode cX10_back 22 = .ok (.if_icmp .ge 7, 3) := by decide +kernel
theorem dX10_back_25 : decode cX10_back 25 = .ok (.iconst 1, 1) := by decide +kernel
theorem dX10_back_26 : decode cX10_back 26 = .ok (.goto 4, 3) := by decide +kernel
theorem dX10_back_29 : decode cX10_back 29 = .ok (.iconst 0, 1) := by decide +kernel
theorem dX10_back_30 : decode cX10_back 30 = .ok (.istore_n 2, 1) := by decide +kernel
theorem dX10_back_31 : decode cX10_back 31 = .ok (.aload_n 0, 1) := by decide +kernel
theorem dX10_back_32 : decode cX10_back 32 = .ok (.getfield 22, 3) := by decide +kernel
theorem dX10_back_35 : decode cX10_back 35 = .ok (.iload_n 1, 1) := by decide +kernel
theorem dX10_back_36 : decode cX10_back 36 = .ok (.iload_n 2, 1) := by decide +kernel
theorem dX10_back_37 : decode cX10_back 37 = .ok (.ifCond .eq 14, 3) := by decide +kernel
theorem dX10_back_40 : decode cX10_back 40 = .ok (.aload_n 0, 1) := by decide +kernel
theorem dX10_back_41 : decode cX10_back 41 = .ok (.getfield 67, 3) := by decide +kernel
theorem dX10_back_44 : decode cX10_back 44 = .ok (.iconst 4, 1) := by decide +kernel
theorem dX10_back_45 : decode cX10_back 45 = .ok (.iload_n 1, 1) := by decide +kernel
theorem dX10_back_46 : decode cX10_back 46 = .ok (.imul, 1) := by decide +kernel
theorem dX10_back_47 : decode cX10_back 47 = .ok (.iaload, 1) := by decide +kernel
theorem dX10_back_48 : decode cX10_back 48 = .ok (.goto 4, 3) := by decide +kernel
theorem dX10_back_51 : decode cX10_back 51 = .ok (.iconst 0, 1) := by decide +kernel
theorem dX10_back_52 : decode cX10_back 52 = .ok (.iastore, 1) := by decide +kernel
theorem dX10_back_53 : decode cX10_back 53 = .ok (.aload_n 0, 1) := by decide +kernel
theorem dX10_back_54 : decode cX10_back 54 = .ok (.getfield 58, 3) := by decide +kernel
theorem dX10_back_57 : decode cX10_back 57 = .ok (.iload_n 1, 1) := by decide +kernel
theorem dX10_back_58 : decode cX10_back 58 = .ok (.iload_n 2, 1) := by decide +kernel
theorem dX10_back_59 : decode cX10_back 59 = .ok (.ifCond .eq 16, 3) := by decide +kernel
theorem dX10_back_62 : decode cX10_back 62 = .ok (.aload_n 0, 1) := by decide +kernel
theorem dX10_back_63 : decode cX10_back 63 = .ok (.getfield 67, 3) := by decide +kernel
theorem dX10_back_66 : decode cX10_back 66 = .ok (.iconst 4, 1) := by decide +kernel
theorem dX10_back_67 : decode cX10_back 67 = .ok (.iload_n 1, 1) := by decide +kernel
theorem dX10_back_68 : decode cX10_back 68 = .ok (.imul, 1) := by decide +kernel
theorem dX10_back_69 : decode cX10_back 69 = .ok (.iconst 1, 1) := by decide +kernel
theorem dX10_back_70 : decode cX10_back 70 = .ok (.iadd, 1) := by decide +kernel
theorem dX10_back_71 : decode cX10_back 71 = .ok (.iaload, 1) := by decide +kernel
theorem dX10_back_72 : decode cX10_back 72 = .ok (.goto 4, 3) := by decide +kernel
theorem dX10_back_75 : decode cX10_back 75 = .ok (.iconst 0, 1) := by decide +kernel
theorem dX10_back_76 : decode cX10_back 76 = .ok (.iastore, 1) := by decide +kernel
theorem dX10_back_77 : decode cX10_back 77 = .ok (.aload_n 0, 1) := by decide +kernel
theorem dX10_back_78 : decode cX10_back 78 = .ok (.getfield 61, 3) := by decide +kernel
theorem dX10_back_81 : decode cX10_back 81 = .ok (.iload_n 1, 1) := by decide +kernel
theorem dX10_back_82 : decode cX10_back 82 = .ok (.iload_n 2, 1) := by decide +kernel
theorem dX10_back_83 : decode cX10_back 83 = .ok (.ifCond .eq 16, 3) := by decide +kernel
theorem dX10_back_86 : decode cX10_back 86 = .ok (.aload_n 0, 1) := by decide +kernel
theorem dX10_back_87 : decode cX10_back 87 = .ok (.getfield 67, 3) := by decide +kernel
theorem dX10_back_90 : decode cX10_back 90 = .ok (.iconst 4, 1) := by decide +kernel
theorem dX10_back_91 : decode cX10_back 91 = .ok (.iload_n 1, 1) := by decide +kernel
theorem dX10_back_92 : decode cX10_back 92 = .ok (.imul, 1) := by decide +kernel
theorem dX10_back_93 : decode cX10_back 93 = .ok (.iconst 2, 1) := by decide +kernel
theorem dX10_back_94 : decode cX10_back 94 = .ok (.iadd, 1) := by decide +kernel
theorem dX10_back_95 : decode cX10_back 95 = .ok (.iaload, 1) := by decide +kernel
theorem dX10_back_96 : decode cX10_back 96 = .ok (.goto 4, 3) := by decide +kernel
theorem dX10_back_99 : decode cX10_back 99 = .ok (.iconst 0, 1) := by decide +kernel
theorem dX10_back_100 : decode cX10_back 100 = .ok (.iastore, 1) := by decide +kernel
theorem dX10_back_101 : decode cX10_back 101 = .ok (.aload_n 0, 1) := by decide +kernel
theorem dX10_back_102 : decode cX10_back 102 = .ok (.getfield 64, 3) := by decide +kernel
theorem dX10_back_105 : decode cX10_back 105 = .ok (.iload_n 1, 1) := by decide +kernel
theorem dX10_back_106 : decode cX10_back 106 = .ok (.iload_n 2, 1) := by decide +kernel
theorem dX10_back_107 : decode cX10_back 107 = .ok (.ifCond .eq 16, 3) := by decide +kernel
theorem dX10_back_110 : decode cX10_back 110 = .ok (.aload_n 0, 1) := by decide +kernel
theorem dX10_back_111 : decode cX10_back 111 = .ok (.getfield 67, 3) := by decide +kernel
theorem dX10_back_114 : decode cX10_back 114 = .ok (.iconst 4, 1) := by decide +kernel
theorem dX10_back_115 : decode cX10_back 115 = .ok (.iload_n 1, 1) := by decide +kernel
theorem dX10_back_116 : decode cX10_back 116 = .ok (.imul, 1) := by decide +kernel
theorem dX10_back_117 : decode cX10_back 117 = .ok (.iconst 3, 1) := by decide +kernel
theorem dX10_back_118 : decode cX10_back 118 = .ok (.iadd, 1) := by decide +kernel
theorem dX10_back_119 : decode cX10_back 119 = .ok (.iaload, 1) := by decide +kernel
theorem dX10_back_120 : decode cX10_back 120 = .ok (.goto 4, 3) := by decide +kernel
theorem dX10_back_123 : decode cX10_back 123 = .ok (.iconst 0, 1) := by decide +kernel
theorem dX10_back_124 : decode cX10_back 124 = .ok (.iastore, 1) := by decide +kernel
theorem dX10_back_125 : decode cX10_back 125 = .ok (.iinc 1 1, 3) := by decide +kernel
theorem dX10_back_128 : decode cX10_back 128 = .ok (.goto (-116), 3) := by decide +kernel
theorem dX10_back_131 : decode cX10_back 131 = .ok (.aload_n 0, 1) := by decide +kernel
theorem dX10_back_132 : decode cX10_back 132 = .ok (.aload_n 0, 1) := by decide +kernel
theorem dX10_back_133 : decode cX10_back 133 = .ok (.getfield 67, 3) := by decide +kernel
theorem dX10_back_136 : decode cX10_back 136 = .ok (.bipush 12, 2) := by decide +kernel
theorem dX10_back_138 : decode cX10_back 138 = .ok (.iaload, 1) := by decide +kernel
theorem dX10_back_139 : decode cX10_back 139 = .ok (.putfield 93, 3) := by decide +kernel
theorem dX10_back_142 : decode cX10_back 142 = .ok (.aload_n 0, 1) := by decide +kernel
theorem dX10_back_143 : decode cX10_back 143 = .ok (.aload_n 0, 1) := by decide +kernel
theorem dX10_back_144 : decode cX10_back 144 = .ok (.getfield 67, 3) := by decide +kernel
theorem dX10_back_147 : decode cX10_back 147 = .ok (.bipush 13, 2) := by decide +kernel
theorem dX10_back_149 : decode cX10_back 149 = .ok (.iaload, 1) := by decide +kernel
theorem dX10_back_150 : decode cX10_back 150 = .ok (.putfield 157, 3) := by decide +kernel
theorem dX10_back_153 : decode cX10_back 153 = .ok (.aload_n 0, 1) := by decide +kernel
theorem dX10_back_154 : decode cX10_back 154 = .ok (.aload_n 0, 1) := by decide +kernel
theorem dX10_back_155 : decode cX10_back 155 = .ok (.getfield 67, 3) := by decide +kernel
theorem dX10_back_158 : decode cX10_back 158 = .ok (.bipush 14, 2) := by decide +kernel
theorem dX10_back_160 : decode cX10_back 160 = .ok (.iaload, 1) := by decide +kernel
theorem dX10_back_161 : decode cX10_back 161 = .ok (.putfield 160, 3) := by decide +kernel
theorem dX10_back_164 : decode cX10_back 164 = .ok (.aload_n 0, 1) := by decide +kernel
theorem dX10_back_165 : decode cX10_back 165 = .ok (.aload_n 0, 1) := by decide +kernel
theorem dX10_back_166 : decode cX10_back 166 = .ok (.getfield 67, 3) := by decide +kernel
theorem dX10_back_169 : decode cX10_back 169 = .ok (.bipush 15, 2) := by decide +kernel
theorem dX10_back_171 : decode cX10_back 171 = .ok (.iaload, 1) := by decide +kernel
theorem dX10_back_172 : decode cX10_back 172 = .ok (.putfield 301, 3) := by decide +kernel
theorem dX10_back_175 : decode cX10_back 175 = .ok (.aload_n 0, 1) := by decide +kernel
theorem dX10_back_176 : decode cX10_back 176 = .ok (.aload_n 0, 1) := by decide +kernel
theorem dX10_back_177 : decode cX10_back 177 = .ok (.getfield 67, 3) := by decide +kernel
theorem dX10_back_180 : decode cX10_back 180 = .ok (.bipush 16, 2) := by decide +kernel
theorem dX10_back_182 : decode cX10_back 182 = .ok (.iaload, 1) := by decide +kernel
theorem dX10_back_183 : decode cX10_back 183 = .ok (.putfield 304, 3) := by decide +kernel
theorem dX10_back_186 : decode cX10_back 186 = .ok (.aload_n 0, 1) := by decide +kernel
theorem dX10_back_187 : decode cX10_back 187 = .ok (.getfield 93, 3) := by decide +kernel
theorem dX10_back_190 : decode cX10_back 190 = .ok (.ireturn, 1) := by decide +kernel
theorem dX10_isBody_0 : decode cX10_isBody 0 = .ok (.iload_n 1, 1) := by decide +kernel
theorem dX10_isBody_1 : decode cX10_isBody 1 = .ok (.i2l, 1) := by decide +kernel
theorem dX10_isBody_2 : decode cX10_isBody 2 = .ok (.lconst 0, 1) := by decide +kernel
theorem dX10_isBody_3 : decode cX10_isBody 3 = .ok (.aload_n 0, 1) := by decide +kernel
theorem dX10_isBody_4 : decode cX10_isBody 4 = .ok (.getfield 313, 3) := by decide +kernel
theorem dX10_isBody_7 : decode cX10_isBody 7 = .ok (.iconst 1, 1) := by decide +kernel
theorem dX10_isBody_8 : decode cX10_isBody 8 = .ok (.isub, 1) := by decide +kernel
theorem dX10_isBody_9 : decode cX10_isBody 9 = .ok (.i2l, 1) := by decide +kernel
theorem dX10_isBody_10 : decode cX10_isBody 10 = .ok (.invokestatic 105, 3) := by decide +kernel
theorem dX10_isBody_13 : decode cX10_isBody 13 = .ok (.ireturn, 1) := by decide +kernel
theorem dX10_kindOf_0 : decode cX10_kindOf 0 = .ok (.aload_n 0, 1) := by decide +kernel
theorem dX10_kindOf_1 : decode cX10_kindOf 1 = .ok (.getfield 70, 3) := by decide +kernel
theorem dX10_kindOf_4 : decode cX10_kindOf 4 = .ok (.iload_n 1, 1) := by decide +kernel
theorem dX10_kindOf_5 : decode cX10_kindOf 5 = .ok (.iaload, 1) := by decide +kernel
theorem dX10_kindOf_6 : decode cX10_kindOf 6 = .ok (.ireturn, 1) := by decide +kernel
theorem dX10_body_0 : decode cX10_body 0 = .ok (.iload_n 1, 1) := by decide +kernel
theorem dX10_body_1 : decode cX10_body 1 = .ok (.i2l, 1) := by decide +kernel
theorem dX10_body_2 : decode cX10_body 2 = .ok (.lconst 0, 1) := by decide +kernel
theorem dX10_body_3 : decode cX10_body 3 = .ok (.ldc2_w 128, 3) := by decide +kernel
theorem dX10_body_6 : decode cX10_body 6 = .ok (.invokestatic 105, 3) := by decide +kernel
theorem dX10_body_9 : decode cX10_body 9 = .ok (.ifCond .ne 5, 3) := by decide +kernel
theorem dX10_body_12 : decode cX10_body 12 = .ok (.iconst (-1), 1) := by decide +kernel
theorem dX10_body_13 : decode cX10_body 13 = .ok (.ireturn, 1) := by decide +kernel
theorem dX10_body_14 : decode cX10_body 14 = .ok (.aload_n 0, 1) := by decide +kernel
theorem dX10_body_15 : decode cX10_body 15 = .ok (.getfield 313, 3) := by decide +kernel
theorem dX10_body_18 : decode cX10_body 18 = .ok (.bipush 50, 2) := by decide +kernel
theorem dX10_body_20 : decode cX10_body 20 = .ok (.if_icmp .ne 6, 3) := by decide +kernel
theorem dX10_body_23 : decode cX10_body 23 = .ok (.bipush (-3), 2) := by decide +kernel
theorem dX10_body_25 : decode cX10_body 25 = .ok (.ireturn, 1) := by decide +kernel
theorem dX10_body_26 : decode cX10_body 26 = .ok (.aload_n 0, 1) := by decide +kernel
theorem dX10_body_27 : decode cX10_body 27 = .ok (.getfield 70, 3) := by decide +kernel
theorem dX10_body_30 : decode cX10_body 30 = .ok (.aload_n 0, 1) := by decide +kernel
theorem dX10_body_31 : decode cX10_body 31 = .ok (.getfield 313, 3) := by decide +kernel
theorem dX10_body_34 : decode cX10_body 34 = .ok (.iload_n 1, 1) := by decide +kernel
theorem dX10_body_35 : decode cX10_body 35 = .ok (.iastore, 1) := by decide +kernel
theorem dX10_body_36 : decode cX10_body 36 = .ok (.aload_n 0, 1) := by decide +kernel
theorem dX10_body_37 : decode cX10_body 37 = .ok (.dup, 1) := by decide +kernel
theorem dX10_body_38 : decode cX10_body 38 = .ok (.getfield 313, 3) := by decide +kernel
theorem dX10_body_41 : decode cX10_body 41 = .ok (.iconst 1, 1) := by decide +kernel
theorem dX10_body_42 : decode cX10_body 42 = .ok (.iadd, 1) := by decide +kernel
theorem dX10_body_43 : decode cX10_body 43 = .ok (.putfield 313, 3) := by decide +kernel
theorem dX10_body_46 : decode cX10_body 46 = .ok (.aload_n 0, 1) := by decide +kernel
theorem dX10_body_47 : decode cX10_body 47 = .ok (.getfield 313, 3) := by decide +kernel
theorem dX10_body_50 : decode cX10_body 50 = .ok (.iconst 1, 1) := by decide +kernel
theorem dX10_body_51 : decode cX10_body 51 = .ok (.isub, 1) := by decide +kernel
theorem dX10_body_52 : decode cX10_body 52 = .ok (.ireturn, 1) := by decide +kernel
theorem dX10_above_0 : decode cX10_above 0 = .ok (.iload_n 0, 1) := by decide +kernel
theorem dX10_above_1 : decode cX10_above 1 = .ok (.iconst 3, 1) := by decide +kernel
theorem dX10_above_2 : decode cX10_above 2 = .ok (.if_icmp .ne 7, 3) := by decide +kernel
theorem dX10_above_5 : decode cX10_above 5 = .ok (.iconst 2, 1) := by decide +kernel
theorem dX10_above_6 : decode cX10_above 6 = .ok (.goto 32, 3) := by decide +kernel
theorem dX10_above_9 : decode cX10_above 9 = .ok (.iload_n 0, 1) := by decide +kernel
theorem dX10_above_10 : decode cX10_above 10 = .ok (.iconst 4, 1) := by decide +kernel
theorem dX10_above_11 : decode cX10_above 11 = .ok (.if_icmp .ne 7, 3) := by decide +kernel
theorem dX10_above_14 : decode cX10_above 14 = .ok (.iconst 1, 1) := by decide +kernel
theorem dX10_above_15 : decode cX10_above 15 = .ok (.goto 23, 3) := by decide +kernel
theorem dX10_above_18 : decode cX10_above 18 = .ok (.iload_n 0, 1) := by decide +kernel
theorem dX10_above_19 : decode cX10_above 19 = .ok (.iconst 5, 1) := by decide +kernel
theorem dX10_above_20 : decode cX10_above 20 = .ok (.if_icmp .ne 7, 3) := by decide +kernel
theorem dX10_above_23 : decode cX10_above 23 = .ok (.iconst 3, 1) := by decide +kernel
theorem dX10_above_24 : decode cX10_above 24 = .ok (.goto 14, 3) := by decide +kernel
theorem dX10_above_27 : decode cX10_above 27 = .ok (.iload_n 0, 1) := by decide +kernel
theorem dX10_above_28 : decode cX10_above 28 = .ok (.bipush 7, 2) := by decide +kernel
theorem dX10_above_30 : decode cX10_above 30 = .ok (.if_icmp .ne 7, 3) := by decide +kernel
theorem dX10_above_33 : decode cX10_above 33 = .ok (.iconst 4, 1) := by decide +kernel
theorem dX10_above_34 : decode cX10_above 34 = .ok (.goto 4, 3) := by decide +kernel
theorem dX10_above_37 : decode cX10_above 37 = .ok (.iconst 0, 1) := by decide +kernel
theorem dX10_above_38 : decode cX10_above 38 = .ok (.ireturn, 1) := by decide +kernel
theorem dX10_begins_0 : decode cX10_begins 0 = .ok (.aload_n 0, 1) := by decide +kernel
theorem dX10_begins_1 : decode cX10_begins 1 = .ok (.getfield 316, 3) := by decide +kernel
theorem dX10_begins_4 : decode cX10_begins 4 = .ok (.bipush 24, 2) := by decide +kernel
theorem dX10_begins_6 : decode cX10_begins 6 = .ok (.if_icmp .ge 13, 3) := by decide +kernel
theorem dX10_begins_9 : decode cX10_begins 9 = .ok (.aload_n 0, 1) := by decide +kernel
theorem dX10_begins_10 : decode cX10_begins 10 = .ok (.getfield 73, 3) := by decide +kernel
theorem dX10_begins_13 : decode cX10_begins 13 = .ok (.aload_n 0, 1) := by decide +kernel
theorem dX10_begins_14 : decode cX10_begins 14 = .ok (.getfield 316, 3) := by decide +kernel
theorem dX10_begins_17 : decode cX10_begins 17 = .ok (.iload_n 1, 1) := by decide +kernel
theorem dX10_begins_18 : decode cX10_begins 18 = .ok (.iastore, 1) := by decide +kernel
theorem dX10_begins_19 : decode cX10_begins 19 = .ok (.aload_n 0, 1) := by decide +kernel
theorem dX10_begins_20 : decode cX10_begins 20 = .ok (.dup, 1) := by decide +kernel
theorem dX10_begins_21 : decode cX10_begins 21 = .ok (.getfield 316, 3) := by decide +kernel
theorem dX10_begins_24 : decode cX10_begins 24 = .ok (.iconst 1, 1) := by decide +kernel
theorem dX10_begins_25 : decode cX10_begins 25 = .ok (.iadd, 1) := by decide +kernel
theorem dX10_begins_26 : decode cX10_begins 26 = .ok (.putfield 316, 3) := by decide +kernel
theorem dX10_begins_29 : decode cX10_begins 29 = .ok (.return_, 1) := by decide +kernel
theorem dX10_drawsAs_0 : decode cX10_drawsAs 0 = .ok (.iload_n 1, 1) := by decide +kernel
theorem dX10_drawsAs_1 : decode cX10_drawsAs 1 = .ok (.iconst 1, 1) := by decide +kernel
theorem dX10_drawsAs_2 : decode cX10_drawsAs 2 = .ok (.if_icmp .eq 14, 3) := by decide +kernel
theorem dX10_drawsAs_5 : decode cX10_drawsAs 5 = .ok (.iload_n 1, 1) := by decide +kernel
theorem dX10_drawsAs_6 : decode cX10_drawsAs 6 = .ok (.iconst 4, 1) := by decide +kernel
theorem dX10_drawsAs_7 : decode cX10_drawsAs 7 = .ok (.if_icmp .eq 9, 3) := by decide +kernel
theorem dX10_drawsAs_10 : decode cX10_drawsAs 10 = .ok (.iload_n 1, 1) := by decide +kernel
theorem dX10_drawsAs_11 : decode cX10_drawsAs 11 = .ok (.bipush 7, 2) := by decide +kernel
theorem dX10_drawsAs_13 : decode cX10_drawsAs 13 = .ok (.if_icmp .ne 18, 3) := by decide +kernel
theorem dX10_drawsAs_16 : decode cX10_drawsAs 16 = .ok (.aload_n 0, 1) := by decide +kernel
theorem dX10_drawsAs_17 : decode cX10_drawsAs 17 = .ok (.bipush 20, 2) := by decide +kernel
theorem dX10_drawsAs_19 : decode cX10_drawsAs 19 = .ok (.invokevirtual 319, 3) := by decide +kernel
theorem dX10_drawsAs_22 : decode cX10_drawsAs 22 = .ok (.aload_n 0, 1) := by decide +kernel
theorem dX10_drawsAs_23 : decode cX10_drawsAs 23 = .ok (.iconst 0, 1) := by decide +kernel
theorem dX10_drawsAs_24 : decode cX10_drawsAs 24 = .ok (.iload_n 2, 1) := by decide +kernel
theorem dX10_drawsAs_25 : decode cX10_drawsAs 25 = .ok (.invokevirtual 322, 3) := by decide +kernel
theorem dX10_drawsAs_28 : decode cX10_drawsAs 28 = .ok (.iconst 3, 1) := by decide +kernel
theorem dX10_drawsAs_29 : decode cX10_drawsAs 29 = .ok (.iadd, 1) := by decide +kernel
theorem dX10_drawsAs_30 : decode cX10_drawsAs 30 = .ok (.ireturn, 1) := by decide +kernel
theorem dX10_drawsAs_31 : decode cX10_drawsAs 31 = .ok (.iload_n 1, 1) := by decide +kernel
theorem dX10_drawsAs_32 : decode cX10_drawsAs 32 = .ok (.bipush 6, 2) := by decide +kernel
theorem dX10_drawsAs_34 : decode cX10_drawsAs 34 = .ok (.if_icmp .ne 18, 3) := by decide +kernel
theorem dX10_drawsAs_37 : decode cX10_drawsAs 37 = .ok (.aload_n 0, 1) := by decide +kernel
theorem dX10_drawsAs_38 : decode cX10_drawsAs 38 = .ok (.bipush 70, 2) := by decide +kernel
theorem dX10_drawsAs_40 : decode cX10_drawsAs 40 = .ok (.invokevirtual 319, 3) := by decide +kernel
theorem dX10_drawsAs_43 : decode cX10_drawsAs 43 = .ok (.aload_n 0, 1) := by decide +kernel
theorem dX10_drawsAs_44 : decode cX10_drawsAs 44 = .ok (.iconst 0, 1) := by decide +kernel
theorem dX10_drawsAs_45 : decode cX10_drawsAs 45 = .ok (.iload_n 2, 1) := by decide +kernel
theorem dX10_drawsAs_46 : decode cX10_drawsAs 46 = .ok (.invokevirtual 322, 3) := by decide +kernel
theorem dX10_drawsAs_49 : decode cX10_drawsAs 49 = .ok (.iconst 2, 1) := by decide +kernel
theorem dX10_drawsAs_50 : decode cX10_drawsAs 50 = .ok (.imul, 1) := by decide +kernel
theorem dX10_drawsAs_51 : decode cX10_drawsAs 51 = .ok (.ireturn, 1) := by decide +kernel
theorem dX10_drawsAs_52 : decode cX10_drawsAs 52 = .ok (.aload_n 0, 1) := by decide +kernel
theorem dX10_drawsAs_53 : decode cX10_drawsAs 53 = .ok (.iconst 1, 1) := by decide +kernel
theorem dX10_drawsAs_54 : decode cX10_drawsAs 54 = .ok (.invokevirtual 319, 3) := by decide +kernel
theorem dX10_drawsAs_57 : decode cX10_drawsAs 57 = .ok (.iload_n 2, 1) := by decide +kernel
theorem dX10_drawsAs_58 : decode cX10_drawsAs 58 = .ok (.aload_n 0, 1) := by decide +kernel
theorem dX10_drawsAs_59 : decode cX10_drawsAs 59 = .ok (.getfield 325, 3) := by decide +kernel
theorem dX10_drawsAs_62 : decode cX10_drawsAs 62 = .ok (.iadd, 1) := by decide +kernel
theorem dX10_drawsAs_63 : decode cX10_drawsAs 63 = .ok (.ireturn, 1) := by decide +kernel
theorem dX10_getsAs_0 : decode cX10_getsAs 0 = .ok (.iload_n 1, 1) := by decide +kernel
theorem dX10_getsAs_1 : decode cX10_getsAs 1 = .ok (.iconst 3, 1) := by decide +kernel
theorem dX10_getsAs_2 : decode cX10_getsAs 2 = .ok (.if_icmp .eq 8, 3) := by decide +kernel
theorem dX10_getsAs_5 : decode cX10_getsAs 5 = .ok (.iload_n 1, 1) := by decide +kernel
theorem dX10_getsAs_6 : decode cX10_getsAs 6 = .ok (.iconst 5, 1) := by decide +kernel
theorem dX10_getsAs_7 : decode cX10_getsAs 7 = .ok (.if_icmp .ne 18, 3) := by decide +kernel
theorem dX10_getsAs_10 : decode cX10_getsAs 10 = .ok (.aload_n 0, 1) := by decide +kernel
theorem dX10_getsAs_11 : decode cX10_getsAs 11 = .ok (.bipush 41, 2) := by decide +kernel
theorem dX10_getsAs_13 : decode cX10_getsAs 13 = .ok (.invokevirtual 319, 3) := by decide +kernel
theorem dX10_getsAs_16 : decode cX10_getsAs 16 = .ok (.aload_n 0, 1) := by decide +kernel
theorem dX10_getsAs_17 : decode cX10_getsAs 17 = .ok (.iconst 2, 1) := by decide +kernel
theorem dX10_getsAs_18 : decode cX10_getsAs 18 = .ok (.iload_n 2, 1) := by decide +kernel
theorem dX10_getsAs_19 : decode cX10_getsAs 19 = .ok (.iconst 1, 1) := by decide +kernel
theorem dX10_getsAs_20 : decode cX10_getsAs 20 = .ok (.iadd, 1) := by decide +kernel
theorem dX10_getsAs_21 : decode cX10_getsAs 21 = .ok (.invokevirtual 328, 3) := by decide +kernel
theorem dX10_getsAs_24 : decode cX10_getsAs 24 = .ok (.ireturn, 1) := by decide +kernel
theorem dX10_getsAs_25 : decode cX10_getsAs 25 = .ok (.iload_n 1, 1) := by decide +kernel
theorem dX10_getsAs_26 : decode cX10_getsAs 26 = .ok (.iconst 2, 1) := by decide +kernel
theorem dX10_getsAs_27 : decode cX10_getsAs 27 = .ok (.if_icmp .ne 17, 3) := by decide +kernel
theorem dX10_getsAs_30 : decode cX10_getsAs 30 = .ok (.aload_n 0, 1) := by decide +kernel
theorem dX10_getsAs_31 : decode cX10_getsAs 31 = .ok (.bipush 30, 2) := by decide +kernel
theorem dX10_getsAs_33 : decode cX10_getsAs 33 = .ok (.invokevirtual 319, 3) := by decide +kernel
theorem dX10_getsAs_36 : decode cX10_getsAs 36 = .ok (.aload_n 0, 1) := by decide +kernel
theorem dX10_getsAs_37 : decode cX10_getsAs 37 = .ok (.iconst 0, 1) := by decide +kernel
theorem dX10_getsAs_38 : decode cX10_getsAs 38 = .ok (.iload_n 2, 1) := by decide +kernel
theorem dX10_getsAs_39 : decode cX10_getsAs 39 = .ok (.invokevirtual 328, 3) := by decide +kernel
theorem dX10_getsAs_42 : decode cX10_getsAs 42 = .ok (.ineg, 1) := by decide +kernel
theorem dX10_getsAs_43 : decode cX10_getsAs 43 = .ok (.ireturn, 1) := by decide +kernel
theorem dX10_getsAs_44 : decode cX10_getsAs 44 = .ok (.iload_n 1, 1) := by decide +kernel
theorem dX10_getsAs_45 : decode cX10_getsAs 45 = .ok (.bipush 7, 2) := by decide +kernel
theorem dX10_getsAs_47 : decode cX10_getsAs 47 = .ok (.if_icmp .ne 28, 3) := by decide +kernel
theorem dX10_getsAs_50 : decode cX10_getsAs 50 = .ok (.aload_n 0, 1) := by decide +kernel
theorem dX10_getsAs_51 : decode cX10_getsAs 51 = .ok (.bipush 80, 2) := by decide +kernel
theorem dX10_getsAs_53 : decode cX10_getsAs 53 = .ok (.invokevirtual 319, 3) := by decide +kernel
theorem dX10_getsAs_56 : decode cX10_getsAs 56 = .ok (.aload_n 0, 1) := by decide +kernel
theorem dX10_getsAs_57 : decode cX10_getsAs 57 = .ok (.iconst 4, 1) := by decide +kernel
theorem dX10_getsAs_58 : decode cX10_getsAs 58 = .ok (.iload_n 2, 1) := by decide +kernel
theorem dX10_getsAs_59 : decode cX10_getsAs 59 = .ok (.invokevirtual 328, 3) := by decide +kernel
theorem dX10_getsAs_62 : decode cX10_getsAs 62 = .ok (.istore_n 3, 1) := by decide +kernel
theorem dX10_getsAs_63 : decode cX10_getsAs 63 = .ok (.iload_n 3, 1) := by decide +kernel
theorem dX10_getsAs_64 : decode cX10_getsAs 64 = .ok (.aload_n 0, 1) := by decide +kernel
theorem dX10_getsAs_65 : decode cX10_getsAs 65 = .ok (.aload_n 0, 1) := by decide +kernel
theorem dX10_getsAs_66 : decode cX10_getsAs 66 = .ok (.getfield 331, 3) := by decide +kernel
theorem dX10_getsAs_69 : decode cX10_getsAs 69 = .ok (.iconst 2, 1) := by decide +kernel
theorem dX10_getsAs_70 : decode cX10_getsAs 70 = .ok (.invokevirtual 334, 3) := by decide +kernel
theorem dX10_getsAs_73 : decode cX10_getsAs 73 = .ok (.iadd, 1) := by decide +kernel
theorem dX10_getsAs_74 : decode cX10_getsAs 74 = .ok (.ireturn, 1) := by decide +kernel
theorem dX10_getsAs_75 : decode cX10_getsAs 75 = .ok (.aload_n 0, 1) := by decide +kernel
theorem dX10_getsAs_76 : decode cX10_getsAs 76 = .ok (.bipush 10, 2) := by decide +kernel
theorem dX10_getsAs_78 : decode cX10_getsAs 78 = .ok (.invokevirtual 319, 3) := by decide +kernel
theorem dX10_getsAs_81 : decode cX10_getsAs 81 = .ok (.aload_n 0, 1) := by decide +kernel
theorem dX10_getsAs_82 : decode cX10_getsAs 82 = .ok (.aload_n 0, 1) := by decide +kernel
theorem dX10_getsAs_83 : decode cX10_getsAs 83 = .ok (.getfield 331, 3) := by decide +kernel
theorem dX10_getsAs_86 : decode cX10_getsAs 86 = .ok (.iload_n 2, 1) := by decide +kernel
theorem dX10_getsAs_87 : decode cX10_getsAs 87 = .ok (.invokevirtual 322, 3) := by decide +kernel
theorem dX10_getsAs_90 : decode cX10_getsAs 90 = .ok (.iconst 2, 1) := by decide +kernel
theorem dX10_getsAs_91 : decode cX10_getsAs 91 = .ok (.imul, 1) := by decide +kernel
theorem dX10_getsAs_92 : decode cX10_getsAs 92 = .ok (.ireturn, 1) := by decide +kernel
theorem dX10_restsAs_0 : decode cX10_restsAs 0 = .ok (.iload_n 1, 1) := by decide +kernel
theorem dX10_restsAs_1 : decode cX10_restsAs 1 = .ok (.iconst 3, 1) := by decide +kernel
theorem dX10_restsAs_2 : decode cX10_restsAs 2 = .ok (.if_icmp .eq 8, 3) := by decide +kernel
theorem dX10_restsAs_5 : decode cX10_restsAs 5 = .ok (.iload_n 1, 1) := by decide +kernel
theorem dX10_restsAs_6 : decode cX10_restsAs 6 = .ok (.iconst 5, 1) := by decide +kernel
theorem dX10_restsAs_7 : decode cX10_restsAs 7 = .ok (.if_icmp .ne 18, 3) := by decide +kernel
theorem dX10_restsAs_10 : decode cX10_restsAs 10 = .ok (.aload_n 0, 1) := by decide +kernel
theorem dX10_restsAs_11 : decode cX10_restsAs 11 = .ok (.bipush 40, 2) := by decide +kernel
theorem dX10_restsAs_13 : decode cX10_restsAs 13 = .ok (.invokevirtual 319, 3) := by decide +kernel
theorem dX10_restsAs_16 : decode cX10_restsAs 16 = .ok (.aload_n 0, 1) := by decide +kernel
theorem dX10_restsAs_17 : decode cX10_restsAs 17 = .ok (.iconst 2, 1) := by decide +kernel
theorem dX10_restsAs_18 : decode cX10_restsAs 18 = .ok (.iload_n 2, 1) := by decide +kernel
theorem dX10_restsAs_19 : decode cX10_restsAs 19 = .ok (.invokevirtual 334, 3) := by decide +kernel
theorem dX10_restsAs_22 : decode cX10_restsAs 22 = .ok (.iconst 3, 1) := by decide +kernel
theorem dX10_restsAs_23 : decode cX10_restsAs 23 = .ok (.imul, 1) := by decide +kernel
theorem dX10_restsAs_24 : decode cX10_restsAs 24 = .ok (.ireturn, 1) := by decide +kernel
theorem dX10_restsAs_25 : decode cX10_restsAs 25 = .ok (.iload_n 1, 1) := by decide +kernel
theorem dX10_restsAs_26 : decode cX10_restsAs 26 = .ok (.iconst 4, 1) := by decide +kernel
theorem dX10_restsAs_27 : decode cX10_restsAs 27 = .ok (.if_icmp .eq 9, 3) := by decide +kernel
theorem dX10_restsAs_30 : decode cX10_restsAs 30 = .ok (.iload_n 1, 1) := by decide +kernel
theorem dX10_restsAs_31 : decode cX10_restsAs 31 = .ok (.bipush 7, 2) := by decide +kernel
theorem dX10_restsAs_33 : decode cX10_restsAs 33 = .ok (.if_icmp .ne 28, 3) := by decide +kernel
theorem dX10_restsAs_36 : decode cX10_restsAs 36 = .ok (.aload_n 0, 1) := by decide +kernel
theorem dX10_restsAs_37 : decode cX10_restsAs 37 = .ok (.bipush 50, 2) := by decide +kernel
theorem dX10_restsAs_39 : decode cX10_restsAs 39 = .ok (.invokevirtual 319, 3) := by decide +kernel
theorem dX10_restsAs_42 : decode cX10_restsAs 42 = .ok (.aload_n 0, 1) := by decide +kernel
theorem dX10_restsAs_43 : decode cX10_restsAs 43 = .ok (.iconst 1, 1) := by decide +kernel
theorem dX10_restsAs_44 : decode cX10_restsAs 44 = .ok (.iload_n 2, 1) := by decide +kernel
theorem dX10_restsAs_45 : decode cX10_restsAs 45 = .ok (.invokevirtual 334, 3) := by decide +kernel
theorem dX10_restsAs_48 : decode cX10_restsAs 48 = .ok (.istore_n 3, 1) := by decide +kernel
theorem dX10_restsAs_49 : decode cX10_restsAs 49 = .ok (.iload_n 3, 1) := by decide +kernel
theorem dX10_restsAs_50 : decode cX10_restsAs 50 = .ok (.aload_n 0, 1) := by decide +kernel
theorem dX10_restsAs_51 : decode cX10_restsAs 51 = .ok (.aload_n 0, 1) := by decide +kernel
theorem dX10_restsAs_52 : decode cX10_restsAs 52 = .ok (.getfield 331, 3) := by decide +kernel
theorem dX10_restsAs_55 : decode cX10_restsAs 55 = .ok (.iconst 2, 1) := by decide +kernel
theorem dX10_restsAs_56 : decode cX10_restsAs 56 = .ok (.invokevirtual 322, 3) := by decide +kernel
theorem dX10_restsAs_59 : decode cX10_restsAs 59 = .ok (.isub, 1) := by decide +kernel
theorem dX10_restsAs_60 : decode cX10_restsAs 60 = .ok (.ireturn, 1) := by decide +kernel
theorem dX10_restsAs_61 : decode cX10_restsAs 61 = .ok (.aload_n 0, 1) := by decide +kernel
theorem dX10_restsAs_62 : decode cX10_restsAs 62 = .ok (.bipush 11, 2) := by decide +kernel
theorem dX10_restsAs_64 : decode cX10_restsAs 64 = .ok (.invokevirtual 319, 3) := by decide +kernel
theorem dX10_restsAs_67 : decode cX10_restsAs 67 = .ok (.iload_n 2, 1) := by decide +kernel
theorem dX10_restsAs_68 : decode cX10_restsAs 68 = .ok (.aload_n 0, 1) := by decide +kernel
theorem dX10_restsAs_69 : decode cX10_restsAs 69 = .ok (.getfield 325, 3) := by decide +kernel
theorem dX10_restsAs_72 : decode cX10_restsAs 72 = .ok (.ixor, 1) := by decide +kernel
theorem dX10_restsAs_73 : decode cX10_restsAs 73 = .ok (.ireturn, 1) := by decide +kernel
theorem dX10_tellsAs_0 : decode cX10_tellsAs 0 = .ok (.iload_n 1, 1) := by decide +kernel
theorem dX10_tellsAs_1 : decode cX10_tellsAs 1 = .ok (.iconst 5, 1) := by decide +kernel
theorem dX10_tellsAs_2 : decode cX10_tellsAs 2 = .ok (.if_icmp .ne 18, 3) := by decide +kernel
theorem dX10_tellsAs_5 : decode cX10_tellsAs 5 = .ok (.aload_n 0, 1) := by decide +kernel
theorem dX10_tellsAs_6 : decode cX10_tellsAs 6 = .ok (.bipush 60, 2) := by decide +kernel
theorem dX10_tellsAs_8 : decode cX10_tellsAs 8 = .ok (.invokevirtual 319, 3) := by decide +kernel
theorem dX10_tellsAs_11 : decode cX10_tellsAs 11 = .ok (.aload_n 0, 1) := by decide +kernel
theorem dX10_tellsAs_12 : decode cX10_tellsAs 12 = .ok (.iconst 3, 1) := by decide +kernel
theorem dX10_tellsAs_13 : decode cX10_tellsAs 13 = .ok (.iload_n 2, 1) := by decide +kernel
theorem dX10_tellsAs_14 : decode cX10_tellsAs 14 = .ok (.invokevirtual 337, 3) := by decide +kernel
theorem dX10_tellsAs_17 : decode cX10_tellsAs 17 = .ok (.iconst 5, 1) := by decide +kernel
theorem dX10_tellsAs_18 : decode cX10_tellsAs 18 = .ok (.ixor, 1) := by decide +kernel
theorem dX10_tellsAs_19 : decode cX10_tellsAs 19 = .ok (.ireturn, 1) := by decide +kernel
theorem dX10_tellsAs_20 : decode cX10_tellsAs 20 = .ok (.iload_n 1, 1) := by decide +kernel
theorem dX10_tellsAs_21 : decode cX10_tellsAs 21 = .ok (.bipush 7, 2) := by decide +kernel
theorem dX10_tellsAs_23 : decode cX10_tellsAs 23 = .ok (.if_icmp .ne 18, 3) := by decide +kernel
theorem dX10_tellsAs_26 : decode cX10_tellsAs 26 = .ok (.aload_n 0, 1) := by decide +kernel
theorem dX10_tellsAs_27 : decode cX10_tellsAs 27 = .ok (.bipush 81, 2) := by decide +kernel
theorem dX10_tellsAs_29 : decode cX10_tellsAs 29 = .ok (.invokevirtual 319, 3) := by decide +kernel
theorem dX10_tellsAs_32 : decode cX10_tellsAs 32 = .ok (.aload_n 0, 1) := by decide +kernel
theorem dX10_tellsAs_33 : decode cX10_tellsAs 33 = .ok (.iconst 4, 1) := by decide +kernel
theorem dX10_tellsAs_34 : decode cX10_tellsAs 34 = .ok (.iload_n 2, 1) := by decide +kernel
theorem dX10_tellsAs_35 : decode cX10_tellsAs 35 = .ok (.invokevirtual 337, 3) := by decide +kernel
theorem dX10_tellsAs_38 : decode cX10_tellsAs 38 = .ok (.iconst 1, 1) := by decide +kernel
theorem dX10_tellsAs_39 : decode cX10_tellsAs 39 = .ok (.isub, 1) := by decide +kernel
theorem dX10_tellsAs_40 : decode cX10_tellsAs 40 = .ok (.ireturn, 1) := by decide +kernel
theorem dX10_tellsAs_41 : decode cX10_tellsAs 41 = .ok (.aload_n 0, 1) := by decide +kernel
theorem dX10_tellsAs_42 : decode cX10_tellsAs 42 = .ok (.iconst 2, 1) := by decide +kernel
theorem dX10_tellsAs_43 : decode cX10_tellsAs 43 = .ok (.invokevirtual 319, 3) := by decide +kernel
theorem dX10_tellsAs_46 : decode cX10_tellsAs 46 = .ok (.aload_n 0, 1) := by decide +kernel
theorem dX10_tellsAs_47 : decode cX10_tellsAs 47 = .ok (.aload_n 0, 1) := by decide +kernel
theorem dX10_tellsAs_48 : decode cX10_tellsAs 48 = .ok (.getfield 331, 3) := by decide +kernel
theorem dX10_tellsAs_51 : decode cX10_tellsAs 51 = .ok (.iload_n 2, 1) := by decide +kernel
theorem dX10_tellsAs_52 : decode cX10_tellsAs 52 = .ok (.invokevirtual 328, 3) := by decide +kernel
theorem dX10_tellsAs_55 : decode cX10_tellsAs 55 = .ok (.istore_n 3, 1) := by decide +kernel
theorem dX10_tellsAs_56 : decode cX10_tellsAs 56 = .ok (.iload_n 3, 1) := by decide +kernel
theorem dX10_tellsAs_57 : decode cX10_tellsAs 57 = .ok (.aload_n 0, 1) := by decide +kernel
theorem dX10_tellsAs_58 : decode cX10_tellsAs 58 = .ok (.aload_n 0, 1) := by decide +kernel
theorem dX10_tellsAs_59 : decode cX10_tellsAs 59 = .ok (.getfield 331, 3) := by decide +kernel
theorem dX10_tellsAs_62 : decode cX10_tellsAs 62 = .ok (.iconst 1, 1) := by decide +kernel
theorem dX10_tellsAs_63 : decode cX10_tellsAs 63 = .ok (.invokevirtual 334, 3) := by decide +kernel
theorem dX10_tellsAs_66 : decode cX10_tellsAs 66 = .ok (.isub, 1) := by decide +kernel
theorem dX10_tellsAs_67 : decode cX10_tellsAs 67 = .ok (.ireturn, 1) := by decide +kernel
theorem dX10_act_0 : decode cX10_act 0 = .ok (.aload_n 0, 1) := by decide +kernel
theorem dX10_act_1 : decode cX10_act 1 = .ok (.iconst 0, 1) := by decide +kernel
theorem dX10_act_2 : decode cX10_act 2 = .ok (.putfield 316, 3) := by decide +kernel
theorem dX10_act_5 : decode cX10_act 5 = .ok (.aload_n 0, 1) := by decide +kernel
theorem dX10_act_6 : decode cX10_act 6 = .ok (.iload_n 1, 1) := by decide +kernel
theorem dX10_act_7 : decode cX10_act 7 = .ok (.invokevirtual 340, 3) := by decide +kernel
theorem dX10_act_10 : decode cX10_act 10 = .ok (.ifCond .ne 5, 3) := by decide +kernel
theorem dX10_act_13 : decode cX10_act 13 = .ok (.iconst 0, 1) := by decide +kernel
theorem dX10_act_14 : decode cX10_act 14 = .ok (.ireturn, 1) := by decide +kernel
theorem dX10_act_15 : decode cX10_act 15 = .ok (.aload_n 0, 1) := by decide +kernel
theorem dX10_act_16 : decode cX10_act 16 = .ok (.aload_n 0, 1) := by decide +kernel
theorem dX10_act_17 : decode cX10_act 17 = .ok (.getfield 70, 3) := by decide +kernel
theorem dX10_act_20 : decode cX10_act 20 = .ok (.iload_n 1, 1) := by decide +kernel
theorem dX10_act_21 : decode cX10_act 21 = .ok (.iaload, 1) := by decide +kernel
theorem dX10_act_22 : decode cX10_act 22 = .ok (.putfield 331, 3) := by decide +kernel
theorem dX10_act_25 : decode cX10_act 25 = .ok (.aload_n 0, 1) := by decide +kernel
theorem dX10_act_26 : decode cX10_act 26 = .ok (.iload_n 1, 1) := by decide +kernel
theorem dX10_act_27 : decode cX10_act 27 = .ok (.putfield 325, 3) := by decide +kernel
theorem dX10_act_30 : decode cX10_act 30 = .ok (.iload_n 2, 1) := by decide +kernel
theorem dX10_act_31 : decode cX10_act 31 = .ok (.tableswitch 69 0 3 #[29, 39, 49, 59], 29) := by decide +kernel
theorem dX10_act_60 : decode cX10_act 60 = .ok (.aload_n 0, 1) := by decide +kernel
theorem dX10_act_61 : decode cX10_act 61 = .ok (.aload_n 0, 1) := by decide +kernel
theorem dX10_act_62 : decode cX10_act 62 = .ok (.getfield 331, 3) := by decide +kernel
theorem dX10_act_65 : decode cX10_act 65 = .ok (.iload_n 3, 1) := by decide +kernel
theorem dX10_act_66 : decode cX10_act 66 = .ok (.invokevirtual 322, 3) := by decide +kernel
theorem dX10_act_69 : decode cX10_act 69 = .ok (.ireturn, 1) := by decide +kernel
theorem dX10_act_70 : decode cX10_act 70 = .ok (.aload_n 0, 1) := by decide +kernel
theorem dX10_act_71 : decode cX10_act 71 = .ok (.aload_n 0, 1) := by decide +kernel
theorem dX10_act_72 : decode cX10_act 72 = .ok (.getfield 331, 3) := by decide +kernel
theorem dX10_act_75 : decode cX10_act 75 = .ok (.iload_n 3, 1) := by decide +kernel
theorem dX10_act_76 : decode cX10_act 76 = .ok (.invokevirtual 328, 3) := by decide +kernel
theorem dX10_act_79 : decode cX10_act 79 = .ok (.ireturn, 1) := by decide +kernel
theorem dX10_act_80 : decode cX10_act 80 = .ok (.aload_n 0, 1) := by decide +kernel
theorem dX10_act_81 : decode cX10_act 81 = .ok (.aload_n 0, 1) := by decide +kernel
theorem dX10_act_82 : decode cX10_act 82 = .ok (.getfield 331, 3) := by decide +kernel
theorem dX10_act_85 : decode cX10_act 85 = .ok (.iload_n 3, 1) := by decide +kernel
theorem dX10_act_86 : decode cX10_act 86 = .ok (.invokevirtual 334, 3) := by decide +kernel
theorem dX10_act_89 : decode cX10_act 89 = .ok (.ireturn, 1) := by decide +kernel
theorem dX10_act_90 : decode cX10_act 90 = .ok (.aload_n 0, 1) := by decide +kernel
theorem dX10_act_91 : decode cX10_act 91 = .ok (.aload_n 0, 1) := by decide +kernel
theorem dX10_act_92 : decode cX10_act 92 = .ok (.getfield 331, 3) := by decide +kernel
theorem dX10_act_95 : decode cX10_act 95 = .ok (.iload_n 3, 1) := by decide +kernel
theorem dX10_act_96 : decode cX10_act 96 = .ok (.invokevirtual 337, 3) := by decide +kernel
theorem dX10_act_99 : decode cX10_act 99 = .ok (.ireturn, 1) := by decide +kernel
theorem dX10_act_100 : decode cX10_act 100 = .ok (.iconst 0, 1) := by decide +kernel
theorem dX10_act_101 : decode cX10_act 101 = .ok (.ireturn, 1) := by decide +kernel
theorem dX10_trace_0 : decode cX10_trace 0 = .ok (.iload_n 1, 1) := by decide +kernel
theorem dX10_trace_1 : decode cX10_trace 1 = .ok (.ifCond .lt 26, 3) := by decide +kernel
theorem dX10_trace_4 : decode cX10_trace 4 = .ok (.iload_n 1, 1) := by decide +kernel
theorem dX10_trace_5 : decode cX10_trace 5 = .ok (.aload_n 0, 1) := by decide +kernel
theorem dX10_trace_6 : decode cX10_trace 6 = .ok (.getfield 316, 3) := by decide +kernel
theorem dX10_trace_9 : decode cX10_trace 9 = .ok (.if_icmp .ge 18, 3) := by decide +kernel
theorem dX10_trace_12 : decode cX10_trace 12 = .ok (.iload_n 1, 1) := by decide +kernel
theorem dX10_trace_13 : decode cX10_trace 13 = .ok (.bipush 24, 2) := by decide +kernel
theorem dX10_trace_15 : decode cX10_trace 15 = .ok (.if_icmp .ge 12, 3) := by decide +kernel
theorem dX10_trace_18 : decode cX10_trace 18 = .ok (.aload_n 0, 1) := by decide +kernel
theorem dX10_trace_19 : decode cX10_trace 19 = .ok (.getfield 73, 3) := by decide +kernel
theorem dX10_trace_22 : decode cX10_trace 22 = .ok (.iload_n 1, 1) := by decide +kernel
theorem dX10_trace_23 : decode cX10_trace 23 = .ok (.iaload, 1) := by decide +kernel
theorem dX10_trace_24 : decode cX10_trace 24 = .ok (.goto 4, 3) := by decide +kernel
theorem dX10_trace_27 : decode cX10_trace 27 = .ok (.iconst (-1), 1) := by decide +kernel
theorem dX10_trace_28 : decode cX10_trace 28 = .ok (.ireturn, 1) := by decide +kernel
theorem dX10_isShelf_0 : decode cX10_isShelf 0 = .ok (.iload_n 0, 1) := by decide +kernel
theorem dX10_isShelf_1 : decode cX10_isShelf 1 = .ok (.i2l, 1) := by decide +kernel
theorem dX10_isShelf_2 : decode cX10_isShelf 2 = .ok (.lconst 0, 1) := by decide +kernel
theorem dX10_isShelf_3 : decode cX10_isShelf 3 = .ok (.ldc2_w 343, 3) := by decide +kernel
theorem dX10_isShelf_6 : decode cX10_isShelf 6 = .ok (.invokestatic 105, 3) := by decide +kernel
theorem dX10_isShelf_9 : decode cX10_isShelf 9 = .ok (.ireturn, 1) := by decide +kernel
theorem dX10_keep_0 : decode cX10_keep 0 = .ok (.iload_n 1, 1) := by decide +kernel
theorem dX10_keep_1 : decode cX10_keep 1 = .ok (.invokestatic 124, 3) := by decide +kernel
theorem dX10_keep_4 : decode cX10_keep 4 = .ok (.ifCond .eq 16, 3) := by decide +kernel
theorem dX10_keep_7 : decode cX10_keep 7 = .ok (.iload_n 2, 1) := by decide +kernel
theorem dX10_keep_8 : decode cX10_keep 8 = .ok (.iconst (-1), 1) := by decide +kernel
theorem dX10_keep_9 : decode cX10_keep 9 = .ok (.if_icmp .eq 13, 3) := by decide +kernel
theorem dX10_keep_12 : decode cX10_keep 12 = .ok (.aload_n 0, 1) := by decide +kernel
theorem dX10_keep_13 : decode cX10_keep 13 = .ok (.iload_n 2, 1) := by decide +kernel
theorem dX10_keep_14 : decode cX10_keep 14 = .ok (.invokevirtual 340, 3) := by decide +kernel
theorem dX10_keep_17 : decode cX10_keep 17 = .ok (.ifCond .ne 5, 3) := by decide +kernel
theorem dX10_keep_20 : decode cX10_keep 20 = .ok (.iconst (-1), 1) := by decide +kernel
theorem dX10_keep_21 : decode cX10_keep 21 = .ok (.ireturn, 1) := by decide +kernel
theorem dX10_keep_22 : decode cX10_keep 22 = .ok (.aload_n 0, 1) := by decide +kernel
theorem dX10_keep_23 : decode cX10_keep 23 = .ok (.getfield 76, 3) := by decide +kernel
theorem dX10_keep_26 : decode cX10_keep 26 = .ok (.iload_n 1, 1) := by decide +kernel
theorem dX10_keep_27 : decode cX10_keep 27 = .ok (.iload_n 2, 1) := by decide +kernel
theorem dX10_keep_28 : decode cX10_keep 28 = .ok (.iastore, 1) := by decide +kernel
theorem dX10_keep_29 : decode cX10_keep 29 = .ok (.aload_n 0, 1) := by decide +kernel
theorem dX10_keep_30 : decode cX10_keep 30 = .ok (.getfield 79, 3) := by decide +kernel
theorem dX10_keep_33 : decode cX10_keep 33 = .ok (.iload_n 1, 1) := by decide +kernel
theorem dX10_keep_34 : decode cX10_keep 34 = .ok (.iconst 0, 1) := by decide +kernel
theorem dX10_keep_35 : decode cX10_keep 35 = .ok (.iastore, 1) := by decide +kernel
theorem dX10_keep_36 : decode cX10_keep 36 = .ok (.iconst 1, 1) := by decide +kernel
theorem dX10_keep_37 : decode cX10_keep 37 = .ok (.ireturn, 1) := by decide +kernel
theorem dX10_row_0 : decode cX10_row 0 = .ok (.iload_n 1, 1) := by decide +kernel
theorem dX10_row_1 : decode cX10_row 1 = .ok (.invokestatic 124, 3) := by decide +kernel
theorem dX10_row_4 : decode cX10_row 4 = .ok (.ifCond .eq 21, 3) := by decide +kernel
theorem dX10_row_7 : decode cX10_row 7 = .ok (.iload_n 2, 1) := by decide +kernel
theorem dX10_row_8 : decode cX10_row 8 = .ok (.i2l, 1) := by decide +kernel
theorem dX10_row_9 : decode cX10_row 9 = .ok (.lconst 0, 1) := by decide +kernel
theorem dX10_row_10 : decode cX10_row 10 = .ok (.ldc2_w 345, 3) := by decide +kernel
theorem dX10_row_13 : decode cX10_row 13 = .ok (.invokestatic 105, 3) := by decide +kernel
theorem dX10_row_16 : decode cX10_row 16 = .ok (.ifCond .eq 9, 3) := by decide +kernel
theorem dX10_row_19 : decode cX10_row 19 = .ok (.iload_n 3, 1) := by decide +kernel
theorem dX10_row_20 : decode cX10_row 20 = .ok (.bipush 60, 2) := by decide +kernel
theorem dX10_row_22 : decode cX10_row 22 = .ok (.if_icmp .le 5, 3) := by decide +kernel
theorem dX10_row_25 : decode cX10_row 25 = .ok (.iconst (-1), 1) := by decide +kernel
theorem dX10_row_26 : decode cX10_row 26 = .ok (.ireturn, 1) := by decide +kernel
theorem dX10_row_27 : decode cX10_row 27 = .ok (.iload_n 3, 1) := by decide +kernel
theorem dX10_row_28 : decode cX10_row 28 = .ok (.ifCond .ge 6, 3) := by decide +kernel
theorem dX10_row_31 : decode cX10_row 31 = .ok (.bipush (-14), 2) := by decide +kernel
theorem dX10_row_33 : decode cX10_row 33 = .ok (.ireturn, 1) := by decide +kernel
theorem dX10_row_34 : decode cX10_row 34 = .ok (.aload_n 0, 1) := by decide +kernel
theorem dX10_row_35 : decode cX10_row 35 = .ok (.getfield 76, 3) := by decide +kernel
theorem dX10_row_38 : decode cX10_row 38 = .ok (.iload_n 1, 1) := by decide +kernel
theorem dX10_row_39 : decode cX10_row 39 = .ok (.bipush 50, 2) := by decide +kernel
theorem dX10_row_41 : decode cX10_row 41 = .ok (.iload_n 2, 1) := by decide +kernel
theorem dX10_row_42 : decode cX10_row 42 = .ok (.iadd, 1) := by decide +kernel
theorem dX10_row_43 : decode cX10_row 43 = .ok (.iastore, 1) := by decide +kernel
theorem dX10_row_44 : decode cX10_row 44 = .ok (.aload_n 0, 1) := by decide +kernel
theorem dX10_row_45 : decode cX10_row 45 = .ok (.getfield 79, 3) := by decide +kernel
theorem dX10_row_48 : decode cX10_row 48 = .ok (.iload_n 1, 1) := by decide +kernel
theorem dX10_row_49 : decode cX10_row 49 = .ok (.iload_n 3, 1) := by decide +kernel
theorem dX10_row_50 : decode cX10_row 50 = .ok (.iastore, 1) := by decide +kernel
theorem dX10_row_51 : decode cX10_row 51 = .ok (.bipush 60, 2) := by decide +kernel
theorem dX10_row_53 : decode cX10_row 53 = .ok (.iload_n 1, 1) := by decide +kernel
theorem dX10_row_54 : decode cX10_row 54 = .ok (.imul, 1) := by decide +kernel
theorem dX10_row_55 : decode cX10_row 55 = .ok (.istore 4, 2) := by decide +kernel
theorem dX10_row_57 : decode cX10_row 57 = .ok (.iload 4, 2) := by decide +kernel
theorem dX10_row_59 : decode cX10_row 59 = .ok (.bipush 60, 2) := by decide +kernel
theorem dX10_row_61 : decode cX10_row 61 = .ok (.iload_n 1, 1) := by decide +kernel
theorem dX10_row_62 : decode cX10_row 62 = .ok (.imul, 1) := by decide +kernel
theorem dX10_row_63 : decode cX10_row 63 = .ok (.bipush 60, 2) := by decide +kernel
theorem dX10_row_65 : decode cX10_row 65 = .ok (.iadd, 1) := by decide +kernel
theorem dX10_row_66 : decode cX10_row 66 = .ok (.if_icmp .ge 17, 3) := by decide +kernel
theorem dX10_row_69 : decode cX10_row 69 = .ok (.aload_n 0, 1) := by decide +kernel
theorem dX10_row_70 : decode cX10_row 70 = .ok (.getfield 82, 3) := by decide +kernel
theorem dX10_row_73 : decode cX10_row 73 = .ok (.iload 4, 2) := by decide +kernel
theorem dX10_row_75 : decode cX10_row 75 = .ok (.lconst 0, 1) := by decide +kernel
theorem dX10_row_76 : decode cX10_row 76 = .ok (.lastore, 1) := by decide +kernel
theorem dX10_row_77 : decode cX10_row 77 = .ok (.iinc 4 1, 3) := by decide +kernel
theorem dX10_row_80 : decode cX10_row 80 = .ok (.goto (-23), 3) := by decide +kernel
theorem dX10_row_83 : decode cX10_row 83 = .ok (.iconst 1, 1) := by decide +kernel
theorem dX10_row_84 : decode cX10_row 84 = .ok (.ireturn, 1) := by decide +kernel
theorem dX10_refusal_0 : decode cX10_refusal 0 = .ok (.iload_n 1, 1) := by decide +kernel
theorem dX10_refusal_1 : decode cX10_refusal 1 = .ok (.invokestatic 124, 3) := by decide +kernel
theorem dX10_refusal_4 : decode cX10_refusal 4 = .ok (.ifCond .ne 5, 3) := by decide +kernel
theorem dX10_refusal_7 : decode cX10_refusal 7 = .ok (.iconst (-1), 1) := by decide +kernel
theorem dX10_refusal_8 : decode cX10_refusal 8 = .ok (.ireturn, 1) := by decide +kernel
theorem dX10_refusal_9 : decode cX10_refusal 9 = .ok (.aload_n 0, 1) := by decide +kernel
theorem dX10_refusal_10 : decode cX10_refusal 10 = .ok (.getfield 76, 3) := by decide +kernel
theorem dX10_refusal_13 : decode cX10_refusal 13 = .ok (.iload_n 1, 1) := by decide +kernel
theorem dX10_refusal_14 : decode cX10_refusal 14 = .ok (.iaload, 1) := by decide +kernel
theorem dX10_refusal_15 : decode cX10_refusal 15 = .ok (.ifCond .ge 6, 3) := by decide +kernel
theorem dX10_refusal_18 : decode cX10_refusal 18 = .ok (.bipush (-11), 2) := by decide +kernel
theorem dX10_refusal_20 : decode cX10_refusal 20 = .ok (.ireturn, 1) := by decide +kernel
theorem dX10_refusal_21 : decode cX10_refusal 21 = .ok (.aload_n 0, 1) := by decide +kernel
theorem dX10_refusal_22 : decode cX10_refusal 22 = .ok (.getfield 76, 3) := by decide +kernel
theorem dX10_refusal_25 : decode cX10_refusal 25 = .ok (.iload_n 1, 1) := by decide +kernel
theorem dX10_refusal_26 : decode cX10_refusal 26 = .ok (.iaload, 1) := by decide +kernel
theorem dX10_refusal_27 : decode cX10_refusal 27 = .ok (.bipush 50, 2) := by decide +kernel
theorem dX10_refusal_29 : decode cX10_refusal 29 = .ok (.if_icmp .ge 6, 3) := by decide +kernel
theorem dX10_refusal_32 : decode cX10_refusal 32 = .ok (.bipush (-12), 2) := by decide +kernel
theorem dX10_refusal_34 : decode cX10_refusal 34 = .ok (.ireturn, 1) := by decide +kernel
theorem dX10_refusal_35 : decode cX10_refusal 35 = .ok (.iload_n 2, 1) := by decide +kernel
theorem dX10_refusal_36 : decode cX10_refusal 36 = .ok (.ifCond .lt 17, 3) := by decide +kernel
theorem dX10_refusal_39 : decode cX10_refusal 39 = .ok (.iload_n 2, 1) := by decide +kernel
theorem dX10_refusal_40 : decode cX10_refusal 40 = .ok (.aload_n 0, 1) := by decide +kernel
theorem dX10_refusal_41 : decode cX10_refusal 41 = .ok (.getfield 79, 3) := by decide +kernel
theorem dX10_refusal_44 : decode cX10_refusal 44 = .ok (.iload_n 1, 1) := by decide +kernel
theorem dX10_refusal_45 : decode cX10_refusal 45 = .ok (.iaload, 1) := by decide +kernel
theorem dX10_refusal_46 : decode cX10_refusal 46 = .ok (.if_icmp .ge 7, 3) := by decide +kernel
theorem dX10_refusal_49 : decode cX10_refusal 49 = .ok (.iconst 0, 1) := by decide +kernel
theorem dX10_refusal_50 : decode cX10_refusal 50 = .ok (.goto 5, 3) := by decide +kernel
theorem dX10_refusal_53 : decode cX10_refusal 53 = .ok (.bipush (-13), 2) := by decide +kernel
theorem dX10_refusal_55 : decode cX10_refusal 55 = .ok (.ireturn, 1) := by decide +kernel
theorem dX10_asSort_0 : decode cX10_asSort 0 = .ok (.iload_n 0, 1) := by decide +kernel
theorem dX10_asSort_1 : decode cX10_asSort 1 = .ok (.ifCond .ne 10, 3) := by decide +kernel
theorem dX10_asSort_4 : decode cX10_asSort 4 = .ok (.lload_n 1, 1) := by decide +kernel
theorem dX10_asSort_5 : decode cX10_asSort 5 = .ok (.l2i, 1) := by decide +kernel
theorem dX10_asSort_6 : decode cX10_asSort 6 = .ok (.i2b, 1) := by decide +kernel
theorem dX10_asSort_7 : decode cX10_asSort 7 = .ok (.i2l, 1) := by decide +kernel
theorem dX10_asSort_8 : decode cX10_asSort 8 = .ok (.goto 46, 3) := by decide +kernel
theorem dX10_asSort_11 : decode cX10_asSort 11 = .ok (.iload_n 0, 1) := by decide +kernel
theorem dX10_asSort_12 : decode cX10_asSort 12 = .ok (.iconst 1, 1) := by decide +kernel
theorem dX10_asSort_13 : decode cX10_asSort 13 = .ok (.if_icmp .ne 10, 3) := by decide +kernel
theorem dX10_asSort_16 : decode cX10_asSort 16 = .ok (.lload_n 1, 1) := by decide +kernel
theorem dX10_asSort_17 : decode cX10_asSort 17 = .ok (.l2i, 1) := by decide +kernel
theorem dX10_asSort_18 : decode cX10_asSort 18 = .ok (.i2s, 1) := by decide +kernel
theorem dX10_asSort_19 : decode cX10_asSort 19 = .ok (.i2l, 1) := by decide +kernel
theorem dX10_asSort_20 : decode cX10_asSort 20 = .ok (.goto 34, 3) := by decide +kernel
theorem dX10_asSort_23 : decode cX10_asSort 23 = .ok (.iload_n 0, 1) := by decide +kernel
theorem dX10_asSort_24 : decode cX10_asSort 24 = .ok (.iconst 2, 1) := by decide +kernel
theorem dX10_asSort_25 : decode cX10_asSort 25 = .ok (.if_icmp .ne 9, 3) := by decide +kernel
theorem dX10_asSort_28 : decode cX10_asSort 28 = .ok (.lload_n 1, 1) := by decide +kernel
theorem dX10_asSort_29 : decode cX10_asSort 29 = .ok (.l2i, 1) := by decide +kernel
theorem dX10_asSort_30 : decode cX10_asSort 30 = .ok (.i2l, 1) := by decide +kernel
theorem dX10_asSort_31 : decode cX10_asSort 31 = .ok (.goto 23, 3) := by decide +kernel
theorem dX10_asSort_34 : decode cX10_asSort 34 = .ok (.iload_n 0, 1) := by decide +kernel
theorem dX10_asSort_35 : decode cX10_asSort 35 = .ok (.iconst 4, 1) := by decide +kernel
theorem dX10_asSort_36 : decode cX10_asSort 36 = .ok (.if_icmp .ne 17, 3) := by decide +kernel
theorem dX10_asSort_39 : decode cX10_asSort 39 = .ok (.lload_n 1, 1) := by decide +kernel
theorem dX10_asSort_40 : decode cX10_asSort 40 = .ok (.lconst 0, 1) := by decide +kernel
theorem dX10_asSort_41 : decode cX10_asSort 41 = .ok (.lcmp, 1) := by decide +kernel
theorem dX10_asSort_42 : decode cX10_asSort 42 = .ok (.ifCond .eq 7, 3) := by decide +kernel
theorem dX10_asSort_45 : decode cX10_asSort 45 = .ok (.lconst 1, 1) := by decide +kernel
theorem dX10_asSort_46 : decode cX10_asSort 46 = .ok (.goto 8, 3) := by decide +kernel
theorem dX10_asSort_49 : decode cX10_asSort 49 = .ok (.lconst 0, 1) := by decide +kernel
theorem dX10_asSort_50 : decode cX10_asSort 50 = .ok (.goto 4, 3) := by decide +kernel
theorem dX10_asSort_53 : decode cX10_asSort 53 = .ok (.lload_n 1, 1) := by decide +kernel
theorem dX10_asSort_54 : decode cX10_asSort 54 = .ok (.lreturn, 1) := by decide +kernel
theorem dX10_put_0 : decode cX10_put 0 = .ok (.aload_n 0, 1) := by decide +kernel
theorem dX10_put_1 : decode cX10_put 1 = .ok (.iload_n 1, 1) := by decide +kernel
theorem dX10_put_2 : decode cX10_put 2 = .ok (.iload_n 2, 1) := by decide +kernel
theorem dX10_put_3 : decode cX10_put 3 = .ok (.invokevirtual 347, 3) := by decide +kernel
theorem dX10_put_6 : decode cX10_put 6 = .ok (.istore 5, 2) := by decide +kernel
theorem dX10_put_8 : decode cX10_put 8 = .ok (.iload 5, 2) := by decide +kernel
theorem dX10_put_10 : decode cX10_put 10 = .ok (.ifCond .ne 27, 3) := by decide +kernel
theorem dX10_put_13 : decode cX10_put 13 = .ok (.aload_n 0, 1) := by decide +kernel
theorem dX10_put_14 : decode cX10_put 14 = .ok (.getfield 82, 3) := by decide +kernel
theorem dX10_put_17 : decode cX10_put 17 = .ok (.bipush 60, 2) := by decide +kernel
theorem dX10_put_19 : decode cX10_put 19 = .ok (.iload_n 1, 1) := by decide +kernel
theorem dX10_put_20 : decode cX10_put 20 = .ok (.imul, 1) := by decide +kernel
theorem dX10_put_21 : decode cX10_put 21 = .ok (.iload_n 2, 1) := by decide +kernel
theorem dX10_put_22 : decode cX10_put 22 = .ok (.iadd, 1) := by decide +kernel
theorem dX10_put_23 : decode cX10_put 23 = .ok (.aload_n 0, 1) := by decide +kernel
theorem dX10_put_24 : decode cX10_put 24 = .ok (.getfield 76, 3) := by decide +kernel
theorem dX10_put_27 : decode cX10_put 27 = .ok (.iload_n 1, 1) := by decide +kernel
theorem dX10_put_28 : decode cX10_put 28 = .ok (.iaload, 1) := by decide +kernel
theorem dX10_put_29 : decode cX10_put 29 = .ok (.bipush 50, 2) := by decide +kernel
theorem dX10_put_31 : decode cX10_put 31 = .ok (.isub, 1) := by decide +kernel
theorem dX10_put_32 : decode cX10_put 32 = .ok (.lload_n 3, 1) := by decide +kernel
theorem dX10_put_33 : decode cX10_put 33 = .ok (.invokestatic 350, 3) := by decide +kernel
theorem dX10_put_36 : decode cX10_put 36 = .ok (.lastore, 1) := by decide +kernel
theorem dX10_put_37 : decode cX10_put 37 = .ok (.iload 5, 2) := by decide +kernel
theorem dX10_put_39 : decode cX10_put 39 = .ok (.ifCond .ne 7, 3) := by decide +kernel
theorem dX10_put_42 : decode cX10_put 42 = .ok (.iconst 1, 1) := by decide +kernel
theorem dX10_put_43 : decode cX10_put 43 = .ok (.goto 5, 3) := by decide +kernel
theorem dX10_put_46 : decode cX10_put 46 = .ok (.iload 5, 2) := by decide +kernel
theorem dX10_put_48 : decode cX10_put 48 = .ok (.ireturn, 1) := by decide +kernel
theorem dX10_element_0 : decode cX10_element 0 = .ok (.aload_n 0, 1) := by decide +kernel
theorem dX10_element_1 : decode cX10_element 1 = .ok (.iload_n 1, 1) := by decide +kernel
theorem dX10_element_2 : decode cX10_element 2 = .ok (.iload_n 2, 1) := by decide +kernel
theorem dX10_element_3 : decode cX10_element 3 = .ok (.invokevirtual 347, 3) := by decide +kernel
theorem dX10_element_6 : decode cX10_element 6 = .ok (.ifCond .eq 9, 3) := by decide +kernel
theorem dX10_element_9 : decode cX10_element 9 = .ok (.ldc2_w 356, 3) := by decide +kernel
theorem dX10_element_12 : decode cX10_element 12 = .ok (.goto 14, 3) := by decide +kernel
theorem dX10_element_15 : decode cX10_element 15 = .ok (.aload_n 0, 1) := by decide +kernel
theorem dX10_element_16 : decode cX10_element 16 = .ok (.getfield 82, 3) := by decide +kernel
theorem dX10_element_19 : decode cX10_element 19 = .ok (.bipush 60, 2) := by decide +kernel
theorem dX10_element_21 : decode cX10_element 21 = .ok (.iload_n 1, 1) := by decide +kernel
theorem dX10_element_22 : decode cX10_element 22 = .ok (.imul, 1) := by decide +kernel
theorem dX10_element_23 : decode cX10_element 23 = .ok (.iload_n 2, 1) := by decide +kernel
theorem dX10_element_24 : decode cX10_element 24 = .ok (.iadd, 1) := by decide +kernel
theorem dX10_element_25 : decode cX10_element 25 = .ok (.laload, 1) := by decide +kernel
theorem dX10_element_26 : decode cX10_element 26 = .ok (.lreturn, 1) := by decide +kernel
theorem dX10_shift_0 : decode cX10_shift 0 = .ok (.iload_n 1, 1) := by decide +kernel
theorem dX10_shift_1 : decode cX10_shift 1 = .ok (.invokestatic 124, 3) := by decide +kernel
theorem dX10_shift_4 : decode cX10_shift 4 = .ok (.ifCond .eq 10, 3) := by decide +kernel
theorem dX10_shift_7 : decode cX10_shift 7 = .ok (.iload_n 3, 1) := by decide +kernel
theorem dX10_shift_8 : decode cX10_shift 8 = .ok (.invokestatic 124, 3) := by decide +kernel
theorem dX10_shift_11 : decode cX10_shift 11 = .ok (.ifCond .ne 5, 3) := by decide +kernel
theorem dX10_shift_14 : decode cX10_shift 14 = .ok (.iconst (-1), 1) := by decide +kernel
theorem dX10_shift_15 : decode cX10_shift 15 = .ok (.ireturn, 1) := by decide +kernel
theorem dX10_shift_16 : decode cX10_shift 16 = .ok (.aload_n 0, 1) := by decide +kernel
theorem dX10_shift_17 : decode cX10_shift 17 = .ok (.getfield 76, 3) := by decide +kernel
theorem dX10_shift_20 : decode cX10_shift 20 = .ok (.iload_n 1, 1) := by decide +kernel
theorem dX10_shift_21 : decode cX10_shift 21 = .ok (.iaload, 1) := by decide +kernel
theorem dX10_shift_22 : decode cX10_shift 22 = .ok (.ifCond .lt 12, 3) := by decide +kernel
theorem dX10_shift_25 : decode cX10_shift 25 = .ok (.aload_n 0, 1) := by decide +kernel
theorem dX10_shift_26 : decode cX10_shift 26 = .ok (.getfield 76, 3) := by decide +kernel
theorem dX10_shift_29 : decode cX10_shift 29 = .ok (.iload_n 3, 1) := by decide +kernel
theorem dX10_shift_30 : decode cX10_shift 30 = .ok (.iaload, 1) := by decide +kernel
theorem dX10_shift_31 : decode cX10_shift 31 = .ok (.ifCond .ge 6, 3) := by decide +kernel
theorem dX10_shift_34 : decode cX10_shift 34 = .ok (.bipush (-11), 2) := by decide +kernel
theorem dX10_shift_36 : decode cX10_shift 36 = .ok (.ireturn, 1) := by decide +kernel
theorem dX10_shift_37 : decode cX10_shift 37 = .ok (.aload_n 0, 1) := by decide +kernel
theorem dX10_shift_38 : decode cX10_shift 38 = .ok (.getfield 76, 3) := by decide +kernel
theorem dX10_shift_41 : decode cX10_shift 41 = .ok (.iload_n 1, 1) := by decide +kernel
theorem dX10_shift_42 : decode cX10_shift 42 = .ok (.iaload, 1) := by decide +kernel
theorem dX10_shift_43 : decode cX10_shift 43 = .ok (.bipush 50, 2) := by decide +kernel
theorem dX10_shift_45 : decode cX10_shift 45 = .ok (.if_icmp .lt 18, 3) := by decide +kernel
theorem dX10_shift_48 : decode cX10_shift 48 = .ok (.aload_n 0, 1) := by decide +kernel
theorem dX10_shift_49 : decode cX10_shift 49 = .ok (.getfield 76, 3) := by decide +kernel
theorem dX10_shift_52 : decode cX10_shift 52 = .ok (.iload_n 1, 1) := by decide +kernel
theorem dX10_shift_53 : decode cX10_shift 53 = .ok (.iaload, 1) := by decide +kernel
theorem dX10_shift_54 : decode cX10_shift 54 = .ok (.aload_n 0, 1) := by decide +kernel
theorem dX10_shift_55 : decode cX10_shift 55 = .ok (.getfield 76, 3) := by decide +kernel
theorem dX10_shift_58 : decode cX10_shift 58 = .ok (.iload_n 3, 1) := by decide +kernel
theorem dX10_shift_59 : decode cX10_shift 59 = .ok (.iaload, 1) := by decide +kernel
theorem dX10_shift_60 : decode cX10_shift 60 = .ok (.if_icmp .eq 6, 3) := by decide +kernel
theorem dX10_shift_63 : decode cX10_shift 63 = .ok (.bipush (-12), 2) := by decide +kernel
theorem dX10_shift_65 : decode cX10_shift 65 = .ok (.ireturn, 1) := by decide +kernel
theorem dX10_shift_66 : decode cX10_shift 66 = .ok (.iload 5, 2) := by decide +kernel
theorem dX10_shift_68 : decode cX10_shift 68 = .ok (.ifCond .lt 39, 3) := by decide +kernel
theorem dX10_shift_71 : decode cX10_shift 71 = .ok (.iload_n 2, 1) := by decide +kernel
theorem dX10_shift_72 : decode cX10_shift 72 = .ok (.ifCond .lt 35, 3) := by decide +kernel
theorem dX10_shift_75 : decode cX10_shift 75 = .ok (.iload 4, 2) := by decide +kernel
theorem dX10_shift_77 : decode cX10_shift 77 = .ok (.ifCond .lt 30, 3) := by decide +kernel
theorem dX10_shift_80 : decode cX10_shift 80 = .ok (.iload_n 2, 1) := by decide +kernel
theorem dX10_shift_81 : decode cX10_shift 81 = .ok (.aload_n 0, 1) := by decide +kernel
theorem dX10_shift_82 : decode cX10_shift 82 = .ok (.getfield 79, 3) := by decide +kernel
theorem dX10_shift_85 : decode cX10_shift 85 = .ok (.iload_n 1, 1) := by decide +kernel
theorem dX10_shift_86 : decode cX10_shift 86 = .ok (.iaload, 1) := by decide +kernel
theorem dX10_shift_87 : decode cX10_shift 87 = .ok (.iload 5, 2) := by decide +kernel
theorem dX10_shift_89 : decode cX10_shift 89 = .ok (.isub, 1) := by decide +kernel
theorem dX10_shift_90 : decode cX10_shift 90 = .ok (.if_icmp .gt 17, 3) := by decide +kernel
theorem dX10_shift_93 : decode cX10_shift 93 = .ok (.iload 4, 2) := by decide +kernel
theorem dX10_shift_95 : decode cX10_shift 95 = .ok (.aload_n 0, 1) := by decide +kernel
theorem dX10_shift_96 : decode cX10_shift 96 = .ok (.getfield 79, 3) := by decide +kernel
theorem dX10_shift_99 : decode cX10_shift 99 = .ok (.iload_n 3, 1) := by decide +kernel
theorem dX10_shift_100 : decode cX10_shift 100 = .ok (.iaload, 1) := by decide +kernel
theorem dX10_shift_101 : decode cX10_shift 101 = .ok (.iload 5, 2) := by decide +kernel
theorem dX10_shift_103 : decode cX10_shift 103 = .ok (.isub, 1) := by decide +kernel
theorem dX10_shift_104 : decode cX10_shift 104 = .ok (.if_icmp .le 6, 3) := by decide +kernel
theorem dX10_shift_107 : decode cX10_shift 107 = .ok (.bipush (-13), 2) := by decide +kernel
theorem dX10_shift_109 : decode cX10_shift 109 = .ok (.ireturn, 1) := by decide +kernel
theorem dX10_shift_110 : decode cX10_shift 110 = .ok (.iconst 0, 1) := by decide +kernel
theorem dX10_shift_111 : decode cX10_shift 111 = .ok (.istore 6, 2) := by decide +kernel
theorem dX10_shift_113 : decode cX10_shift 113 = .ok (.iload 6, 2) := by decide +kernel
theorem dX10_shift_115 : decode cX10_shift 115 = .ok (.iload 5, 2) := by decide +kernel
theorem dX10_shift_117 : decode cX10_shift 117 = .ok (.if_icmp .ge 30, 3) := by decide +kernel
theorem dX10_shift_120 : decode cX10_shift 120 = .ok (.aload_n 0, 1) := by decide +kernel
theorem dX10_shift_121 : decode cX10_shift 121 = .ok (.getfield 86, 3) := by decide +kernel
theorem dX10_shift_124 : decode cX10_shift 124 = .ok (.iload 6, 2) := by decide +kernel
theorem dX10_shift_126 : decode cX10_shift 126 = .ok (.aload_n 0, 1) := by decide +kernel
theorem dX10_shift_127 : decode cX10_shift 127 = .ok (.getfield 82, 3) := by decide +kernel
theorem dX10_shift_130 : decode cX10_shift 130 = .ok (.bipush 60, 2) := by decide +kernel
theorem dX10_shift_132 : decode cX10_shift 132 = .ok (.iload_n 1, 1) := by decide +kernel
theorem dX10_shift_133 : decode cX10_shift 133 = .ok (.imul, 1) := by decide +kernel
theorem dX10_shift_134 : decode cX10_shift 134 = .ok (.iload_n 2, 1) := by decide +kernel
theorem dX10_shift_135 : decode cX10_shift 135 = .ok (.iadd, 1) := by decide +kernel
theorem dX10_shift_136 : decode cX10_shift 136 = .ok (.iload 6, 2) := by decide +kernel
theorem dX10_shift_138 : decode cX10_shift 138 = .ok (.iadd, 1) := by decide +kernel
theorem dX10_shift_139 : decode cX10_shift 139 = .ok (.laload, 1) := by decide +kernel
theorem dX10_shift_140 : decode cX10_shift 140 = .ok (.lastore, 1) := by decide +kernel
theorem dX10_shift_141 : decode cX10_shift 141 = .ok (.iinc 6 1, 3) := by decide +kernel
theorem dX10_shift_144 : decode cX10_shift 144 = .ok (.goto (-31), 3) := by decide +kernel
theorem dX10_shift_147 : decode cX10_shift 147 = .ok (.iconst 0, 1) := by decide +kernel
theorem dX10_shift_148 : decode cX10_shift 148 = .ok (.istore 6, 2) := by decide +kernel
theorem dX10_shift_150 : decode cX10_shift 150 = .ok (.iload 6, 2) := by decide +kernel
theorem dX10_shift_152 : decode cX10_shift 152 = .ok (.iload 5, 2) := by decide +kernel
theorem dX10_shift_154 : decode cX10_shift 154 = .ok (.if_icmp .ge 31, 3) := by decide +kernel
theorem dX10_shift_157 : decode cX10_shift 157 = .ok (.aload_n 0, 1) := by decide +kernel
theorem dX10_shift_158 : decode cX10_shift 158 = .ok (.getfield 82, 3) := by decide +kernel
theorem dX10_shift_161 : decode cX10_shift 161 = .ok (.bipush 60, 2) := by decide +kernel
theorem dX10_shift_163 : decode cX10_shift 163 = .ok (.iload_n 3, 1) := by decide +kernel
theorem dX10_shift_164 : decode cX10_shift 164 = .ok (.imul, 1) := by decide +kernel
theorem dX10_shift_165 : decode cX10_shift 165 = .ok (.iload 4, 2) := by decide +kernel
theorem dX10_shift_167 : decode cX10_shift 167 = .ok (.iadd, 1) := by decide +kernel
theorem dX10_shift_168 : decode cX10_shift 168 = .ok (.iload 6, 2) := by decide +kernel
theorem dX10_shift_170 : decode cX10_shift 170 = .ok (.iadd, 1) := by decide +kernel
theorem dX10_shift_171 : decode cX10_shift 171 = .ok (.aload_n 0, 1) := by decide +kernel
theorem dX10_shift_172 : decode cX10_shift 172 = .ok (.getfield 86, 3) := by decide +kernel
theorem dX10_shift_175 : decode cX10_shift 175 = .ok (.iload 6, 2) := by decide +kernel
theorem dX10_shift_177 : decode cX10_shift 177 = .ok (.laload, 1) := by decide +kernel
theorem dX10_shift_178 : decode cX10_shift 178 = .ok (.lastore, 1) := by decide +kernel
theorem dX10_shift_179 : decode cX10_shift 179 = .ok (.iinc 6 1, 3) := by decide +kernel
theorem dX10_shift_182 : decode cX10_shift 182 = .ok (.goto (-32), 3) := by decide +kernel
theorem dX10_shift_185 : decode cX10_shift 185 = .ok (.iload 5, 2) := by decide +kernel
theorem dX10_shift_187 : decode cX10_shift 187 = .ok (.ireturn, 1) := by decide +kernel
theorem dX10_taken_0 : decode cX10_taken 0 = .ok (.iload_n 1, 1) := by decide +kernel
theorem dX10_taken_1 : decode cX10_taken 1 = .ok (.invokestatic 124, 3) := by decide +kernel
theorem dX10_taken_4 : decode cX10_taken 4 = .ok (.ifCond .eq 15, 3) := by decide +kernel
theorem dX10_taken_7 : decode cX10_taken 7 = .ok (.iload_n 2, 1) := by decide +kernel
theorem dX10_taken_8 : decode cX10_taken 8 = .ok (.i2l, 1) := by decide +kernel
theorem dX10_taken_9 : decode cX10_taken 9 = .ok (.lconst 0, 1) := by decide +kernel
theorem dX10_taken_10 : decode cX10_taken 10 = .ok (.ldc2_w 128, 3) := by decide +kernel
theorem dX10_taken_13 : decode cX10_taken 13 = .ok (.invokestatic 105, 3) := by decide +kernel
theorem dX10_taken_16 : decode cX10_taken 16 = .ok (.ifCond .ne 5, 3) := by decide +kernel
theorem dX10_taken_19 : decode cX10_taken 19 = .ok (.iconst (-1), 1) := by decide +kernel
theorem dX10_taken_20 : decode cX10_taken 20 = .ok (.ireturn, 1) := by decide +kernel
theorem dX10_taken_21 : decode cX10_taken 21 = .ok (.aload_n 0, 1) := by decide +kernel
theorem dX10_taken_22 : decode cX10_taken 22 = .ok (.getfield 76, 3) := by decide +kernel
theorem dX10_taken_25 : decode cX10_taken 25 = .ok (.iload_n 1, 1) := by decide +kernel
theorem dX10_taken_26 : decode cX10_taken 26 = .ok (.iaload, 1) := by decide +kernel
theorem dX10_taken_27 : decode cX10_taken 27 = .ok (.ifCond .ge 6, 3) := by decide +kernel
theorem dX10_taken_30 : decode cX10_taken 30 = .ok (.bipush (-11), 2) := by decide +kernel
theorem dX10_taken_32 : decode cX10_taken 32 = .ok (.ireturn, 1) := by decide +kernel
theorem dX10_taken_33 : decode cX10_taken 33 = .ok (.aload_n 0, 1) := by decide +kernel
theorem dX10_taken_34 : decode cX10_taken 34 = .ok (.getfield 76, 3) := by decide +kernel
theorem dX10_taken_37 : decode cX10_taken 37 = .ok (.iload_n 1, 1) := by decide +kernel
theorem dX10_taken_38 : decode cX10_taken 38 = .ok (.iaload, 1) := by decide +kernel
theorem dX10_taken_39 : decode cX10_taken 39 = .ok (.bipush 50, 2) := by decide +kernel
theorem dX10_taken_41 : decode cX10_taken 41 = .ok (.if_icmp .lt 6, 3) := by decide +kernel
theorem dX10_taken_44 : decode cX10_taken 44 = .ok (.bipush (-12), 2) := by decide +kernel
theorem dX10_taken_46 : decode cX10_taken 46 = .ok (.ireturn, 1) := by decide +kernel
theorem dX10_taken_47 : decode cX10_taken 47 = .ok (.aload_n 0, 1) := by decide +kernel
theorem dX10_taken_48 : decode cX10_taken 48 = .ok (.aload_n 0, 1) := by decide +kernel
theorem dX10_taken_49 : decode cX10_taken 49 = .ok (.getfield 76, 3) := by decide +kernel
theorem dX10_taken_52 : decode cX10_taken 52 = .ok (.iload_n 1, 1) := by decide +kernel
theorem dX10_taken_53 : decode cX10_taken 53 = .ok (.iaload, 1) := by decide +kernel
theorem dX10_taken_54 : decode cX10_taken 54 = .ok (.invokevirtual 358, 3) := by decide +kernel
theorem dX10_taken_57 : decode cX10_taken 57 = .ok (.istore_n 3, 1) := by decide +kernel
theorem dX10_taken_58 : decode cX10_taken 58 = .ok (.iload_n 3, 1) := by decide +kernel
theorem dX10_taken_59 : decode cX10_taken 59 = .ok (.iload_n 2, 1) := by decide +kernel
theorem dX10_taken_60 : decode cX10_taken 60 = .ok (.if_icmp .eq 15, 3) := by decide +kernel
theorem dX10_taken_63 : decode cX10_taken 63 = .ok (.iload_n 3, 1) := by decide +kernel
theorem dX10_taken_64 : decode cX10_taken 64 = .ok (.ifCond .le 11, 3) := by decide +kernel
theorem dX10_taken_67 : decode cX10_taken 67 = .ok (.iload_n 3, 1) := by decide +kernel
theorem dX10_taken_68 : decode cX10_taken 68 = .ok (.invokestatic 361, 3) := by decide +kernel
theorem dX10_taken_71 : decode cX10_taken 71 = .ok (.istore_n 3, 1) := by decide +kernel
theorem dX10_taken_72 : decode cX10_taken 72 = .ok (.goto (-14), 3) := by decide +kernel
theorem dX10_taken_75 : decode cX10_taken 75 = .ok (.iload_n 3, 1) := by decide +kernel
theorem dX10_taken_76 : decode cX10_taken 76 = .ok (.iload_n 2, 1) := by decide +kernel
theorem dX10_taken_77 : decode cX10_taken 77 = .ok (.if_icmp .ne 16, 3) := by decide +kernel
theorem dX10_taken_80 : decode cX10_taken 80 = .ok (.aload_n 0, 1) := by decide +kernel
theorem dX10_taken_81 : decode cX10_taken 81 = .ok (.aload_n 0, 1) := by decide +kernel
theorem dX10_taken_82 : decode cX10_taken 82 = .ok (.getfield 76, 3) := by decide +kernel
theorem dX10_taken_85 : decode cX10_taken 85 = .ok (.iload_n 1, 1) := by decide +kernel
theorem dX10_taken_86 : decode cX10_taken 86 = .ok (.iaload, 1) := by decide +kernel
theorem dX10_taken_87 : decode cX10_taken 87 = .ok (.invokevirtual 358, 3) := by decide +kernel
theorem dX10_taken_90 : decode cX10_taken 90 = .ok (.goto 5, 3) := by decide +kernel
theorem dX10_taken_93 : decode cX10_taken 93 = .ok (.bipush (-12), 2) := by decide +kernel
theorem dX10_taken_95 : decode cX10_taken 95 = .ok (.ireturn, 1) := by decide +kernel
theorem dX10_count_0 : decode cX10_count 0 = .ok (.iload_n 1, 1) := by decide +kernel
theorem dX10_count_1 : decode cX10_count 1 = .ok (.tableswitch 60 0 4 #[35, 40, 45, 50, 55], 35) := by decide +kernel
theorem dX10_count_36 : decode cX10_count 36 = .ok (.aload_n 0, 1) := by decide +kernel
theorem dX10_count_37 : decode cX10_count 37 = .ok (.getfield 102, 3) := by decide +kernel
theorem dX10_count_40 : decode cX10_count 40 = .ok (.ireturn, 1) := by decide +kernel
theorem dX10_count_41 : decode cX10_count 41 = .ok (.aload_n 0, 1) := by decide +kernel
theorem dX10_count_42 : decode cX10_count 42 = .ok (.getfield 165, 3) := by decide +kernel
theorem dX10_count_45 : decode cX10_count 45 = .ok (.ireturn, 1) := by decide +kernel
theorem dX10_count_46 : decode cX10_count 46 = .ok (.aload_n 0, 1) := by decide +kernel
theorem dX10_count_47 : decode cX10_count 47 = .ok (.getfield 96, 3) := by decide +kernel
theorem dX10_count_50 : decode cX10_count 50 = .ok (.ireturn, 1) := by decide +kernel
theorem dX10_count_51 : decode cX10_count 51 = .ok (.aload_n 0, 1) := by decide +kernel
theorem dX10_count_52 : decode cX10_count 52 = .ok (.getfield 313, 3) := by decide +kernel
theorem dX10_count_55 : decode cX10_count 55 = .ok (.ireturn, 1) := by decide +kernel
theorem dX10_count_56 : decode cX10_count 56 = .ok (.aload_n 0, 1) := by decide +kernel
theorem dX10_count_57 : decode cX10_count 57 = .ok (.getfield 316, 3) := by decide +kernel
theorem dX10_count_60 : decode cX10_count 60 = .ok (.ireturn, 1) := by decide +kernel
theorem dX10_count_61 : decode cX10_count 61 = .ok (.iconst (-1), 1) := by decide +kernel
theorem dX10_count_62 : decode cX10_count 62 = .ok (.ireturn, 1) := by decide +kernel
