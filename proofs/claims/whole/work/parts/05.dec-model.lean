theorem dX3_init_0 : decode cX3_init 0 = .ok (.aload_n 0, 1) := by decide +kernel
theorem dX3_init_1 : decode cX3_init 1 = .ok (.invokespecial 1, 3) := by decide +kernel
theorem dX3_init_4 : decode cX3_init 4 = .ok (.aload_n 0, 1) := by decide +kernel
theorem dX3_init_5 : decode cX3_init 5 = .ok (.bipush 6, 2) := by decide +kernel
theorem dX3_init_7 : decode cX3_init 7 = .ok (.newarray .int, 2) := by decide +kernel
theorem dX3_init_9 : decode cX3_init 9 = .ok (.dup, 1) := by decide +kernel
theorem dX3_init_10 : decode cX3_init 10 = .ok (.iconst 0, 1) := by decide +kernel
theorem dX3_init_11 : decode cX3_init 11 = .ok (.iconst 1, 1) := by decide +kernel
theorem dX3_init_12 : decode cX3_init 12 = .ok (.iastore, 1) := by decide +kernel
theorem dX3_init_13 : decode cX3_init 13 = .ok (.dup, 1) := by decide +kernel
theorem dX3_init_14 : decode cX3_init 14 = .ok (.iconst 1, 1) := by decide +kernel
theorem dX3_init_15 : decode cX3_init 15 = .ok (.iconst 1, 1) := by decide +kernel
theorem dX3_init_16 : decode cX3_init 16 = .ok (.iastore, 1) := by decide +kernel
theorem dX3_init_17 : decode cX3_init 17 = .ok (.dup, 1) := by decide +kernel
theorem dX3_init_18 : decode cX3_init 18 = .ok (.iconst 2, 1) := by decide +kernel
theorem dX3_init_19 : decode cX3_init 19 = .ok (.iconst 1, 1) := by decide +kernel
theorem dX3_init_20 : decode cX3_init 20 = .ok (.iastore, 1) := by decide +kernel
theorem dX3_init_21 : decode cX3_init 21 = .ok (.dup, 1) := by decide +kernel
theorem dX3_init_22 : decode cX3_init 22 = .ok (.iconst 3, 1) := by decide +kernel
theorem dX3_init_23 : decode cX3_init 23 = .ok (.iconst 1, 1) := by decide +kernel
theorem dX3_init_24 : decode cX3_init 24 = .ok (.iastore, 1) := by decide +kernel
theorem dX3_init_25 : decode cX3_init 25 = .ok (.dup, 1) := by decide +kernel
theorem dX3_init_26 : decode cX3_init 26 = .ok (.iconst 4, 1) := by decide +kernel
theorem dX3_init_27 : decode cX3_init 27 = .ok (.iconst 1, 1) := by decide +kernel
theorem dX3_init_28 : decode cX3_init 28 = .ok (.iastore, 1) := by decide +kernel
theorem dX3_init_29 : decode cX3_init 29 = .ok (.dup, 1) := by decide +kernel
theorem dX3_init_30 : decode cX3_init 30 = .ok (.iconst 5, 1) := by decide +kernel
theorem dX3_init_31 : decode cX3_init 31 = .ok (.iconst 1, 1) := by decide +kernel
theorem dX3_init_32 : decode cX3_init 32 = .ok (.iastore, 1) := by decide +kernel
theorem dX3_init_33 : decode cX3_init 33 = .ok (.putfield 7, 3) := by decide +kernel
theorem dX3_init_36 : decode cX3_init 36 = .ok (.aload_n 0, 1) := by decide +kernel
theorem dX3_init_37 : decode cX3_init 37 = .ok (.bipush 6, 2) := by decide +kernel
theorem dX3_init_39 : decode cX3_init 39 = .ok (.newarray .int, 2) := by decide +kernel
theorem dX3_init_41 : decode cX3_init 41 = .ok (.putfield 13, 3) := by decide +kernel
theorem dX3_init_44 : decode cX3_init 44 = .ok (.aload_n 0, 1) := by decide +kernel
theorem dX3_init_45 : decode cX3_init 45 = .ok (.bipush 6, 2) := by decide +kernel
theorem dX3_init_47 : decode cX3_init 47 = .ok (.newarray .int, 2) := by decide +kernel
theorem dX3_init_49 : decode cX3_init 49 = .ok (.putfield 16, 3) := by decide +kernel
theorem dX3_init_52 : decode cX3_init 52 = .ok (.aload_n 0, 1) := by decide +kernel
theorem dX3_init_53 : decode cX3_init 53 = .ok (.bipush 6, 2) := by decide +kernel
theorem dX3_init_55 : decode cX3_init 55 = .ok (.newarray .int, 2) := by decide +kernel
theorem dX3_init_57 : decode cX3_init 57 = .ok (.putfield 19, 3) := by decide +kernel
theorem dX3_init_60 : decode cX3_init 60 = .ok (.aload_n 0, 1) := by decide +kernel
theorem dX3_init_61 : decode cX3_init 61 = .ok (.bipush 18, 2) := by decide +kernel
theorem dX3_init_63 : decode cX3_init 63 = .ok (.newarray .int, 2) := by decide +kernel
theorem dX3_init_65 : decode cX3_init 65 = .ok (.putfield 22, 3) := by decide +kernel
theorem dX3_init_68 : decode cX3_init 68 = .ok (.aload_n 0, 1) := by decide +kernel
theorem dX3_init_69 : decode cX3_init 69 = .ok (.bipush 6, 2) := by decide +kernel
theorem dX3_init_71 : decode cX3_init 71 = .ok (.newarray .int, 2) := by decide +kernel
theorem dX3_init_73 : decode cX3_init 73 = .ok (.dup, 1) := by decide +kernel
theorem dX3_init_74 : decode cX3_init 74 = .ok (.iconst 0, 1) := by decide +kernel
theorem dX3_init_75 : decode cX3_init 75 = .ok (.iconst 2, 1) := by decide +kernel
theorem dX3_init_76 : decode cX3_init 76 = .ok (.iastore, 1) := by decide +kernel
theorem dX3_init_77 : decode cX3_init 77 = .ok (.dup, 1) := by decide +kernel
theorem dX3_init_78 : decode cX3_init 78 = .ok (.iconst 1, 1) := by decide +kernel
theorem dX3_init_79 : decode cX3_init 79 = .ok (.iconst 2, 1) := by decide +kernel
theorem dX3_init_80 : decode cX3_init 80 = .ok (.iastore, 1) := by decide +kernel
theorem dX3_init_81 : decode cX3_init 81 = .ok (.dup, 1) := by decide +kernel
theorem dX3_init_82 : decode cX3_init 82 = .ok (.iconst 2, 1) := by decide +kernel
theorem dX3_init_83 : decode cX3_init 83 = .ok (.iconst 2, 1) := by decide +kernel
theorem dX3_init_84 : decode cX3_init 84 = .ok (.iastore, 1) := by decide +kernel
theorem dX3_init_85 : decode cX3_init 85 = .ok (.dup, 1) := by decide +kernel
theorem dX3_init_86 : decode cX3_init 86 = .ok (.iconst 3, 1) := by decide +kernel
theorem dX3_init_87 : decode cX3_init 87 = .ok (.iconst 2, 1) := by decide +kernel
theorem dX3_init_88 : decode cX3_init 88 = .ok (.iastore, 1) := by decide +kernel
theorem dX3_init_89 : decode cX3_init 89 = .ok (.dup, 1) := by decide +kernel
theorem dX3_init_90 : decode cX3_init 90 = .ok (.iconst 4, 1) := by decide +kernel
theorem dX3_init_91 : decode cX3_init 91 = .ok (.iconst 2, 1) := by decide +kernel
theorem dX3_init_92 : decode cX3_init 92 = .ok (.iastore, 1) := by decide +kernel
theorem dX3_init_93 : decode cX3_init 93 = .ok (.dup, 1) := by decide +kernel
theorem dX3_init_94 : decode cX3_init 94 = .ok (.iconst 5, 1) := by decide +kernel
theorem dX3_init_95 : decode cX3_init 95 = .ok (.iconst 2, 1) := by decide +kernel
theorem dX3_init_96 : decode cX3_init 96 = .ok (.iastore, 1) := by decide +kernel
theorem dX3_init_97 : decode cX3_init 97 = .ok (.putfield 25, 3) := by decide +kernel
theorem dX3_init_100 : decode cX3_init 100 = .ok (.aload_n 0, 1) := by decide +kernel
theorem dX3_init_101 : decode cX3_init 101 = .ok (.bipush 6, 2) := by decide +kernel
theorem dX3_init_103 : decode cX3_init 103 = .ok (.newarray .int, 2) := by decide +kernel
theorem dX3_init_105 : decode cX3_init 105 = .ok (.dup, 1) := by decide +kernel
theorem dX3_init_106 : decode cX3_init 106 = .ok (.iconst 0, 1) := by decide +kernel
theorem dX3_init_107 : decode cX3_init 107 = .ok (.iconst 4, 1) := by decide +kernel
theorem dX3_init_108 : decode cX3_init 108 = .ok (.iastore, 1) := by decide +kernel
theorem dX3_init_109 : decode cX3_init 109 = .ok (.dup, 1) := by decide +kernel
theorem dX3_init_110 : decode cX3_init 110 = .ok (.iconst 1, 1) := by decide +kernel
theorem dX3_init_111 : decode cX3_init 111 = .ok (.iconst 4, 1) := by decide +kernel
theorem dX3_init_112 : decode cX3_init 112 = .ok (.iastore, 1) := by decide +kernel
theorem dX3_init_113 : decode cX3_init 113 = .ok (.dup, 1) := by decide +kernel
theorem dX3_init_114 : decode cX3_init 114 = .ok (.iconst 2, 1) := by decide +kernel
theorem dX3_init_115 : decode cX3_init 115 = .ok (.iconst 4, 1) := by decide +kernel
theorem dX3_init_116 : decode cX3_init 116 = .ok (.iastore, 1) := by decide +kernel
theorem dX3_init_117 : decode cX3_init 117 = .ok (.dup, 1) := by decide +kernel
theorem dX3_init_118 : decode cX3_init 118 = .ok (.iconst 3, 1) := by decide +kernel
theorem dX3_init_119 : decode cX3_init 119 = .ok (.iconst 4, 1) := by decide +kernel
theorem dX3_init_120 : decode cX3_init 120 = .ok (.iastore, 1) := by decide +kernel
theorem dX3_init_121 : decode cX3_init 121 = .ok (.dup, 1) := by decide +kernel
theorem dX3_init_122 : decode cX3_init 122 = .ok (.iconst 4, 1) := by decide +kernel
theorem dX3_init_123 : decode cX3_init 123 = .ok (.iconst 4, 1) := by decide +kernel
theorem dX3_init_124 : decode cX3_init 124 = .ok (.iastore, 1) := by decide +kernel
theorem dX3_init_125 : decode cX3_init 125 = .ok (.dup, 1) := by decide +kernel
theorem dX3_init_126 : decode cX3_init 126 = .ok (.iconst 5, 1) := by decide +kernel
theorem dX3_init_127 : decode cX3_init 127 = .ok (.iconst 4, 1) := by decide +kernel
theorem dX3_init_128 : decode cX3_init 128 = .ok (.iastore, 1) := by decide +kernel
theorem dX3_init_129 : decode cX3_init 129 = .ok (.putfield 28, 3) := by decide +kernel
theorem dX3_init_132 : decode cX3_init 132 = .ok (.aload_n 0, 1) := by decide +kernel
theorem dX3_init_133 : decode cX3_init 133 = .ok (.bipush 6, 2) := by decide +kernel
theorem dX3_init_135 : decode cX3_init 135 = .ok (.newarray .int, 2) := by decide +kernel
theorem dX3_init_137 : decode cX3_init 137 = .ok (.putfield 31, 3) := by decide +kernel
theorem dX3_init_140 : decode cX3_init 140 = .ok (.aload_n 0, 1) := by decide +kernel
theorem dX3_init_141 : decode cX3_init 141 = .ok (.bipush 6, 2) := by decide +kernel
theorem dX3_init_143 : decode cX3_init 143 = .ok (.newarray .int, 2) := by decide +kernel
theorem dX3_init_145 : decode cX3_init 145 = .ok (.dup, 1) := by decide +kernel
theorem dX3_init_146 : decode cX3_init 146 = .ok (.iconst 0, 1) := by decide +kernel
theorem dX3_init_147 : decode cX3_init 147 = .ok (.bipush 20, 2) := by decide +kernel
theorem dX3_init_149 : decode cX3_init 149 = .ok (.iastore, 1) := by decide +kernel
theorem dX3_init_150 : decode cX3_init 150 = .ok (.dup, 1) := by decide +kernel
theorem dX3_init_151 : decode cX3_init 151 = .ok (.iconst 1, 1) := by decide +kernel
theorem dX3_init_152 : decode cX3_init 152 = .ok (.bipush 20, 2) := by decide +kernel
theorem dX3_init_154 : decode cX3_init 154 = .ok (.iastore, 1) := by decide +kernel
theorem dX3_init_155 : decode cX3_init 155 = .ok (.dup, 1) := by decide +kernel
theorem dX3_init_156 : decode cX3_init 156 = .ok (.iconst 2, 1) := by decide +kernel
theorem dX3_init_157 : decode cX3_init 157 = .ok (.bipush 20, 2) := by decide +kernel
theorem dX3_init_159 : decode cX3_init 159 = .ok (.iastore, 1) := by decide +kernel
theorem dX3_init_160 : decode cX3_init 160 = .ok (.dup, 1) := by decide +kernel
theorem dX3_init_161 : decode cX3_init 161 = .ok (.iconst 3, 1) := by decide +kernel
theorem dX3_init_162 : decode cX3_init 162 = .ok (.bipush 20, 2) := by decide +kernel
theorem dX3_init_164 : decode cX3_init 164 = .ok (.iastore, 1) := by decide +kernel
theorem dX3_init_165 : decode cX3_init 165 = .ok (.dup, 1) := by decide +kernel
theorem dX3_init_166 : decode cX3_init 166 = .ok (.iconst 4, 1) := by decide +kernel
theorem dX3_init_167 : decode cX3_init 167 = .ok (.bipush 20, 2) := by decide +kernel
theorem dX3_init_169 : decode cX3_init 169 = .ok (.iastore, 1) := by decide +kernel
theorem dX3_init_170 : decode cX3_init 170 = .ok (.dup, 1) := by decide +kernel
theorem dX3_init_171 : decode cX3_init 171 = .ok (.iconst 5, 1) := by decide +kernel
theorem dX3_init_172 : decode cX3_init 172 = .ok (.bipush 20, 2) := by decide +kernel
theorem dX3_init_174 : decode cX3_init 174 = .ok (.iastore, 1) := by decide +kernel
theorem dX3_init_175 : decode cX3_init 175 = .ok (.putfield 34, 3) := by decide +kernel
theorem dX3_init_178 : decode cX3_init 178 = .ok (.aload_n 0, 1) := by decide +kernel
theorem dX3_init_179 : decode cX3_init 179 = .ok (.bipush 6, 2) := by decide +kernel
theorem dX3_init_181 : decode cX3_init 181 = .ok (.newarray .int, 2) := by decide +kernel
theorem dX3_init_183 : decode cX3_init 183 = .ok (.putfield 37, 3) := by decide +kernel
theorem dX3_init_186 : decode cX3_init 186 = .ok (.aload_n 0, 1) := by decide +kernel
theorem dX3_init_187 : decode cX3_init 187 = .ok (.bipush 6, 2) := by decide +kernel
theorem dX3_init_189 : decode cX3_init 189 = .ok (.newarray .int, 2) := by decide +kernel
theorem dX3_init_191 : decode cX3_init 191 = .ok (.putfield 40, 3) := by decide +kernel
theorem dX3_init_194 : decode cX3_init 194 = .ok (.aload_n 0, 1) := by decide +kernel
theorem dX3_init_195 : decode cX3_init 195 = .ok (.sipush 200, 3) := by decide +kernel
theorem dX3_init_198 : decode cX3_init 198 = .ok (.newarray .int, 2) := by decide +kernel
theorem dX3_init_200 : decode cX3_init 200 = .ok (.putfield 43, 3) := by decide +kernel
theorem dX3_init_203 : decode cX3_init 203 = .ok (.aload_n 0, 1) := by decide +kernel
theorem dX3_init_204 : decode cX3_init 204 = .ok (.sipush 200, 3) := by decide +kernel
theorem dX3_init_207 : decode cX3_init 207 = .ok (.newarray .int, 2) := by decide +kernel
theorem dX3_init_209 : decode cX3_init 209 = .ok (.putfield 46, 3) := by decide +kernel
theorem dX3_init_212 : decode cX3_init 212 = .ok (.aload_n 0, 1) := by decide +kernel
theorem dX3_init_213 : decode cX3_init 213 = .ok (.sipush 200, 3) := by decide +kernel
theorem dX3_init_216 : decode cX3_init 216 = .ok (.newarray .int, 2) := by decide +kernel
theorem dX3_init_218 : decode cX3_init 218 = .ok (.putfield 49, 3) := by decide +kernel
theorem dX3_init_221 : decode cX3_init 221 = .ok (.aload_n 0, 1) := by decide +kernel
theorem dX3_init_222 : decode cX3_init 222 = .ok (.sipush 200, 3) := by decide +kernel
theorem dX3_init_225 : decode cX3_init 225 = .ok (.newarray .int, 2) := by decide +kernel
theorem dX3_init_227 : decode cX3_init 227 = .ok (.putfield 52, 3) := by decide +kernel
theorem dX3_init_230 : decode cX3_init 230 = .ok (.aload_n 0, 1) := by decide +kernel
theorem dX3_init_231 : decode cX3_init 231 = .ok (.sipush 200, 3) := by decide +kernel
theorem dX3_init_234 : decode cX3_init 234 = .ok (.newarray .int, 2) := by decide +kernel
theorem dX3_init_236 : decode cX3_init 236 = .ok (.putfield 55, 3) := by decide +kernel
theorem dX3_init_239 : decode cX3_init 239 = .ok (.aload_n 0, 1) := by decide +kernel
theorem dX3_init_240 : decode cX3_init 240 = .ok (.sipush 200, 3) := by decide +kernel
theorem dX3_init_243 : decode cX3_init 243 = .ok (.newarray .int, 2) := by decide +kernel
theorem dX3_init_245 : decode cX3_init 245 = .ok (.putfield 58, 3) := by decide +kernel
theorem dX3_init_248 : decode cX3_init 248 = .ok (.aload_n 0, 1) := by decide +kernel
theorem dX3_init_249 : decode cX3_init 249 = .ok (.sipush 200, 3) := by decide +kernel
theorem dX3_init_252 : decode cX3_init 252 = .ok (.newarray .int, 2) := by decide +kernel
theorem dX3_init_254 : decode cX3_init 254 = .ok (.putfield 61, 3) := by decide +kernel
theorem dX3_init_257 : decode cX3_init 257 = .ok (.aload_n 0, 1) := by decide +kernel
theorem dX3_init_258 : decode cX3_init 258 = .ok (.sipush 200, 3) := by decide +kernel
theorem dX3_init_261 : decode cX3_init 261 = .ok (.newarray .int, 2) := by decide +kernel
theorem dX3_init_263 : decode cX3_init 263 = .ok (.putfield 64, 3) := by decide +kernel
theorem dX3_init_266 : decode cX3_init 266 = .ok (.aload_n 0, 1) := by decide +kernel
theorem dX3_init_267 : decode cX3_init 267 = .ok (.sipush 600, 3) := by decide +kernel
theorem dX3_init_270 : decode cX3_init 270 = .ok (.newarray .int, 2) := by decide +kernel
theorem dX3_init_272 : decode cX3_init 272 = .ok (.putfield 67, 3) := by decide +kernel
theorem dX3_init_275 : decode cX3_init 275 = .ok (.aload_n 0, 1) := by decide +kernel
theorem dX3_init_276 : decode cX3_init 276 = .ok (.sipush 200, 3) := by decide +kernel
theorem dX3_init_279 : decode cX3_init 279 = .ok (.newarray .int, 2) := by decide +kernel
theorem dX3_init_281 : decode cX3_init 281 = .ok (.putfield 70, 3) := by decide +kernel
theorem dX3_init_284 : decode cX3_init 284 = .ok (.aload_n 0, 1) := by decide +kernel
theorem dX3_init_285 : decode cX3_init 285 = .ok (.sipush 200, 3) := by decide +kernel
theorem dX3_init_288 : decode cX3_init 288 = .ok (.newarray .int, 2) := by decide +kernel
theorem dX3_init_290 : decode cX3_init 290 = .ok (.putfield 73, 3) := by decide +kernel
theorem dX3_init_293 : decode cX3_init 293 = .ok (.aload_n 0, 1) := by decide +kernel
theorem dX3_init_294 : decode cX3_init 294 = .ok (.sipush 200, 3) := by decide +kernel
theorem dX3_init_297 : decode cX3_init 297 = .ok (.newarray .int, 2) := by decide +kernel
theorem dX3_init_299 : decode cX3_init 299 = .ok (.putfield 76, 3) := by decide +kernel
theorem dX3_init_302 : decode cX3_init 302 = .ok (.aload_n 0, 1) := by decide +kernel
theorem dX3_init_303 : decode cX3_init 303 = .ok (.sipush 200, 3) := by decide +kernel
theorem dX3_init_306 : decode cX3_init 306 = .ok (.newarray .boolean, 2) := by decide +kernel
theorem dX3_init_308 : decode cX3_init 308 = .ok (.putfield 79, 3) := by decide +kernel
theorem dX3_init_311 : decode cX3_init 311 = .ok (.aload_n 0, 1) := by decide +kernel
theorem dX3_init_312 : decode cX3_init 312 = .ok (.sipush 200, 3) := by decide +kernel
theorem dX3_init_315 : decode cX3_init 315 = .ok (.newarray .boolean, 2) := by decide +kernel
theorem dX3_init_317 : decode cX3_init 317 = .ok (.putfield 83, 3) := by decide +kernel
theorem dX3_init_320 : decode cX3_init 320 = .ok (.return_, 1) := by decide +kernel
theorem dX3_thrown_0 : decode cX3_thrown 0 = .ok (.aload_n 0, 1) := by decide +kernel
theorem dX3_thrown_1 : decode cX3_thrown 1 = .ok (.getfield 86, 3) := by decide +kernel
theorem dX3_thrown_4 : decode cX3_thrown 4 = .ok (.ireturn, 1) := by decide +kernel
theorem dX3_in_0 : decode cX3_in 0 = .ok (.iload_n 0, 1) := by decide +kernel
theorem dX3_in_1 : decode cX3_in 1 = .ok (.iload_n 1, 1) := by decide +kernel
theorem dX3_in_2 : decode cX3_in 2 = .ok (.if_icmp .lt 12, 3) := by decide +kernel
theorem dX3_in_5 : decode cX3_in 5 = .ok (.iload_n 0, 1) := by decide +kernel
theorem dX3_in_6 : decode cX3_in 6 = .ok (.iload_n 2, 1) := by decide +kernel
theorem dX3_in_7 : decode cX3_in 7 = .ok (.if_icmp .gt 7, 3) := by decide +kernel
theorem dX3_in_10 : decode cX3_in 10 = .ok (.iconst 1, 1) := by decide +kernel
theorem dX3_in_11 : decode cX3_in 11 = .ok (.goto 4, 3) := by decide +kernel
theorem dX3_in_14 : decode cX3_in 14 = .ok (.iconst 0, 1) := by decide +kernel
theorem dX3_in_15 : decode cX3_in 15 = .ok (.ireturn, 1) := by decide +kernel
theorem dX3_isService_0 : decode cX3_isService 0 = .ok (.iload_n 0, 1) := by decide +kernel
theorem dX3_isService_1 : decode cX3_isService 1 = .ok (.iconst 0, 1) := by decide +kernel
theorem dX3_isService_2 : decode cX3_isService 2 = .ok (.iconst 5, 1) := by decide +kernel
theorem dX3_isService_3 : decode cX3_isService 3 = .ok (.invokestatic 90, 3) := by decide +kernel
theorem dX3_isService_6 : decode cX3_isService 6 = .ok (.ireturn, 1) := by decide +kernel
theorem dX3_isCall_0 : decode cX3_isCall 0 = .ok (.iload_n 1, 1) := by decide +kernel
theorem dX3_isCall_1 : decode cX3_isCall 1 = .ok (.iconst 0, 1) := by decide +kernel
theorem dX3_isCall_2 : decode cX3_isCall 2 = .ok (.aload_n 0, 1) := by decide +kernel
theorem dX3_isCall_3 : decode cX3_isCall 3 = .ok (.getfield 94, 3) := by decide +kernel
theorem dX3_isCall_6 : decode cX3_isCall 6 = .ok (.iconst 1, 1) := by decide +kernel
theorem dX3_isCall_7 : decode cX3_isCall 7 = .ok (.isub, 1) := by decide +kernel
theorem dX3_isCall_8 : decode cX3_isCall 8 = .ok (.invokestatic 90, 3) := by decide +kernel
theorem dX3_isCall_11 : decode cX3_isCall 11 = .ok (.ireturn, 1) := by decide +kernel
theorem dX3_setWork_0 : decode cX3_setWork 0 = .ok (.aload_n 0, 1) := by decide +kernel
theorem dX3_setWork_1 : decode cX3_setWork 1 = .ok (.iload_n 1, 1) := by decide +kernel
theorem dX3_setWork_2 : decode cX3_setWork 2 = .ok (.invokestatic 97, 3) := by decide +kernel
theorem dX3_setWork_5 : decode cX3_setWork 5 = .ok (.ifCond .ne 7, 3) := by decide +kernel
theorem dX3_setWork_8 : decode cX3_setWork 8 = .ok (.iconst 1, 1) := by decide +kernel
theorem dX3_setWork_9 : decode cX3_setWork 9 = .ok (.goto 28, 3) := by decide +kernel
theorem dX3_setWork_12 : decode cX3_setWork 12 = .ok (.iload_n 2, 1) := by decide +kernel
theorem dX3_setWork_13 : decode cX3_setWork 13 = .ok (.iconst 1, 1) := by decide +kernel
theorem dX3_setWork_14 : decode cX3_setWork 14 = .ok (.bipush 20, 2) := by decide +kernel
theorem dX3_setWork_16 : decode cX3_setWork 16 = .ok (.invokestatic 90, 3) := by decide +kernel
theorem dX3_setWork_19 : decode cX3_setWork 19 = .ok (.ifCond .eq 17, 3) := by decide +kernel
theorem dX3_setWork_22 : decode cX3_setWork 22 = .ok (.iload_n 3, 1) := by decide +kernel
theorem dX3_setWork_23 : decode cX3_setWork 23 = .ok (.iconst 0, 1) := by decide +kernel
theorem dX3_setWork_24 : decode cX3_setWork 24 = .ok (.bipush 20, 2) := by decide +kernel
theorem dX3_setWork_26 : decode cX3_setWork 26 = .ok (.invokestatic 90, 3) := by decide +kernel
theorem dX3_setWork_29 : decode cX3_setWork 29 = .ok (.ifCond .eq 7, 3) := by decide +kernel
theorem dX3_setWork_32 : decode cX3_setWork 32 = .ok (.iconst 0, 1) := by decide +kernel
theorem dX3_setWork_33 : decode cX3_setWork 33 = .ok (.goto 4, 3) := by decide +kernel
theorem dX3_setWork_36 : decode cX3_setWork 36 = .ok (.iconst 2, 1) := by decide +kernel
theorem dX3_setWork_37 : decode cX3_setWork 37 = .ok (.putfield 86, 3) := by decide +kernel
theorem dX3_setWork_40 : decode cX3_setWork 40 = .ok (.aload_n 0, 1) := by decide +kernel
theorem dX3_setWork_41 : decode cX3_setWork 41 = .ok (.getfield 86, 3) := by decide +kernel
theorem dX3_setWork_44 : decode cX3_setWork 44 = .ok (.ifCond .le 5, 3) := by decide +kernel
theorem dX3_setWork_47 : decode cX3_setWork 47 = .ok (.iconst 0, 1) := by decide +kernel
theorem dX3_setWork_48 : decode cX3_setWork 48 = .ok (.ireturn, 1) := by decide +kernel
theorem dX3_setWork_49 : decode cX3_setWork 49 = .ok (.aload_n 0, 1) := by decide +kernel
theorem dX3_setWork_50 : decode cX3_setWork 50 = .ok (.getfield 7, 3) := by decide +kernel
theorem dX3_setWork_53 : decode cX3_setWork 53 = .ok (.iload_n 1, 1) := by decide +kernel
theorem dX3_setWork_54 : decode cX3_setWork 54 = .ok (.iaload, 1) := by decide +kernel
theorem dX3_setWork_55 : decode cX3_setWork 55 = .ok (.istore 4, 2) := by decide +kernel
theorem dX3_setWork_57 : decode cX3_setWork 57 = .ok (.aload_n 0, 1) := by decide +kernel
theorem dX3_setWork_58 : decode cX3_setWork 58 = .ok (.getfield 7, 3) := by decide +kernel
theorem dX3_setWork_61 : decode cX3_setWork 61 = .ok (.iload_n 1, 1) := by decide +kernel
theorem dX3_setWork_62 : decode cX3_setWork 62 = .ok (.iload_n 2, 1) := by decide +kernel
theorem dX3_setWork_63 : decode cX3_setWork 63 = .ok (.iastore, 1) := by decide +kernel
theorem dX3_setWork_64 : decode cX3_setWork 64 = .ok (.aload_n 0, 1) := by decide +kernel
theorem dX3_setWork_65 : decode cX3_setWork 65 = .ok (.getfield 13, 3) := by decide +kernel
theorem dX3_setWork_68 : decode cX3_setWork 68 = .ok (.iload_n 1, 1) := by decide +kernel
theorem dX3_setWork_69 : decode cX3_setWork 69 = .ok (.iload_n 3, 1) := by decide +kernel
theorem dX3_setWork_70 : decode cX3_setWork 70 = .ok (.iastore, 1) := by decide +kernel
theorem dX3_setWork_71 : decode cX3_setWork 71 = .ok (.aload_n 0, 1) := by decide +kernel
theorem dX3_setWork_72 : decode cX3_setWork 72 = .ok (.getfield 16, 3) := by decide +kernel
theorem dX3_setWork_75 : decode cX3_setWork 75 = .ok (.iload_n 1, 1) := by decide +kernel
theorem dX3_setWork_76 : decode cX3_setWork 76 = .ok (.iconst 0, 1) := by decide +kernel
theorem dX3_setWork_77 : decode cX3_setWork 77 = .ok (.iastore, 1) := by decide +kernel
theorem dX3_setWork_78 : decode cX3_setWork 78 = .ok (.iload 4, 2) := by decide +kernel
theorem dX3_setWork_80 : decode cX3_setWork 80 = .ok (.ireturn, 1) := by decide +kernel
theorem dX3_ask_0 : decode cX3_ask 0 = .ok (.aload_n 0, 1) := by decide +kernel
theorem dX3_ask_1 : decode cX3_ask 1 = .ok (.iload_n 1, 1) := by decide +kernel
theorem dX3_ask_2 : decode cX3_ask 2 = .ok (.invokestatic 97, 3) := by decide +kernel
theorem dX3_ask_5 : decode cX3_ask 5 = .ok (.ifCond .eq 10, 3) := by decide +kernel
theorem dX3_ask_8 : decode cX3_ask 8 = .ok (.iload_n 2, 1) := by decide +kernel
theorem dX3_ask_9 : decode cX3_ask 9 = .ok (.invokestatic 97, 3) := by decide +kernel
theorem dX3_ask_12 : decode cX3_ask 12 = .ok (.ifCond .ne 7, 3) := by decide +kernel
theorem dX3_ask_15 : decode cX3_ask 15 = .ok (.iconst 1, 1) := by decide +kernel
theorem dX3_ask_16 : decode cX3_ask 16 = .ok (.goto 27, 3) := by decide +kernel
theorem dX3_ask_19 : decode cX3_ask 19 = .ok (.iload_n 2, 1) := by decide +kernel
theorem dX3_ask_20 : decode cX3_ask 20 = .ok (.iload_n 1, 1) := by decide +kernel
theorem dX3_ask_21 : decode cX3_ask 21 = .ok (.if_icmp .gt 7, 3) := by decide +kernel
theorem dX3_ask_24 : decode cX3_ask 24 = .ok (.iconst 2, 1) := by decide +kernel
theorem dX3_ask_25 : decode cX3_ask 25 = .ok (.goto 18, 3) := by decide +kernel
theorem dX3_ask_28 : decode cX3_ask 28 = .ok (.aload_n 0, 1) := by decide +kernel
theorem dX3_ask_29 : decode cX3_ask 29 = .ok (.getfield 19, 3) := by decide +kernel
theorem dX3_ask_32 : decode cX3_ask 32 = .ok (.iload_n 1, 1) := by decide +kernel
theorem dX3_ask_33 : decode cX3_ask 33 = .ok (.iaload, 1) := by decide +kernel
theorem dX3_ask_34 : decode cX3_ask 34 = .ok (.iconst 3, 1) := by decide +kernel
theorem dX3_ask_35 : decode cX3_ask 35 = .ok (.if_icmp .ne 7, 3) := by decide +kernel
theorem dX3_ask_38 : decode cX3_ask 38 = .ok (.iconst 3, 1) := by decide +kernel
theorem dX3_ask_39 : decode cX3_ask 39 = .ok (.goto 4, 3) := by decide +kernel
theorem dX3_ask_42 : decode cX3_ask 42 = .ok (.iconst 0, 1) := by decide +kernel
theorem dX3_ask_43 : decode cX3_ask 43 = .ok (.putfield 86, 3) := by decide +kernel
theorem dX3_ask_46 : decode cX3_ask 46 = .ok (.aload_n 0, 1) := by decide +kernel
theorem dX3_ask_47 : decode cX3_ask 47 = .ok (.getfield 86, 3) := by decide +kernel
theorem dX3_ask_50 : decode cX3_ask 50 = .ok (.ifCond .le 5, 3) := by decide +kernel
theorem dX3_ask_53 : decode cX3_ask 53 = .ok (.iconst 0, 1) := by decide +kernel
theorem dX3_ask_54 : decode cX3_ask 54 = .ok (.ireturn, 1) := by decide +kernel
theorem dX3_ask_55 : decode cX3_ask 55 = .ok (.aload_n 0, 1) := by decide +kernel
theorem dX3_ask_56 : decode cX3_ask 56 = .ok (.getfield 22, 3) := by decide +kernel
theorem dX3_ask_59 : decode cX3_ask 59 = .ok (.iconst 3, 1) := by decide +kernel
theorem dX3_ask_60 : decode cX3_ask 60 = .ok (.iload_n 1, 1) := by decide +kernel
theorem dX3_ask_61 : decode cX3_ask 61 = .ok (.imul, 1) := by decide +kernel
theorem dX3_ask_62 : decode cX3_ask 62 = .ok (.aload_n 0, 1) := by decide +kernel
theorem dX3_ask_63 : decode cX3_ask 63 = .ok (.getfield 19, 3) := by decide +kernel
theorem dX3_ask_66 : decode cX3_ask 66 = .ok (.iload_n 1, 1) := by decide +kernel
theorem dX3_ask_67 : decode cX3_ask 67 = .ok (.iaload, 1) := by decide +kernel
theorem dX3_ask_68 : decode cX3_ask 68 = .ok (.iadd, 1) := by decide +kernel
theorem dX3_ask_69 : decode cX3_ask 69 = .ok (.iload_n 2, 1) := by decide +kernel
theorem dX3_ask_70 : decode cX3_ask 70 = .ok (.iastore, 1) := by decide +kernel
theorem dX3_ask_71 : decode cX3_ask 71 = .ok (.aload_n 0, 1) := by decide +kernel
theorem dX3_ask_72 : decode cX3_ask 72 = .ok (.getfield 19, 3) := by decide +kernel
theorem dX3_ask_75 : decode cX3_ask 75 = .ok (.iload_n 1, 1) := by decide +kernel
theorem dX3_ask_76 : decode cX3_ask 76 = .ok (.dup2, 1) := by decide +kernel
theorem dX3_ask_77 : decode cX3_ask 77 = .ok (.iaload, 1) := by decide +kernel
theorem dX3_ask_78 : decode cX3_ask 78 = .ok (.iconst 1, 1) := by decide +kernel
theorem dX3_ask_79 : decode cX3_ask 79 = .ok (.iadd, 1) := by decide +kernel
theorem dX3_ask_80 : decode cX3_ask 80 = .ok (.iastore, 1) := by decide +kernel
theorem dX3_ask_81 : decode cX3_ask 81 = .ok (.aload_n 0, 1) := by decide +kernel
theorem dX3_ask_82 : decode cX3_ask 82 = .ok (.getfield 19, 3) := by decide +kernel
theorem dX3_ask_85 : decode cX3_ask 85 = .ok (.iload_n 1, 1) := by decide +kernel
theorem dX3_ask_86 : decode cX3_ask 86 = .ok (.iaload, 1) := by decide +kernel
theorem dX3_ask_87 : decode cX3_ask 87 = .ok (.ireturn, 1) := by decide +kernel
theorem dX3_setRoom_0 : decode cX3_setRoom 0 = .ok (.iload_n 2, 1) := by decide +kernel
theorem dX3_setRoom_1 : decode cX3_setRoom 1 = .ok (.iconst 1, 1) := by decide +kernel
theorem dX3_setRoom_2 : decode cX3_setRoom 2 = .ok (.iconst 5, 1) := by decide +kernel
theorem dX3_setRoom_3 : decode cX3_setRoom 3 = .ok (.invokestatic 90, 3) := by decide +kernel
theorem dX3_setRoom_6 : decode cX3_setRoom 6 = .ok (.ifCond .eq 28, 3) := by decide +kernel
theorem dX3_setRoom_9 : decode cX3_setRoom 9 = .ok (.iload_n 3, 1) := by decide +kernel
theorem dX3_setRoom_10 : decode cX3_setRoom 10 = .ok (.iconst 0, 1) := by decide +kernel
theorem dX3_setRoom_11 : decode cX3_setRoom 11 = .ok (.bipush 8, 2) := by decide +kernel
theorem dX3_setRoom_13 : decode cX3_setRoom 13 = .ok (.invokestatic 90, 3) := by decide +kernel
theorem dX3_setRoom_16 : decode cX3_setRoom 16 = .ok (.ifCond .eq 18, 3) := by decide +kernel
theorem dX3_setRoom_19 : decode cX3_setRoom 19 = .ok (.iload 4, 2) := by decide +kernel
theorem dX3_setRoom_21 : decode cX3_setRoom 21 = .ok (.iconst 0, 1) := by decide +kernel
theorem dX3_setRoom_22 : decode cX3_setRoom 22 = .ok (.bipush 50, 2) := by decide +kernel
theorem dX3_setRoom_24 : decode cX3_setRoom 24 = .ok (.invokestatic 90, 3) := by decide +kernel
theorem dX3_setRoom_27 : decode cX3_setRoom 27 = .ok (.ifCond .eq 7, 3) := by decide +kernel
theorem dX3_setRoom_30 : decode cX3_setRoom 30 = .ok (.iconst 1, 1) := by decide +kernel
theorem dX3_setRoom_31 : decode cX3_setRoom 31 = .ok (.goto 4, 3) := by decide +kernel
theorem dX3_setRoom_34 : decode cX3_setRoom 34 = .ok (.iconst 0, 1) := by decide +kernel
theorem dX3_setRoom_35 : decode cX3_setRoom 35 = .ok (.istore 5, 2) := by decide +kernel
theorem dX3_setRoom_37 : decode cX3_setRoom 37 = .ok (.aload_n 0, 1) := by decide +kernel
theorem dX3_setRoom_38 : decode cX3_setRoom 38 = .ok (.iload_n 1, 1) := by decide +kernel
theorem dX3_setRoom_39 : decode cX3_setRoom 39 = .ok (.invokestatic 97, 3) := by decide +kernel
theorem dX3_setRoom_42 : decode cX3_setRoom 42 = .ok (.ifCond .ne 7, 3) := by decide +kernel
theorem dX3_setRoom_45 : decode cX3_setRoom 45 = .ok (.iconst 1, 1) := by decide +kernel
theorem dX3_setRoom_46 : decode cX3_setRoom 46 = .ok (.goto 13, 3) := by decide +kernel
theorem dX3_setRoom_49 : decode cX3_setRoom 49 = .ok (.iload 5, 2) := by decide +kernel
theorem dX3_setRoom_51 : decode cX3_setRoom 51 = .ok (.ifCond .eq 7, 3) := by decide +kernel
theorem dX3_setRoom_54 : decode cX3_setRoom 54 = .ok (.iconst 0, 1) := by decide +kernel
theorem dX3_setRoom_55 : decode cX3_setRoom 55 = .ok (.goto 4, 3) := by decide +kernel
theorem dX3_setRoom_58 : decode cX3_setRoom 58 = .ok (.iconst 2, 1) := by decide +kernel
theorem dX3_setRoom_59 : decode cX3_setRoom 59 = .ok (.putfield 86, 3) := by decide +kernel
theorem dX3_setRoom_62 : decode cX3_setRoom 62 = .ok (.aload_n 0, 1) := by decide +kernel
theorem dX3_setRoom_63 : decode cX3_setRoom 63 = .ok (.getfield 86, 3) := by decide +kernel
theorem dX3_setRoom_66 : decode cX3_setRoom 66 = .ok (.ifCond .le 5, 3) := by decide +kernel
theorem dX3_setRoom_69 : decode cX3_setRoom 69 = .ok (.iconst 0, 1) := by decide +kernel
theorem dX3_setRoom_70 : decode cX3_setRoom 70 = .ok (.ireturn, 1) := by decide +kernel
theorem dX3_setRoom_71 : decode cX3_setRoom 71 = .ok (.aload_n 0, 1) := by decide +kernel
theorem dX3_setRoom_72 : decode cX3_setRoom 72 = .ok (.getfield 25, 3) := by decide +kernel
theorem dX3_setRoom_75 : decode cX3_setRoom 75 = .ok (.iload_n 1, 1) := by decide +kernel
theorem dX3_setRoom_76 : decode cX3_setRoom 76 = .ok (.iaload, 1) := by decide +kernel
theorem dX3_setRoom_77 : decode cX3_setRoom 77 = .ok (.istore 6, 2) := by decide +kernel
theorem dX3_setRoom_79 : decode cX3_setRoom 79 = .ok (.aload_n 0, 1) := by decide +kernel
theorem dX3_setRoom_80 : decode cX3_setRoom 80 = .ok (.getfield 25, 3) := by decide +kernel
theorem dX3_setRoom_83 : decode cX3_setRoom 83 = .ok (.iload_n 1, 1) := by decide +kernel
theorem dX3_setRoom_84 : decode cX3_setRoom 84 = .ok (.iload_n 2, 1) := by decide +kernel
theorem dX3_setRoom_85 : decode cX3_setRoom 85 = .ok (.iastore, 1) := by decide +kernel
theorem dX3_setRoom_86 : decode cX3_setRoom 86 = .ok (.aload_n 0, 1) := by decide +kernel
theorem dX3_setRoom_87 : decode cX3_setRoom 87 = .ok (.getfield 28, 3) := by decide +kernel
theorem dX3_setRoom_90 : decode cX3_setRoom 90 = .ok (.iload_n 1, 1) := by decide +kernel
theorem dX3_setRoom_91 : decode cX3_setRoom 91 = .ok (.iload_n 3, 1) := by decide +kernel
theorem dX3_setRoom_92 : decode cX3_setRoom 92 = .ok (.iastore, 1) := by decide +kernel
theorem dX3_setRoom_93 : decode cX3_setRoom 93 = .ok (.aload_n 0, 1) := by decide +kernel
theorem dX3_setRoom_94 : decode cX3_setRoom 94 = .ok (.getfield 31, 3) := by decide +kernel
theorem dX3_setRoom_97 : decode cX3_setRoom 97 = .ok (.iload_n 1, 1) := by decide +kernel
theorem dX3_setRoom_98 : decode cX3_setRoom 98 = .ok (.iload 4, 2) := by decide +kernel
theorem dX3_setRoom_100 : decode cX3_setRoom 100 = .ok (.iastore, 1) := by decide +kernel
theorem dX3_setRoom_101 : decode cX3_setRoom 101 = .ok (.iload 6, 2) := by decide +kernel
theorem dX3_setRoom_103 : decode cX3_setRoom 103 = .ok (.ireturn, 1) := by decide +kernel
theorem dX3_isOver_0 : decode cX3_isOver 0 = .ok (.aload_n 0, 1) := by decide +kernel
theorem dX3_isOver_1 : decode cX3_isOver 1 = .ok (.getfield 52, 3) := by decide +kernel
theorem dX3_isOver_4 : decode cX3_isOver 4 = .ok (.iload_n 1, 1) := by decide +kernel
theorem dX3_isOver_5 : decode cX3_isOver 5 = .ok (.iaload, 1) := by decide +kernel
theorem dX3_isOver_6 : decode cX3_isOver 6 = .ok (.iconst 3, 1) := by decide +kernel
theorem dX3_isOver_7 : decode cX3_isOver 7 = .ok (.if_icmp .lt 7, 3) := by decide +kernel
theorem dX3_isOver_10 : decode cX3_isOver 10 = .ok (.iconst 1, 1) := by decide +kernel
theorem dX3_isOver_11 : decode cX3_isOver 11 = .ok (.goto 4, 3) := by decide +kernel
theorem dX3_isOver_14 : decode cX3_isOver 14 = .ok (.iconst 0, 1) := by decide +kernel
theorem dX3_isOver_15 : decode cX3_isOver 15 = .ok (.ireturn, 1) := by decide +kernel
theorem dX3_manyOf_0 : decode cX3_manyOf 0 = .ok (.iconst 0, 1) := by decide +kernel
theorem dX3_manyOf_1 : decode cX3_manyOf 1 = .ok (.istore_n 3, 1) := by decide +kernel
theorem dX3_manyOf_2 : decode cX3_manyOf 2 = .ok (.iconst 0, 1) := by decide +kernel
theorem dX3_manyOf_3 : decode cX3_manyOf 3 = .ok (.istore 4, 2) := by decide +kernel
theorem dX3_manyOf_5 : decode cX3_manyOf 5 = .ok (.iload 4, 2) := by decide +kernel
theorem dX3_manyOf_7 : decode cX3_manyOf 7 = .ok (.aload_n 0, 1) := by decide +kernel
theorem dX3_manyOf_8 : decode cX3_manyOf 8 = .ok (.getfield 94, 3) := by decide +kernel
theorem dX3_manyOf_11 : decode cX3_manyOf 11 = .ok (.if_icmp .ge 39, 3) := by decide +kernel
theorem dX3_manyOf_14 : decode cX3_manyOf 14 = .ok (.iload_n 3, 1) := by decide +kernel
theorem dX3_manyOf_15 : decode cX3_manyOf 15 = .ok (.aload_n 0, 1) := by decide +kernel
theorem dX3_manyOf_16 : decode cX3_manyOf 16 = .ok (.getfield 43, 3) := by decide +kernel
theorem dX3_manyOf_19 : decode cX3_manyOf 19 = .ok (.iload 4, 2) := by decide +kernel
theorem dX3_manyOf_21 : decode cX3_manyOf 21 = .ok (.iaload, 1) := by decide +kernel
theorem dX3_manyOf_22 : decode cX3_manyOf 22 = .ok (.iload_n 1, 1) := by decide +kernel
theorem dX3_manyOf_23 : decode cX3_manyOf 23 = .ok (.if_icmp .ne 18, 3) := by decide +kernel
theorem dX3_manyOf_26 : decode cX3_manyOf 26 = .ok (.aload_n 0, 1) := by decide +kernel
theorem dX3_manyOf_27 : decode cX3_manyOf 27 = .ok (.getfield 52, 3) := by decide +kernel
theorem dX3_manyOf_30 : decode cX3_manyOf 30 = .ok (.iload 4, 2) := by decide +kernel
theorem dX3_manyOf_32 : decode cX3_manyOf 32 = .ok (.iaload, 1) := by decide +kernel
theorem dX3_manyOf_33 : decode cX3_manyOf 33 = .ok (.iload_n 2, 1) := by decide +kernel
theorem dX3_manyOf_34 : decode cX3_manyOf 34 = .ok (.if_icmp .ne 7, 3) := by decide +kernel
theorem dX3_manyOf_37 : decode cX3_manyOf 37 = .ok (.iconst 1, 1) := by decide +kernel
theorem dX3_manyOf_38 : decode cX3_manyOf 38 = .ok (.goto 4, 3) := by decide +kernel
theorem dX3_manyOf_41 : decode cX3_manyOf 41 = .ok (.iconst 0, 1) := by decide +kernel
theorem dX3_manyOf_42 : decode cX3_manyOf 42 = .ok (.iadd, 1) := by decide +kernel
theorem dX3_manyOf_43 : decode cX3_manyOf 43 = .ok (.istore_n 3, 1) := by decide +kernel
theorem dX3_manyOf_44 : decode cX3_manyOf 44 = .ok (.iinc 4 1, 3) := by decide +kernel
theorem dX3_manyOf_47 : decode cX3_manyOf 47 = .ok (.goto (-42), 3) := by decide +kernel
theorem dX3_manyOf_50 : decode cX3_manyOf 50 = .ok (.iload_n 3, 1) := by decide +kernel
theorem dX3_manyOf_51 : decode cX3_manyOf 51 = .ok (.ireturn, 1) := by decide +kernel
theorem dX3_ends_0 : decode cX3_ends 0 = .ok (.aload_n 0, 1) := by decide +kernel
theorem dX3_ends_1 : decode cX3_ends 1 = .ok (.getfield 52, 3) := by decide +kernel
theorem dX3_ends_4 : decode cX3_ends 4 = .ok (.iload_n 1, 1) := by decide +kernel
theorem dX3_ends_5 : decode cX3_ends 5 = .ok (.iload_n 2, 1) := by decide +kernel
theorem dX3_ends_6 : decode cX3_ends 6 = .ok (.iastore, 1) := by decide +kernel
theorem dX3_ends_7 : decode cX3_ends 7 = .ok (.aload_n 0, 1) := by decide +kernel
theorem dX3_ends_8 : decode cX3_ends 8 = .ok (.getfield 58, 3) := by decide +kernel
theorem dX3_ends_11 : decode cX3_ends 11 = .ok (.iload_n 1, 1) := by decide +kernel
theorem dX3_ends_12 : decode cX3_ends 12 = .ok (.aload_n 0, 1) := by decide +kernel
theorem dX3_ends_13 : decode cX3_ends 13 = .ok (.getfield 101, 3) := by decide +kernel
theorem dX3_ends_16 : decode cX3_ends 16 = .ok (.iastore, 1) := by decide +kernel
theorem dX3_ends_17 : decode cX3_ends 17 = .ok (.iconst 0, 1) := by decide +kernel
theorem dX3_ends_18 : decode cX3_ends 18 = .ok (.istore_n 3, 1) := by decide +kernel
theorem dX3_ends_19 : decode cX3_ends 19 = .ok (.iload_n 1, 1) := by decide +kernel
theorem dX3_ends_20 : decode cX3_ends 20 = .ok (.iconst 1, 1) := by decide +kernel
theorem dX3_ends_21 : decode cX3_ends 21 = .ok (.iadd, 1) := by decide +kernel
theorem dX3_ends_22 : decode cX3_ends 22 = .ok (.istore 4, 2) := by decide +kernel
theorem dX3_ends_24 : decode cX3_ends 24 = .ok (.iload 4, 2) := by decide +kernel
theorem dX3_ends_26 : decode cX3_ends 26 = .ok (.aload_n 0, 1) := by decide +kernel
theorem dX3_ends_27 : decode cX3_ends 27 = .ok (.getfield 94, 3) := by decide +kernel
theorem dX3_ends_30 : decode cX3_ends 30 = .ok (.if_icmp .ge 66, 3) := by decide +kernel
theorem dX3_ends_33 : decode cX3_ends 33 = .ok (.aload_n 0, 1) := by decide +kernel
theorem dX3_ends_34 : decode cX3_ends 34 = .ok (.iload 4, 2) := by decide +kernel
theorem dX3_ends_36 : decode cX3_ends 36 = .ok (.invokevirtual 104, 3) := by decide +kernel
theorem dX3_ends_39 : decode cX3_ends 39 = .ok (.ifCond .ne 51, 3) := by decide +kernel
theorem dX3_ends_42 : decode cX3_ends 42 = .ok (.aload_n 0, 1) := by decide +kernel
theorem dX3_ends_43 : decode cX3_ends 43 = .ok (.getfield 49, 3) := by decide +kernel
theorem dX3_ends_46 : decode cX3_ends 46 = .ok (.iload 4, 2) := by decide +kernel
theorem dX3_ends_48 : decode cX3_ends 48 = .ok (.iaload, 1) := by decide +kernel
theorem dX3_ends_49 : decode cX3_ends 49 = .ok (.iconst (-1), 1) := by decide +kernel
theorem dX3_ends_50 : decode cX3_ends 50 = .ok (.if_icmp .eq 40, 3) := by decide +kernel
theorem dX3_ends_53 : decode cX3_ends 53 = .ok (.aload_n 0, 1) := by decide +kernel
theorem dX3_ends_54 : decode cX3_ends 54 = .ok (.aload_n 0, 1) := by decide +kernel
theorem dX3_ends_55 : decode cX3_ends 55 = .ok (.getfield 49, 3) := by decide +kernel
theorem dX3_ends_58 : decode cX3_ends 58 = .ok (.iload 4, 2) := by decide +kernel
theorem dX3_ends_60 : decode cX3_ends 60 = .ok (.iaload, 1) := by decide +kernel
theorem dX3_ends_61 : decode cX3_ends 61 = .ok (.invokevirtual 104, 3) := by decide +kernel
theorem dX3_ends_64 : decode cX3_ends 64 = .ok (.ifCond .eq 26, 3) := by decide +kernel
theorem dX3_ends_67 : decode cX3_ends 67 = .ok (.aload_n 0, 1) := by decide +kernel
theorem dX3_ends_68 : decode cX3_ends 68 = .ok (.getfield 52, 3) := by decide +kernel
theorem dX3_ends_71 : decode cX3_ends 71 = .ok (.iload 4, 2) := by decide +kernel
theorem dX3_ends_73 : decode cX3_ends 73 = .ok (.bipush 7, 2) := by decide +kernel
theorem dX3_ends_75 : decode cX3_ends 75 = .ok (.iastore, 1) := by decide +kernel
theorem dX3_ends_76 : decode cX3_ends 76 = .ok (.aload_n 0, 1) := by decide +kernel
theorem dX3_ends_77 : decode cX3_ends 77 = .ok (.getfield 58, 3) := by decide +kernel
theorem dX3_ends_80 : decode cX3_ends 80 = .ok (.iload 4, 2) := by decide +kernel
theorem dX3_ends_82 : decode cX3_ends 82 = .ok (.aload_n 0, 1) := by decide +kernel
theorem dX3_ends_83 : decode cX3_ends 83 = .ok (.getfield 101, 3) := by decide +kernel
theorem dX3_ends_86 : decode cX3_ends 86 = .ok (.iastore, 1) := by decide +kernel
theorem dX3_ends_87 : decode cX3_ends 87 = .ok (.iinc 3 1, 3) := by decide +kernel
theorem dX3_ends_90 : decode cX3_ends 90 = .ok (.iinc 4 1, 3) := by decide +kernel
theorem dX3_ends_93 : decode cX3_ends 93 = .ok (.goto (-69), 3) := by decide +kernel
theorem dX3_ends_96 : decode cX3_ends 96 = .ok (.aload_n 0, 1) := by decide +kernel
theorem dX3_ends_97 : decode cX3_ends 97 = .ok (.getfield 43, 3) := by decide +kernel
theorem dX3_ends_100 : decode cX3_ends 100 = .ok (.iload_n 1, 1) := by decide +kernel
theorem dX3_ends_101 : decode cX3_ends 101 = .ok (.iaload, 1) := by decide +kernel
theorem dX3_ends_102 : decode cX3_ends 102 = .ok (.istore 4, 2) := by decide +kernel
theorem dX3_ends_104 : decode cX3_ends 104 = .ok (.iload_n 2, 1) := by decide +kernel
theorem dX3_ends_105 : decode cX3_ends 105 = .ok (.iconst 3, 1) := by decide +kernel
theorem dX3_ends_106 : decode cX3_ends 106 = .ok (.if_icmp .ne 38, 3) := by decide +kernel
theorem dX3_ends_109 : decode cX3_ends 109 = .ok (.aload_n 0, 1) := by decide +kernel
theorem dX3_ends_110 : decode cX3_ends 110 = .ok (.getfield 34, 3) := by decide +kernel
theorem dX3_ends_113 : decode cX3_ends 113 = .ok (.iload 4, 2) := by decide +kernel
theorem dX3_ends_115 : decode cX3_ends 115 = .ok (.dup2, 1) := by decide +kernel
theorem dX3_ends_116 : decode cX3_ends 116 = .ok (.iaload, 1) := by decide +kernel
theorem dX3_ends_117 : decode cX3_ends 117 = .ok (.aload_n 0, 1) := by decide +kernel
theorem dX3_ends_118 : decode cX3_ends 118 = .ok (.getfield 34, 3) := by decide +kernel
theorem dX3_ends_121 : decode cX3_ends 121 = .ok (.iload 4, 2) := by decide +kernel
theorem dX3_ends_123 : decode cX3_ends 123 = .ok (.iaload, 1) := by decide +kernel
theorem dX3_ends_124 : decode cX3_ends 124 = .ok (.bipush 50, 2) := by decide +kernel
theorem dX3_ends_126 : decode cX3_ends 126 = .ok (.if_icmp .ge 7, 3) := by decide +kernel
theorem dX3_ends_129 : decode cX3_ends 129 = .ok (.iconst 1, 1) := by decide +kernel
theorem dX3_ends_130 : decode cX3_ends 130 = .ok (.goto 4, 3) := by decide +kernel
theorem dX3_ends_133 : decode cX3_ends 133 = .ok (.iconst 0, 1) := by decide +kernel
theorem dX3_ends_134 : decode cX3_ends 134 = .ok (.iadd, 1) := by decide +kernel
theorem dX3_ends_135 : decode cX3_ends 135 = .ok (.iastore, 1) := by decide +kernel
theorem dX3_ends_136 : decode cX3_ends 136 = .ok (.aload_n 0, 1) := by decide +kernel
theorem dX3_ends_137 : decode cX3_ends 137 = .ok (.getfield 37, 3) := by decide +kernel
theorem dX3_ends_140 : decode cX3_ends 140 = .ok (.iload 4, 2) := by decide +kernel
theorem dX3_ends_142 : decode cX3_ends 142 = .ok (.iconst 0, 1) := by decide +kernel
theorem dX3_ends_143 : decode cX3_ends 143 = .ok (.iastore, 1) := by decide +kernel
theorem dX3_ends_144 : decode cX3_ends 144 = .ok (.iload_n 3, 1) := by decide +kernel
theorem dX3_ends_145 : decode cX3_ends 145 = .ok (.ireturn, 1) := by decide +kernel
theorem dX3_counts_0 : decode cX3_counts 0 = .ok (.aload_n 0, 1) := by decide +kernel
theorem dX3_counts_1 : decode cX3_counts 1 = .ok (.getfield 37, 3) := by decide +kernel
theorem dX3_counts_4 : decode cX3_counts 4 = .ok (.iload_n 1, 1) := by decide +kernel
theorem dX3_counts_5 : decode cX3_counts 5 = .ok (.dup2, 1) := by decide +kernel
theorem dX3_counts_6 : decode cX3_counts 6 = .ok (.iaload, 1) := by decide +kernel
theorem dX3_counts_7 : decode cX3_counts 7 = .ok (.iconst 1, 1) := by decide +kernel
theorem dX3_counts_8 : decode cX3_counts 8 = .ok (.iadd, 1) := by decide +kernel
theorem dX3_counts_9 : decode cX3_counts 9 = .ok (.iastore, 1) := by decide +kernel
theorem dX3_counts_10 : decode cX3_counts 10 = .ok (.aload_n 0, 1) := by decide +kernel
theorem dX3_counts_11 : decode cX3_counts 11 = .ok (.getfield 37, 3) := by decide +kernel
theorem dX3_counts_14 : decode cX3_counts 14 = .ok (.iload_n 1, 1) := by decide +kernel
theorem dX3_counts_15 : decode cX3_counts 15 = .ok (.iaload, 1) := by decide +kernel
theorem dX3_counts_16 : decode cX3_counts 16 = .ok (.iconst 3, 1) := by decide +kernel
theorem dX3_counts_17 : decode cX3_counts 17 = .ok (.if_icmp .ne 23, 3) := by decide +kernel
theorem dX3_counts_20 : decode cX3_counts 20 = .ok (.aload_n 0, 1) := by decide +kernel
theorem dX3_counts_21 : decode cX3_counts 21 = .ok (.getfield 37, 3) := by decide +kernel
theorem dX3_counts_24 : decode cX3_counts 24 = .ok (.iload_n 1, 1) := by decide +kernel
theorem dX3_counts_25 : decode cX3_counts 25 = .ok (.iconst 0, 1) := by decide +kernel
theorem dX3_counts_26 : decode cX3_counts 26 = .ok (.iastore, 1) := by decide +kernel
theorem dX3_counts_27 : decode cX3_counts 27 = .ok (.aload_n 0, 1) := by decide +kernel
theorem dX3_counts_28 : decode cX3_counts 28 = .ok (.getfield 40, 3) := by decide +kernel
theorem dX3_counts_31 : decode cX3_counts 31 = .ok (.iload_n 1, 1) := by decide +kernel
theorem dX3_counts_32 : decode cX3_counts 32 = .ok (.aload_n 0, 1) := by decide +kernel
theorem dX3_counts_33 : decode cX3_counts 33 = .ok (.getfield 101, 3) := by decide +kernel
theorem dX3_counts_36 : decode cX3_counts 36 = .ok (.bipush 20, 2) := by decide +kernel
theorem dX3_counts_38 : decode cX3_counts 38 = .ok (.iadd, 1) := by decide +kernel
theorem dX3_counts_39 : decode cX3_counts 39 = .ok (.iastore, 1) := by decide +kernel
theorem dX3_counts_40 : decode cX3_counts 40 = .ok (.return_, 1) := by decide +kernel
theorem dX3_isOpenNow_0 : decode cX3_isOpenNow 0 = .ok (.aload_n 0, 1) := by decide +kernel
theorem dX3_isOpenNow_1 : decode cX3_isOpenNow 1 = .ok (.getfield 101, 3) := by decide +kernel
theorem dX3_isOpenNow_4 : decode cX3_isOpenNow 4 = .ok (.aload_n 0, 1) := by decide +kernel
theorem dX3_isOpenNow_5 : decode cX3_isOpenNow 5 = .ok (.getfield 40, 3) := by decide +kernel
theorem dX3_isOpenNow_8 : decode cX3_isOpenNow 8 = .ok (.iload_n 1, 1) := by decide +kernel
theorem dX3_isOpenNow_9 : decode cX3_isOpenNow 9 = .ok (.iaload, 1) := by decide +kernel
theorem dX3_isOpenNow_10 : decode cX3_isOpenNow 10 = .ok (.if_icmp .ge 7, 3) := by decide +kernel
theorem dX3_isOpenNow_13 : decode cX3_isOpenNow 13 = .ok (.iconst 1, 1) := by decide +kernel
theorem dX3_isOpenNow_14 : decode cX3_isOpenNow 14 = .ok (.goto 4, 3) := by decide +kernel
theorem dX3_isOpenNow_17 : decode cX3_isOpenNow 17 = .ok (.iconst 0, 1) := by decide +kernel
theorem dX3_isOpenNow_18 : decode cX3_isOpenNow 18 = .ok (.ireturn, 1) := by decide +kernel
theorem dX3_works_0 : decode cX3_works 0 = .ok (.aload_n 0, 1) := by decide +kernel
theorem dX3_works_1 : decode cX3_works 1 = .ok (.getfield 52, 3) := by decide +kernel
theorem dX3_works_4 : decode cX3_works 4 = .ok (.iload_n 1, 1) := by decide +kernel
theorem dX3_works_5 : decode cX3_works 5 = .ok (.iconst 1, 1) := by decide +kernel
theorem dX3_works_6 : decode cX3_works 6 = .ok (.iastore, 1) := by decide +kernel
theorem dX3_works_7 : decode cX3_works 7 = .ok (.aload_n 0, 1) := by decide +kernel
theorem dX3_works_8 : decode cX3_works 8 = .ok (.getfield 55, 3) := by decide +kernel
theorem dX3_works_11 : decode cX3_works 11 = .ok (.iload_n 1, 1) := by decide +kernel
theorem dX3_works_12 : decode cX3_works 12 = .ok (.aload_n 0, 1) := by decide +kernel
theorem dX3_works_13 : decode cX3_works 13 = .ok (.getfield 101, 3) := by decide +kernel
theorem dX3_works_16 : decode cX3_works 16 = .ok (.aload_n 0, 1) := by decide +kernel
theorem dX3_works_17 : decode cX3_works 17 = .ok (.getfield 7, 3) := by decide +kernel
theorem dX3_works_20 : decode cX3_works 20 = .ok (.aload_n 0, 1) := by decide +kernel
theorem dX3_works_21 : decode cX3_works 21 = .ok (.getfield 43, 3) := by decide +kernel
theorem dX3_works_24 : decode cX3_works 24 = .ok (.iload_n 1, 1) := by decide +kernel
theorem dX3_works_25 : decode cX3_works 25 = .ok (.iaload, 1) := by decide +kernel
theorem dX3_works_26 : decode cX3_works 26 = .ok (.iaload, 1) := by decide +kernel
theorem dX3_works_27 : decode cX3_works 27 = .ok (.iadd, 1) := by decide +kernel
theorem dX3_works_28 : decode cX3_works 28 = .ok (.iastore, 1) := by decide +kernel
theorem dX3_works_29 : decode cX3_works 29 = .ok (.return_, 1) := by decide +kernel
theorem dX3_begins_0 : decode cX3_begins 0 = .ok (.aload_n 0, 1) := by decide +kernel
theorem dX3_begins_1 : decode cX3_begins 1 = .ok (.getfield 94, 3) := by decide +kernel
theorem dX3_begins_4 : decode cX3_begins 4 = .ok (.istore 4, 2) := by decide +kernel
theorem dX3_begins_6 : decode cX3_begins 6 = .ok (.aload_n 0, 1) := by decide +kernel
theorem dX3_begins_7 : decode cX3_begins 7 = .ok (.dup, 1) := by decide +kernel
theorem dX3_begins_8 : decode cX3_begins 8 = .ok (.getfield 94, 3) := by decide +kernel
theorem dX3_begins_11 : decode cX3_begins 11 = .ok (.iconst 1, 1) := by decide +kernel
theorem dX3_begins_12 : decode cX3_begins 12 = .ok (.iadd, 1) := by decide +kernel
theorem dX3_begins_13 : decode cX3_begins 13 = .ok (.putfield 94, 3) := by decide +kernel
theorem dX3_begins_16 : decode cX3_begins 16 = .ok (.aload_n 0, 1) := by decide +kernel
theorem dX3_begins_17 : decode cX3_begins 17 = .ok (.getfield 43, 3) := by decide +kernel
theorem dX3_begins_20 : decode cX3_begins 20 = .ok (.iload 4, 2) := by decide +kernel
theorem dX3_begins_22 : decode cX3_begins 22 = .ok (.iload_n 1, 1) := by decide +kernel
theorem dX3_begins_23 : decode cX3_begins 23 = .ok (.iastore, 1) := by decide +kernel
theorem dX3_begins_24 : decode cX3_begins 24 = .ok (.aload_n 0, 1) := by decide +kernel
theorem dX3_begins_25 : decode cX3_begins 25 = .ok (.getfield 46, 3) := by decide +kernel
theorem dX3_begins_28 : decode cX3_begins 28 = .ok (.iload 4, 2) := by decide +kernel
theorem dX3_begins_30 : decode cX3_begins 30 = .ok (.iload_n 2, 1) := by decide +kernel
theorem dX3_begins_31 : decode cX3_begins 31 = .ok (.iastore, 1) := by decide +kernel
theorem dX3_begins_32 : decode cX3_begins 32 = .ok (.aload_n 0, 1) := by decide +kernel
theorem dX3_begins_33 : decode cX3_begins 33 = .ok (.getfield 49, 3) := by decide +kernel
theorem dX3_begins_36 : decode cX3_begins 36 = .ok (.iload 4, 2) := by decide +kernel
theorem dX3_begins_38 : decode cX3_begins 38 = .ok (.iload_n 3, 1) := by decide +kernel
theorem dX3_begins_39 : decode cX3_begins 39 = .ok (.iastore, 1) := by decide +kernel
theorem dX3_begins_40 : decode cX3_begins 40 = .ok (.aload_n 0, 1) := by decide +kernel
theorem dX3_begins_41 : decode cX3_begins 41 = .ok (.getfield 61, 3) := by decide +kernel
theorem dX3_begins_44 : decode cX3_begins 44 = .ok (.iload 4, 2) := by decide +kernel
theorem dX3_begins_46 : decode cX3_begins 46 = .ok (.aload_n 0, 1) := by decide +kernel
theorem dX3_begins_47 : decode cX3_begins 47 = .ok (.getfield 101, 3) := by decide +kernel
theorem dX3_begins_50 : decode cX3_begins 50 = .ok (.iastore, 1) := by decide +kernel
theorem dX3_begins_51 : decode cX3_begins 51 = .ok (.aload_n 0, 1) := by decide +kernel
theorem dX3_begins_52 : decode cX3_begins 52 = .ok (.getfield 64, 3) := by decide +kernel
theorem dX3_begins_55 : decode cX3_begins 55 = .ok (.iload 4, 2) := by decide +kernel
theorem dX3_begins_57 : decode cX3_begins 57 = .ok (.iload_n 3, 1) := by decide +kernel
theorem dX3_begins_58 : decode cX3_begins 58 = .ok (.iconst (-1), 1) := by decide +kernel
theorem dX3_begins_59 : decode cX3_begins 59 = .ok (.if_icmp .ne 7, 3) := by decide +kernel
theorem dX3_begins_62 : decode cX3_begins 62 = .ok (.iconst 0, 1) := by decide +kernel
theorem dX3_begins_63 : decode cX3_begins 63 = .ok (.goto 9, 3) := by decide +kernel
theorem dX3_begins_66 : decode cX3_begins 66 = .ok (.aload_n 0, 1) := by decide +kernel
theorem dX3_begins_67 : decode cX3_begins 67 = .ok (.getfield 73, 3) := by decide +kernel
theorem dX3_begins_70 : decode cX3_begins 70 = .ok (.iload_n 3, 1) := by decide +kernel
theorem dX3_begins_71 : decode cX3_begins 71 = .ok (.iaload, 1) := by decide +kernel
theorem dX3_begins_72 : decode cX3_begins 72 = .ok (.iastore, 1) := by decide +kernel
theorem dX3_begins_73 : decode cX3_begins 73 = .ok (.aload_n 0, 1) := by decide +kernel
theorem dX3_begins_74 : decode cX3_begins 74 = .ok (.getfield 58, 3) := by decide +kernel
theorem dX3_begins_77 : decode cX3_begins 77 = .ok (.iload 4, 2) := by decide +kernel
theorem dX3_begins_79 : decode cX3_begins 79 = .ok (.iconst (-1), 1) := by decide +kernel
theorem dX3_begins_80 : decode cX3_begins 80 = .ok (.iastore, 1) := by decide +kernel
theorem dX3_begins_81 : decode cX3_begins 81 = .ok (.aload_n 0, 1) := by decide +kernel
theorem dX3_begins_82 : decode cX3_begins 82 = .ok (.getfield 79, 3) := by decide +kernel
theorem dX3_begins_85 : decode cX3_begins 85 = .ok (.iload 4, 2) := by decide +kernel
theorem dX3_begins_87 : decode cX3_begins 87 = .ok (.iconst 0, 1) := by decide +kernel
theorem dX3_begins_88 : decode cX3_begins 88 = .ok (.bastore, 1) := by decide +kernel
theorem dX3_begins_89 : decode cX3_begins 89 = .ok (.aload_n 0, 1) := by decide +kernel
theorem dX3_begins_90 : decode cX3_begins 90 = .ok (.getfield 52, 3) := by decide +kernel
theorem dX3_begins_93 : decode cX3_begins 93 = .ok (.iload 4, 2) := by decide +kernel
theorem dX3_begins_95 : decode cX3_begins 95 = .ok (.iconst 3, 1) := by decide +kernel
theorem dX3_begins_96 : decode cX3_begins 96 = .ok (.iastore, 1) := by decide +kernel
theorem dX3_begins_97 : decode cX3_begins 97 = .ok (.aload_n 0, 1) := by decide +kernel
theorem dX3_begins_98 : decode cX3_begins 98 = .ok (.iload_n 1, 1) := by decide +kernel
theorem dX3_begins_99 : decode cX3_begins 99 = .ok (.iconst 1, 1) := by decide +kernel
theorem dX3_begins_100 : decode cX3_begins 100 = .ok (.invokevirtual 107, 3) := by decide +kernel
theorem dX3_begins_103 : decode cX3_begins 103 = .ok (.istore 5, 2) := by decide +kernel
theorem dX3_begins_105 : decode cX3_begins 105 = .ok (.aload_n 0, 1) := by decide +kernel
theorem dX3_begins_106 : decode cX3_begins 106 = .ok (.iload_n 1, 1) := by decide +kernel
theorem dX3_begins_107 : decode cX3_begins 107 = .ok (.iconst 0, 1) := by decide +kernel
theorem dX3_begins_108 : decode cX3_begins 108 = .ok (.invokevirtual 107, 3) := by decide +kernel
theorem dX3_begins_111 : decode cX3_begins 111 = .ok (.istore 6, 2) := by decide +kernel
theorem dX3_begins_113 : decode cX3_begins 113 = .ok (.aload_n 0, 1) := by decide +kernel
theorem dX3_begins_114 : decode cX3_begins 114 = .ok (.iload_n 1, 1) := by decide +kernel
theorem dX3_begins_115 : decode cX3_begins 115 = .ok (.invokevirtual 111, 3) := by decide +kernel
theorem dX3_begins_118 : decode cX3_begins 118 = .ok (.ifCond .eq 14, 3) := by decide +kernel
theorem dX3_begins_121 : decode cX3_begins 121 = .ok (.aload_n 0, 1) := by decide +kernel
theorem dX3_begins_122 : decode cX3_begins 122 = .ok (.iload 4, 2) := by decide +kernel
theorem dX3_begins_124 : decode cX3_begins 124 = .ok (.iconst 4, 1) := by decide +kernel
theorem dX3_begins_125 : decode cX3_begins 125 = .ok (.invokevirtual 114, 3) := by decide +kernel
theorem dX3_begins_128 : decode cX3_begins 128 = .ok (.pop, 1) := by decide +kernel
theorem dX3_begins_129 : decode cX3_begins 129 = .ok (.goto 81, 3) := by decide +kernel
theorem dX3_begins_132 : decode cX3_begins 132 = .ok (.iload_n 2, 1) := by decide +kernel
theorem dX3_begins_133 : decode cX3_begins 133 = .ok (.aload_n 0, 1) := by decide +kernel
theorem dX3_begins_134 : decode cX3_begins 134 = .ok (.getfield 101, 3) := by decide +kernel
theorem dX3_begins_137 : decode cX3_begins 137 = .ok (.isub, 1) := by decide +kernel
theorem dX3_begins_138 : decode cX3_begins 138 = .ok (.aload_n 0, 1) := by decide +kernel
theorem dX3_begins_139 : decode cX3_begins 139 = .ok (.getfield 7, 3) := by decide +kernel
theorem dX3_begins_142 : decode cX3_begins 142 = .ok (.iload_n 1, 1) := by decide +kernel
theorem dX3_begins_143 : decode cX3_begins 143 = .ok (.iaload, 1) := by decide +kernel
theorem dX3_begins_144 : decode cX3_begins 144 = .ok (.if_icmp .ge 15, 3) := by decide +kernel
theorem dX3_begins_147 : decode cX3_begins 147 = .ok (.aload_n 0, 1) := by decide +kernel
theorem dX3_begins_148 : decode cX3_begins 148 = .ok (.iload 4, 2) := by decide +kernel
theorem dX3_begins_150 : decode cX3_begins 150 = .ok (.bipush 6, 2) := by decide +kernel
theorem dX3_begins_152 : decode cX3_begins 152 = .ok (.invokevirtual 114, 3) := by decide +kernel
theorem dX3_begins_155 : decode cX3_begins 155 = .ok (.pop, 1) := by decide +kernel
theorem dX3_begins_156 : decode cX3_begins 156 = .ok (.goto 54, 3) := by decide +kernel
theorem dX3_begins_159 : decode cX3_begins 159 = .ok (.iload 5, 2) := by decide +kernel
theorem dX3_begins_161 : decode cX3_begins 161 = .ok (.aload_n 0, 1) := by decide +kernel
theorem dX3_begins_162 : decode cX3_begins 162 = .ok (.getfield 25, 3) := by decide +kernel
theorem dX3_begins_165 : decode cX3_begins 165 = .ok (.iload_n 1, 1) := by decide +kernel
theorem dX3_begins_166 : decode cX3_begins 166 = .ok (.iaload, 1) := by decide +kernel
theorem dX3_begins_167 : decode cX3_begins 167 = .ok (.if_icmp .ge 12, 3) := by decide +kernel
theorem dX3_begins_170 : decode cX3_begins 170 = .ok (.aload_n 0, 1) := by decide +kernel
theorem dX3_begins_171 : decode cX3_begins 171 = .ok (.iload 4, 2) := by decide +kernel
theorem dX3_begins_173 : decode cX3_begins 173 = .ok (.invokevirtual 117, 3) := by decide +kernel
theorem dX3_begins_176 : decode cX3_begins 176 = .ok (.goto 34, 3) := by decide +kernel
theorem dX3_begins_179 : decode cX3_begins 179 = .ok (.iload 6, 2) := by decide +kernel
theorem dX3_begins_181 : decode cX3_begins 181 = .ok (.aload_n 0, 1) := by decide +kernel
theorem dX3_begins_182 : decode cX3_begins 182 = .ok (.getfield 28, 3) := by decide +kernel
theorem dX3_begins_185 : decode cX3_begins 185 = .ok (.iload_n 1, 1) := by decide +kernel
theorem dX3_begins_186 : decode cX3_begins 186 = .ok (.iaload, 1) := by decide +kernel
theorem dX3_begins_187 : decode cX3_begins 187 = .ok (.if_icmp .ge 14, 3) := by decide +kernel
theorem dX3_begins_190 : decode cX3_begins 190 = .ok (.aload_n 0, 1) := by decide +kernel
theorem dX3_begins_191 : decode cX3_begins 191 = .ok (.getfield 52, 3) := by decide +kernel
theorem dX3_begins_194 : decode cX3_begins 194 = .ok (.iload 4, 2) := by decide +kernel
theorem dX3_begins_196 : decode cX3_begins 196 = .ok (.iconst 0, 1) := by decide +kernel
theorem dX3_begins_197 : decode cX3_begins 197 = .ok (.iastore, 1) := by decide +kernel
theorem dX3_begins_198 : decode cX3_begins 198 = .ok (.goto 12, 3) := by decide +kernel
theorem dX3_begins_201 : decode cX3_begins 201 = .ok (.aload_n 0, 1) := by decide +kernel
theorem dX3_begins_202 : decode cX3_begins 202 = .ok (.iload 4, 2) := by decide +kernel
theorem dX3_begins_204 : decode cX3_begins 204 = .ok (.bipush 6, 2) := by decide +kernel
theorem dX3_begins_206 : decode cX3_begins 206 = .ok (.invokevirtual 114, 3) := by decide +kernel
theorem dX3_begins_209 : decode cX3_begins 209 = .ok (.pop, 1) := by decide +kernel
theorem dX3_begins_210 : decode cX3_begins 210 = .ok (.return_, 1) := by decide +kernel
theorem dX3_call_0 : decode cX3_call 0 = .ok (.aload_n 0, 1) := by decide +kernel
theorem dX3_call_1 : decode cX3_call 1 = .ok (.iload_n 1, 1) := by decide +kernel
theorem dX3_call_2 : decode cX3_call 2 = .ok (.invokestatic 97, 3) := by decide +kernel
theorem dX3_call_5 : decode cX3_call 5 = .ok (.ifCond .ne 7, 3) := by decide +kernel
theorem dX3_call_8 : decode cX3_call 8 = .ok (.iconst 1, 1) := by decide +kernel
theorem dX3_call_9 : decode cX3_call 9 = .ok (.goto 32, 3) := by decide +kernel
theorem dX3_call_12 : decode cX3_call 12 = .ok (.iload_n 2, 1) := by decide +kernel
theorem dX3_call_13 : decode cX3_call 13 = .ok (.iconst 1, 1) := by decide +kernel
theorem dX3_call_14 : decode cX3_call 14 = .ok (.bipush 100, 2) := by decide +kernel
theorem dX3_call_16 : decode cX3_call 16 = .ok (.invokestatic 90, 3) := by decide +kernel
theorem dX3_call_19 : decode cX3_call 19 = .ok (.ifCond .ne 7, 3) := by decide +kernel
theorem dX3_call_22 : decode cX3_call 22 = .ok (.iconst 2, 1) := by decide +kernel
theorem dX3_call_23 : decode cX3_call 23 = .ok (.goto 18, 3) := by decide +kernel
theorem dX3_call_26 : decode cX3_call 26 = .ok (.aload_n 0, 1) := by decide +kernel
theorem dX3_call_27 : decode cX3_call 27 = .ok (.getfield 94, 3) := by decide +kernel
theorem dX3_call_30 : decode cX3_call 30 = .ok (.sipush 200, 3) := by decide +kernel
theorem dX3_call_33 : decode cX3_call 33 = .ok (.if_icmp .ne 7, 3) := by decide +kernel
theorem dX3_call_36 : decode cX3_call 36 = .ok (.iconst 3, 1) := by decide +kernel
theorem dX3_call_37 : decode cX3_call 37 = .ok (.goto 4, 3) := by decide +kernel
theorem dX3_call_40 : decode cX3_call 40 = .ok (.iconst 0, 1) := by decide +kernel
theorem dX3_call_41 : decode cX3_call 41 = .ok (.putfield 86, 3) := by decide +kernel
theorem dX3_call_44 : decode cX3_call 44 = .ok (.aload_n 0, 1) := by decide +kernel
theorem dX3_call_45 : decode cX3_call 45 = .ok (.getfield 86, 3) := by decide +kernel
theorem dX3_call_48 : decode cX3_call 48 = .ok (.ifCond .le 5, 3) := by decide +kernel
theorem dX3_call_51 : decode cX3_call 51 = .ok (.iconst 0, 1) := by decide +kernel
theorem dX3_call_52 : decode cX3_call 52 = .ok (.ireturn, 1) := by decide +kernel
theorem dX3_call_53 : decode cX3_call 53 = .ok (.aload_n 0, 1) := by decide +kernel
theorem dX3_call_54 : decode cX3_call 54 = .ok (.iload_n 1, 1) := by decide +kernel
theorem dX3_call_55 : decode cX3_call 55 = .ok (.aload_n 0, 1) := by decide +kernel
theorem dX3_call_56 : decode cX3_call 56 = .ok (.getfield 101, 3) := by decide +kernel
theorem dX3_call_59 : decode cX3_call 59 = .ok (.iload_n 2, 1) := by decide +kernel
theorem dX3_call_60 : decode cX3_call 60 = .ok (.iadd, 1) := by decide +kernel
theorem dX3_call_61 : decode cX3_call 61 = .ok (.iconst (-1), 1) := by decide +kernel
theorem dX3_call_62 : decode cX3_call 62 = .ok (.invokevirtual 121, 3) := by decide +kernel
theorem dX3_call_65 : decode cX3_call 65 = .ok (.aload_n 0, 1) := by decide +kernel
theorem dX3_call_66 : decode cX3_call 66 = .ok (.getfield 94, 3) := by decide +kernel
theorem dX3_call_69 : decode cX3_call 69 = .ok (.iconst 1, 1) := by decide +kernel
theorem dX3_call_70 : decode cX3_call 70 = .ok (.isub, 1) := by decide +kernel
theorem dX3_call_71 : decode cX3_call 71 = .ok (.ireturn, 1) := by decide +kernel
theorem dX3_cancel_0 : decode cX3_cancel 0 = .ok (.aload_n 0, 1) := by decide +kernel
theorem dX3_cancel_1 : decode cX3_cancel 1 = .ok (.aload_n 0, 1) := by decide +kernel
theorem dX3_cancel_2 : decode cX3_cancel 2 = .ok (.iload_n 1, 1) := by decide +kernel
theorem dX3_cancel_3 : decode cX3_cancel 3 = .ok (.invokevirtual 125, 3) := by decide +kernel
theorem dX3_cancel_6 : decode cX3_cancel 6 = .ok (.ifCond .ne 7, 3) := by decide +kernel
theorem dX3_cancel_9 : decode cX3_cancel 9 = .ok (.iconst 1, 1) := by decide +kernel
theorem dX3_cancel_10 : decode cX3_cancel 10 = .ok (.goto 26, 3) := by decide +kernel
theorem dX3_cancel_13 : decode cX3_cancel 13 = .ok (.aload_n 0, 1) := by decide +kernel
theorem dX3_cancel_14 : decode cX3_cancel 14 = .ok (.iload_n 1, 1) := by decide +kernel
theorem dX3_cancel_15 : decode cX3_cancel 15 = .ok (.invokevirtual 104, 3) := by decide +kernel
theorem dX3_cancel_18 : decode cX3_cancel 18 = .ok (.ifCond .ne 13, 3) := by decide +kernel
theorem dX3_cancel_21 : decode cX3_cancel 21 = .ok (.aload_n 0, 1) := by decide +kernel
theorem dX3_cancel_22 : decode cX3_cancel 22 = .ok (.getfield 49, 3) := by decide +kernel
theorem dX3_cancel_25 : decode cX3_cancel 25 = .ok (.iload_n 1, 1) := by decide +kernel
theorem dX3_cancel_26 : decode cX3_cancel 26 = .ok (.iaload, 1) := by decide +kernel
theorem dX3_cancel_27 : decode cX3_cancel 27 = .ok (.iconst (-1), 1) := by decide +kernel
theorem dX3_cancel_28 : decode cX3_cancel 28 = .ok (.if_icmp .eq 7, 3) := by decide +kernel
theorem dX3_cancel_31 : decode cX3_cancel 31 = .ok (.iconst 2, 1) := by decide +kernel
theorem dX3_cancel_32 : decode cX3_cancel 32 = .ok (.goto 4, 3) := by decide +kernel
theorem dX3_cancel_35 : decode cX3_cancel 35 = .ok (.iconst 0, 1) := by decide +kernel
theorem dX3_cancel_36 : decode cX3_cancel 36 = .ok (.putfield 86, 3) := by decide +kernel
theorem dX3_cancel_39 : decode cX3_cancel 39 = .ok (.aload_n 0, 1) := by decide +kernel
theorem dX3_cancel_40 : decode cX3_cancel 40 = .ok (.getfield 86, 3) := by decide +kernel
theorem dX3_cancel_43 : decode cX3_cancel 43 = .ok (.ifCond .le 7, 3) := by decide +kernel
theorem dX3_cancel_46 : decode cX3_cancel 46 = .ok (.iconst 0, 1) := by decide +kernel
theorem dX3_cancel_47 : decode cX3_cancel 47 = .ok (.goto 12, 3) := by decide +kernel
theorem dX3_cancel_50 : decode cX3_cancel 50 = .ok (.aload_n 0, 1) := by decide +kernel
theorem dX3_cancel_51 : decode cX3_cancel 51 = .ok (.iload_n 1, 1) := by decide +kernel
theorem dX3_cancel_52 : decode cX3_cancel 52 = .ok (.bipush 7, 2) := by decide +kernel
theorem dX3_cancel_54 : decode cX3_cancel 54 = .ok (.invokevirtual 114, 3) := by decide +kernel
theorem dX3_cancel_57 : decode cX3_cancel 57 = .ok (.iconst 1, 1) := by decide +kernel
theorem dX3_cancel_58 : decode cX3_cancel 58 = .ok (.iadd, 1) := by decide +kernel
theorem dX3_cancel_59 : decode cX3_cancel 59 = .ok (.ireturn, 1) := by decide +kernel
theorem dX3_late_0 : decode cX3_late 0 = .ok (.iconst 0, 1) := by decide +kernel
theorem dX3_late_1 : decode cX3_late 1 = .ok (.istore_n 1, 1) := by decide +kernel
theorem dX3_late_2 : decode cX3_late 2 = .ok (.iload_n 1, 1) := by decide +kernel
theorem dX3_late_3 : decode cX3_late 3 = .ok (.aload_n 0, 1) := by decide +kernel
theorem dX3_late_4 : decode cX3_late 4 = .ok (.getfield 94, 3) := by decide +kernel
theorem dX3_late_7 : decode cX3_late 7 = .ok (.if_icmp .ge 47, 3) := by decide +kernel
theorem dX3_late_10 : decode cX3_late 10 = .ok (.aload_n 0, 1) := by decide +kernel
theorem dX3_late_11 : decode cX3_late 11 = .ok (.iload_n 1, 1) := by decide +kernel
theorem dX3_late_12 : decode cX3_late 12 = .ok (.invokevirtual 104, 3) := by decide +kernel
theorem dX3_late_15 : decode cX3_late 15 = .ok (.ifCond .ne 33, 3) := by decide +kernel
theorem dX3_late_18 : decode cX3_late 18 = .ok (.aload_n 0, 1) := by decide +kernel
theorem dX3_late_19 : decode cX3_late 19 = .ok (.getfield 46, 3) := by decide +kernel
theorem dX3_late_22 : decode cX3_late 22 = .ok (.iload_n 1, 1) := by decide +kernel
theorem dX3_late_23 : decode cX3_late 23 = .ok (.iaload, 1) := by decide +kernel
theorem dX3_late_24 : decode cX3_late 24 = .ok (.aload_n 0, 1) := by decide +kernel
theorem dX3_late_25 : decode cX3_late 25 = .ok (.getfield 101, 3) := by decide +kernel
theorem dX3_late_28 : decode cX3_late 28 = .ok (.if_icmp .gt 20, 3) := by decide +kernel
theorem dX3_late_31 : decode cX3_late 31 = .ok (.aload_n 0, 1) := by decide +kernel
theorem dX3_late_32 : decode cX3_late 32 = .ok (.iload_n 1, 1) := by decide +kernel
theorem dX3_late_33 : decode cX3_late 33 = .ok (.iconst 5, 1) := by decide +kernel
theorem dX3_late_34 : decode cX3_late 34 = .ok (.invokevirtual 114, 3) := by decide +kernel
theorem dX3_late_37 : decode cX3_late 37 = .ok (.pop, 1) := by decide +kernel
theorem dX3_late_38 : decode cX3_late 38 = .ok (.aload_n 0, 1) := by decide +kernel
theorem dX3_late_39 : decode cX3_late 39 = .ok (.aload_n 0, 1) := by decide +kernel
theorem dX3_late_40 : decode cX3_late 40 = .ok (.getfield 43, 3) := by decide +kernel
theorem dX3_late_43 : decode cX3_late 43 = .ok (.iload_n 1, 1) := by decide +kernel
theorem dX3_late_44 : decode cX3_late 44 = .ok (.iaload, 1) := by decide +kernel
theorem dX3_late_45 : decode cX3_late 45 = .ok (.invokevirtual 128, 3) := by decide +kernel
theorem dX3_late_48 : decode cX3_late 48 = .ok (.iinc 1 1, 3) := by decide +kernel
theorem dX3_late_51 : decode cX3_late 51 = .ok (.goto (-49), 3) := by decide +kernel
theorem dX3_late_54 : decode cX3_late 54 = .ok (.return_, 1) := by decide +kernel
theorem dX3_startsAsking_0 : decode cX3_startsAsking 0 = .ok (.aload_n 0, 1) := by decide +kernel
theorem dX3_startsAsking_1 : decode cX3_startsAsking 1 = .ok (.getfield 43, 3) := by decide +kernel
theorem dX3_startsAsking_4 : decode cX3_startsAsking 4 = .ok (.iload_n 1, 1) := by decide +kernel
theorem dX3_startsAsking_5 : decode cX3_startsAsking 5 = .ok (.iaload, 1) := by decide +kernel
theorem dX3_startsAsking_6 : decode cX3_startsAsking 6 = .ok (.istore_n 2, 1) := by decide +kernel
theorem dX3_startsAsking_7 : decode cX3_startsAsking 7 = .ok (.aload_n 0, 1) := by decide +kernel
theorem dX3_startsAsking_8 : decode cX3_startsAsking 8 = .ok (.getfield 52, 3) := by decide +kernel
theorem dX3_startsAsking_11 : decode cX3_startsAsking 11 = .ok (.iload_n 1, 1) := by decide +kernel
theorem dX3_startsAsking_12 : decode cX3_startsAsking 12 = .ok (.iconst 2, 1) := by decide +kernel
theorem dX3_startsAsking_13 : decode cX3_startsAsking 13 = .ok (.iastore, 1) := by decide +kernel
theorem dX3_startsAsking_14 : decode cX3_startsAsking 14 = .ok (.iconst 0, 1) := by decide +kernel
theorem dX3_startsAsking_15 : decode cX3_startsAsking 15 = .ok (.istore_n 3, 1) := by decide +kernel
theorem dX3_startsAsking_16 : decode cX3_startsAsking 16 = .ok (.iload_n 3, 1) := by decide +kernel
theorem dX3_startsAsking_17 : decode cX3_startsAsking 17 = .ok (.iconst 3, 1) := by decide +kernel
theorem dX3_startsAsking_18 : decode cX3_startsAsking 18 = .ok (.if_icmp .ge 29, 3) := by decide +kernel
theorem dX3_startsAsking_21 : decode cX3_startsAsking 21 = .ok (.aload_n 0, 1) := by decide +kernel
theorem dX3_startsAsking_22 : decode cX3_startsAsking 22 = .ok (.getfield 67, 3) := by decide +kernel
theorem dX3_startsAsking_25 : decode cX3_startsAsking 25 = .ok (.iconst 3, 1) := by decide +kernel
theorem dX3_startsAsking_26 : decode cX3_startsAsking 26 = .ok (.iload_n 1, 1) := by decide +kernel
theorem dX3_startsAsking_27 : decode cX3_startsAsking 27 = .ok (.imul, 1) := by decide +kernel
theorem dX3_startsAsking_28 : decode cX3_startsAsking 28 = .ok (.iload_n 3, 1) := by decide +kernel
theorem dX3_startsAsking_29 : decode cX3_startsAsking 29 = .ok (.iadd, 1) := by decide +kernel
theorem dX3_startsAsking_30 : decode cX3_startsAsking 30 = .ok (.aload_n 0, 1) := by decide +kernel
theorem dX3_startsAsking_31 : decode cX3_startsAsking 31 = .ok (.getfield 22, 3) := by decide +kernel
theorem dX3_startsAsking_34 : decode cX3_startsAsking 34 = .ok (.iconst 3, 1) := by decide +kernel
theorem dX3_startsAsking_35 : decode cX3_startsAsking 35 = .ok (.iload_n 2, 1) := by decide +kernel
theorem dX3_startsAsking_36 : decode cX3_startsAsking 36 = .ok (.imul, 1) := by decide +kernel
theorem dX3_startsAsking_37 : decode cX3_startsAsking 37 = .ok (.iload_n 3, 1) := by decide +kernel
theorem dX3_startsAsking_38 : decode cX3_startsAsking 38 = .ok (.iadd, 1) := by decide +kernel
theorem dX3_startsAsking_39 : decode cX3_startsAsking 39 = .ok (.iaload, 1) := by decide +kernel
theorem dX3_startsAsking_40 : decode cX3_startsAsking 40 = .ok (.iastore, 1) := by decide +kernel
theorem dX3_startsAsking_41 : decode cX3_startsAsking 41 = .ok (.iinc 3 1, 3) := by decide +kernel
theorem dX3_startsAsking_44 : decode cX3_startsAsking 44 = .ok (.goto (-28), 3) := by decide +kernel
theorem dX3_startsAsking_47 : decode cX3_startsAsking 47 = .ok (.aload_n 0, 1) := by decide +kernel
theorem dX3_startsAsking_48 : decode cX3_startsAsking 48 = .ok (.getfield 70, 3) := by decide +kernel
theorem dX3_startsAsking_51 : decode cX3_startsAsking 51 = .ok (.iload_n 1, 1) := by decide +kernel
theorem dX3_startsAsking_52 : decode cX3_startsAsking 52 = .ok (.aload_n 0, 1) := by decide +kernel
theorem dX3_startsAsking_53 : decode cX3_startsAsking 53 = .ok (.getfield 19, 3) := by decide +kernel
theorem dX3_startsAsking_56 : decode cX3_startsAsking 56 = .ok (.iload_n 2, 1) := by decide +kernel
theorem dX3_startsAsking_57 : decode cX3_startsAsking 57 = .ok (.iaload, 1) := by decide +kernel
theorem dX3_startsAsking_58 : decode cX3_startsAsking 58 = .ok (.iastore, 1) := by decide +kernel
theorem dX3_startsAsking_59 : decode cX3_startsAsking 59 = .ok (.aload_n 0, 1) := by decide +kernel
theorem dX3_startsAsking_60 : decode cX3_startsAsking 60 = .ok (.getfield 73, 3) := by decide +kernel
theorem dX3_startsAsking_63 : decode cX3_startsAsking 63 = .ok (.iload_n 1, 1) := by decide +kernel
theorem dX3_startsAsking_64 : decode cX3_startsAsking 64 = .ok (.iconst 0, 1) := by decide +kernel
theorem dX3_startsAsking_65 : decode cX3_startsAsking 65 = .ok (.iastore, 1) := by decide +kernel
theorem dX3_startsAsking_66 : decode cX3_startsAsking 66 = .ok (.aload_n 0, 1) := by decide +kernel
theorem dX3_startsAsking_67 : decode cX3_startsAsking 67 = .ok (.getfield 76, 3) := by decide +kernel
theorem dX3_startsAsking_70 : decode cX3_startsAsking 70 = .ok (.iload_n 1, 1) := by decide +kernel
theorem dX3_startsAsking_71 : decode cX3_startsAsking 71 = .ok (.iconst 0, 1) := by decide +kernel
theorem dX3_startsAsking_72 : decode cX3_startsAsking 72 = .ok (.iastore, 1) := by decide +kernel
theorem dX3_startsAsking_73 : decode cX3_startsAsking 73 = .ok (.aload_n 0, 1) := by decide +kernel
theorem dX3_startsAsking_74 : decode cX3_startsAsking 74 = .ok (.getfield 79, 3) := by decide +kernel
theorem dX3_startsAsking_77 : decode cX3_startsAsking 77 = .ok (.iload_n 1, 1) := by decide +kernel
theorem dX3_startsAsking_78 : decode cX3_startsAsking 78 = .ok (.iconst 1, 1) := by decide +kernel
theorem dX3_startsAsking_79 : decode cX3_startsAsking 79 = .ok (.bastore, 1) := by decide +kernel
theorem dX3_startsAsking_80 : decode cX3_startsAsking 80 = .ok (.return_, 1) := by decide +kernel
theorem dX3_worksOut_0 : decode cX3_worksOut 0 = .ok (.iconst 0, 1) := by decide +kernel
theorem dX3_worksOut_1 : decode cX3_worksOut 1 = .ok (.istore_n 1, 1) := by decide +kernel
theorem dX3_worksOut_2 : decode cX3_worksOut 2 = .ok (.iload_n 1, 1) := by decide +kernel
theorem dX3_worksOut_3 : decode cX3_worksOut 3 = .ok (.aload_n 0, 1) := by decide +kernel
theorem dX3_worksOut_4 : decode cX3_worksOut 4 = .ok (.getfield 94, 3) := by decide +kernel
theorem dX3_worksOut_7 : decode cX3_worksOut 7 = .ok (.if_icmp .ge 113, 3) := by decide +kernel
theorem dX3_worksOut_10 : decode cX3_worksOut 10 = .ok (.aload_n 0, 1) := by decide +kernel
theorem dX3_worksOut_11 : decode cX3_worksOut 11 = .ok (.getfield 52, 3) := by decide +kernel
theorem dX3_worksOut_14 : decode cX3_worksOut 14 = .ok (.iload_n 1, 1) := by decide +kernel
theorem dX3_worksOut_15 : decode cX3_worksOut 15 = .ok (.iaload, 1) := by decide +kernel
theorem dX3_worksOut_16 : decode cX3_worksOut 16 = .ok (.iconst 1, 1) := by decide +kernel
theorem dX3_worksOut_17 : decode cX3_worksOut 17 = .ok (.if_icmp .ne 97, 3) := by decide +kernel
theorem dX3_worksOut_20 : decode cX3_worksOut 20 = .ok (.aload_n 0, 1) := by decide +kernel
theorem dX3_worksOut_21 : decode cX3_worksOut 21 = .ok (.getfield 55, 3) := by decide +kernel
theorem dX3_worksOut_24 : decode cX3_worksOut 24 = .ok (.iload_n 1, 1) := by decide +kernel
theorem dX3_worksOut_25 : decode cX3_worksOut 25 = .ok (.iaload, 1) := by decide +kernel
theorem dX3_worksOut_26 : decode cX3_worksOut 26 = .ok (.aload_n 0, 1) := by decide +kernel
theorem dX3_worksOut_27 : decode cX3_worksOut 27 = .ok (.getfield 101, 3) := by decide +kernel
theorem dX3_worksOut_30 : decode cX3_worksOut 30 = .ok (.if_icmp .gt 84, 3) := by decide +kernel
theorem dX3_worksOut_33 : decode cX3_worksOut 33 = .ok (.aload_n 0, 1) := by decide +kernel
theorem dX3_worksOut_34 : decode cX3_worksOut 34 = .ok (.getfield 43, 3) := by decide +kernel
theorem dX3_worksOut_37 : decode cX3_worksOut 37 = .ok (.iload_n 1, 1) := by decide +kernel
theorem dX3_worksOut_38 : decode cX3_worksOut 38 = .ok (.iaload, 1) := by decide +kernel
theorem dX3_worksOut_39 : decode cX3_worksOut 39 = .ok (.istore_n 2, 1) := by decide +kernel
theorem dX3_worksOut_40 : decode cX3_worksOut 40 = .ok (.aload_n 0, 1) := by decide +kernel
theorem dX3_worksOut_41 : decode cX3_worksOut 41 = .ok (.getfield 16, 3) := by decide +kernel
theorem dX3_worksOut_44 : decode cX3_worksOut 44 = .ok (.iload_n 2, 1) := by decide +kernel
theorem dX3_worksOut_45 : decode cX3_worksOut 45 = .ok (.dup2, 1) := by decide +kernel
theorem dX3_worksOut_46 : decode cX3_worksOut 46 = .ok (.iaload, 1) := by decide +kernel
theorem dX3_worksOut_47 : decode cX3_worksOut 47 = .ok (.iconst 1, 1) := by decide +kernel
theorem dX3_worksOut_48 : decode cX3_worksOut 48 = .ok (.iadd, 1) := by decide +kernel
theorem dX3_worksOut_49 : decode cX3_worksOut 49 = .ok (.iastore, 1) := by decide +kernel
theorem dX3_worksOut_50 : decode cX3_worksOut 50 = .ok (.aload_n 0, 1) := by decide +kernel
theorem dX3_worksOut_51 : decode cX3_worksOut 51 = .ok (.getfield 13, 3) := by decide +kernel
theorem dX3_worksOut_54 : decode cX3_worksOut 54 = .ok (.iload_n 2, 1) := by decide +kernel
theorem dX3_worksOut_55 : decode cX3_worksOut 55 = .ok (.iaload, 1) := by decide +kernel
theorem dX3_worksOut_56 : decode cX3_worksOut 56 = .ok (.ifCond .le 34, 3) := by decide +kernel
theorem dX3_worksOut_59 : decode cX3_worksOut 59 = .ok (.aload_n 0, 1) := by decide +kernel
theorem dX3_worksOut_60 : decode cX3_worksOut 60 = .ok (.getfield 16, 3) := by decide +kernel
theorem dX3_worksOut_63 : decode cX3_worksOut 63 = .ok (.iload_n 2, 1) := by decide +kernel
theorem dX3_worksOut_64 : decode cX3_worksOut 64 = .ok (.iaload, 1) := by decide +kernel
theorem dX3_worksOut_65 : decode cX3_worksOut 65 = .ok (.aload_n 0, 1) := by decide +kernel
theorem dX3_worksOut_66 : decode cX3_worksOut 66 = .ok (.getfield 13, 3) := by decide +kernel
theorem dX3_worksOut_69 : decode cX3_worksOut 69 = .ok (.iload_n 2, 1) := by decide +kernel
theorem dX3_worksOut_70 : decode cX3_worksOut 70 = .ok (.iaload, 1) := by decide +kernel
theorem dX3_worksOut_71 : decode cX3_worksOut 71 = .ok (.irem, 1) := by decide +kernel
theorem dX3_worksOut_72 : decode cX3_worksOut 72 = .ok (.ifCond .ne 18, 3) := by decide +kernel
theorem dX3_worksOut_75 : decode cX3_worksOut 75 = .ok (.aload_n 0, 1) := by decide +kernel
theorem dX3_worksOut_76 : decode cX3_worksOut 76 = .ok (.iload_n 1, 1) := by decide +kernel
theorem dX3_worksOut_77 : decode cX3_worksOut 77 = .ok (.iconst 4, 1) := by decide +kernel
theorem dX3_worksOut_78 : decode cX3_worksOut 78 = .ok (.invokevirtual 114, 3) := by decide +kernel
theorem dX3_worksOut_81 : decode cX3_worksOut 81 = .ok (.pop, 1) := by decide +kernel
theorem dX3_worksOut_82 : decode cX3_worksOut 82 = .ok (.aload_n 0, 1) := by decide +kernel
theorem dX3_worksOut_83 : decode cX3_worksOut 83 = .ok (.iload_n 2, 1) := by decide +kernel
theorem dX3_worksOut_84 : decode cX3_worksOut 84 = .ok (.invokevirtual 128, 3) := by decide +kernel
theorem dX3_worksOut_87 : decode cX3_worksOut 87 = .ok (.goto 27, 3) := by decide +kernel
theorem dX3_worksOut_90 : decode cX3_worksOut 90 = .ok (.aload_n 0, 1) := by decide +kernel
theorem dX3_worksOut_91 : decode cX3_worksOut 91 = .ok (.getfield 19, 3) := by decide +kernel
theorem dX3_worksOut_94 : decode cX3_worksOut 94 = .ok (.iload_n 2, 1) := by decide +kernel
theorem dX3_worksOut_95 : decode cX3_worksOut 95 = .ok (.iaload, 1) := by decide +kernel
theorem dX3_worksOut_96 : decode cX3_worksOut 96 = .ok (.ifCond .ne 13, 3) := by decide +kernel
theorem dX3_worksOut_99 : decode cX3_worksOut 99 = .ok (.aload_n 0, 1) := by decide +kernel
theorem dX3_worksOut_100 : decode cX3_worksOut 100 = .ok (.iload_n 1, 1) := by decide +kernel
theorem dX3_worksOut_101 : decode cX3_worksOut 101 = .ok (.iconst 3, 1) := by decide +kernel
theorem dX3_worksOut_102 : decode cX3_worksOut 102 = .ok (.invokevirtual 114, 3) := by decide +kernel
theorem dX3_worksOut_105 : decode cX3_worksOut 105 = .ok (.pop, 1) := by decide +kernel
theorem dX3_worksOut_106 : decode cX3_worksOut 106 = .ok (.goto 8, 3) := by decide +kernel
theorem dX3_worksOut_109 : decode cX3_worksOut 109 = .ok (.aload_n 0, 1) := by decide +kernel
theorem dX3_worksOut_110 : decode cX3_worksOut 110 = .ok (.iload_n 1, 1) := by decide +kernel
theorem dX3_worksOut_111 : decode cX3_worksOut 111 = .ok (.invokevirtual 131, 3) := by decide +kernel
theorem dX3_worksOut_114 : decode cX3_worksOut 114 = .ok (.iinc 1 1, 3) := by decide +kernel
theorem dX3_worksOut_117 : decode cX3_worksOut 117 = .ok (.goto (-115), 3) := by decide +kernel
theorem dX3_worksOut_120 : decode cX3_worksOut 120 = .ok (.return_, 1) := by decide +kernel
theorem dX3_isTry_0 : decode cX3_isTry 0 = .ok (.aload_n 0, 1) := by decide +kernel
theorem dX3_isTry_1 : decode cX3_isTry 1 = .ok (.getfield 49, 3) := by decide +kernel
theorem dX3_isTry_4 : decode cX3_isTry 4 = .ok (.iload_n 1, 1) := by decide +kernel
theorem dX3_isTry_5 : decode cX3_isTry 5 = .ok (.iaload, 1) := by decide +kernel
theorem dX3_isTry_6 : decode cX3_isTry 6 = .ok (.iload_n 2, 1) := by decide +kernel
theorem dX3_isTry_7 : decode cX3_isTry 7 = .ok (.if_icmp .ne 22, 3) := by decide +kernel
theorem dX3_isTry_10 : decode cX3_isTry 10 = .ok (.aload_n 0, 1) := by decide +kernel
theorem dX3_isTry_11 : decode cX3_isTry 11 = .ok (.getfield 64, 3) := by decide +kernel
theorem dX3_isTry_14 : decode cX3_isTry 14 = .ok (.iload_n 1, 1) := by decide +kernel
theorem dX3_isTry_15 : decode cX3_isTry 15 = .ok (.iaload, 1) := by decide +kernel
theorem dX3_isTry_16 : decode cX3_isTry 16 = .ok (.aload_n 0, 1) := by decide +kernel
theorem dX3_isTry_17 : decode cX3_isTry 17 = .ok (.getfield 73, 3) := by decide +kernel
theorem dX3_isTry_20 : decode cX3_isTry 20 = .ok (.iload_n 2, 1) := by decide +kernel
theorem dX3_isTry_21 : decode cX3_isTry 21 = .ok (.iaload, 1) := by decide +kernel
theorem dX3_isTry_22 : decode cX3_isTry 22 = .ok (.if_icmp .ne 7, 3) := by decide +kernel
theorem dX3_isTry_25 : decode cX3_isTry 25 = .ok (.iconst 1, 1) := by decide +kernel
theorem dX3_isTry_26 : decode cX3_isTry 26 = .ok (.goto 4, 3) := by decide +kernel
theorem dX3_isTry_29 : decode cX3_isTry 29 = .ok (.iconst 0, 1) := by decide +kernel
theorem dX3_isTry_30 : decode cX3_isTry 30 = .ok (.ireturn, 1) := by decide +kernel
theorem dX3_goesOn_0 : decode cX3_goesOn 0 = .ok (.iload_n 1, 1) := by decide +kernel
theorem dX3_goesOn_1 : decode cX3_goesOn 1 = .ok (.iconst 1, 1) := by decide +kernel
theorem dX3_goesOn_2 : decode cX3_goesOn 2 = .ok (.iadd, 1) := by decide +kernel
theorem dX3_goesOn_3 : decode cX3_goesOn 3 = .ok (.istore_n 2, 1) := by decide +kernel
theorem dX3_goesOn_4 : decode cX3_goesOn 4 = .ok (.iload_n 2, 1) := by decide +kernel
theorem dX3_goesOn_5 : decode cX3_goesOn 5 = .ok (.aload_n 0, 1) := by decide +kernel
theorem dX3_goesOn_6 : decode cX3_goesOn 6 = .ok (.getfield 94, 3) := by decide +kernel
theorem dX3_goesOn_9 : decode cX3_goesOn 9 = .ok (.if_icmp .ge 34, 3) := by decide +kernel
theorem dX3_goesOn_12 : decode cX3_goesOn 12 = .ok (.aload_n 0, 1) := by decide +kernel
theorem dX3_goesOn_13 : decode cX3_goesOn 13 = .ok (.iload_n 2, 1) := by decide +kernel
theorem dX3_goesOn_14 : decode cX3_goesOn 14 = .ok (.iload_n 1, 1) := by decide +kernel
theorem dX3_goesOn_15 : decode cX3_goesOn 15 = .ok (.invokevirtual 134, 3) := by decide +kernel
theorem dX3_goesOn_18 : decode cX3_goesOn 18 = .ok (.ifCond .eq 19, 3) := by decide +kernel
theorem dX3_goesOn_21 : decode cX3_goesOn 21 = .ok (.aload_n 0, 1) := by decide +kernel
theorem dX3_goesOn_22 : decode cX3_goesOn 22 = .ok (.iload_n 2, 1) := by decide +kernel
theorem dX3_goesOn_23 : decode cX3_goesOn 23 = .ok (.invokevirtual 104, 3) := by decide +kernel
theorem dX3_goesOn_26 : decode cX3_goesOn 26 = .ok (.ifCond .ne 11, 3) := by decide +kernel
theorem dX3_goesOn_29 : decode cX3_goesOn 29 = .ok (.aload_n 0, 1) := by decide +kernel
theorem dX3_goesOn_30 : decode cX3_goesOn 30 = .ok (.iload_n 2, 1) := by decide +kernel
theorem dX3_goesOn_31 : decode cX3_goesOn 31 = .ok (.bipush 7, 2) := by decide +kernel
theorem dX3_goesOn_33 : decode cX3_goesOn 33 = .ok (.invokevirtual 114, 3) := by decide +kernel
theorem dX3_goesOn_36 : decode cX3_goesOn 36 = .ok (.pop, 1) := by decide +kernel
theorem dX3_goesOn_37 : decode cX3_goesOn 37 = .ok (.iinc 2 1, 3) := by decide +kernel
theorem dX3_goesOn_40 : decode cX3_goesOn 40 = .ok (.goto (-36), 3) := by decide +kernel
theorem dX3_goesOn_43 : decode cX3_goesOn 43 = .ok (.aload_n 0, 1) := by decide +kernel
theorem dX3_goesOn_44 : decode cX3_goesOn 44 = .ok (.getfield 73, 3) := by decide +kernel
theorem dX3_goesOn_47 : decode cX3_goesOn 47 = .ok (.iload_n 1, 1) := by decide +kernel
theorem dX3_goesOn_48 : decode cX3_goesOn 48 = .ok (.dup2, 1) := by decide +kernel
theorem dX3_goesOn_49 : decode cX3_goesOn 49 = .ok (.iaload, 1) := by decide +kernel
theorem dX3_goesOn_50 : decode cX3_goesOn 50 = .ok (.iconst 1, 1) := by decide +kernel
theorem dX3_goesOn_51 : decode cX3_goesOn 51 = .ok (.iadd, 1) := by decide +kernel
theorem dX3_goesOn_52 : decode cX3_goesOn 52 = .ok (.iastore, 1) := by decide +kernel
theorem dX3_goesOn_53 : decode cX3_goesOn 53 = .ok (.aload_n 0, 1) := by decide +kernel
theorem dX3_goesOn_54 : decode cX3_goesOn 54 = .ok (.getfield 76, 3) := by decide +kernel
theorem dX3_goesOn_57 : decode cX3_goesOn 57 = .ok (.iload_n 1, 1) := by decide +kernel
theorem dX3_goesOn_58 : decode cX3_goesOn 58 = .ok (.iconst 0, 1) := by decide +kernel
theorem dX3_goesOn_59 : decode cX3_goesOn 59 = .ok (.iastore, 1) := by decide +kernel
theorem dX3_goesOn_60 : decode cX3_goesOn 60 = .ok (.aload_n 0, 1) := by decide +kernel
theorem dX3_goesOn_61 : decode cX3_goesOn 61 = .ok (.getfield 73, 3) := by decide +kernel
theorem dX3_goesOn_64 : decode cX3_goesOn 64 = .ok (.iload_n 1, 1) := by decide +kernel
theorem dX3_goesOn_65 : decode cX3_goesOn 65 = .ok (.iaload, 1) := by decide +kernel
theorem dX3_goesOn_66 : decode cX3_goesOn 66 = .ok (.aload_n 0, 1) := by decide +kernel
theorem dX3_goesOn_67 : decode cX3_goesOn 67 = .ok (.getfield 70, 3) := by decide +kernel
theorem dX3_goesOn_70 : decode cX3_goesOn 70 = .ok (.iload_n 1, 1) := by decide +kernel
theorem dX3_goesOn_71 : decode cX3_goesOn 71 = .ok (.iaload, 1) := by decide +kernel
theorem dX3_goesOn_72 : decode cX3_goesOn 72 = .ok (.if_icmp .ne 13, 3) := by decide +kernel
theorem dX3_goesOn_75 : decode cX3_goesOn 75 = .ok (.aload_n 0, 1) := by decide +kernel
theorem dX3_goesOn_76 : decode cX3_goesOn 76 = .ok (.iload_n 1, 1) := by decide +kernel
theorem dX3_goesOn_77 : decode cX3_goesOn 77 = .ok (.iconst 3, 1) := by decide +kernel
theorem dX3_goesOn_78 : decode cX3_goesOn 78 = .ok (.invokevirtual 114, 3) := by decide +kernel
theorem dX3_goesOn_81 : decode cX3_goesOn 81 = .ok (.pop, 1) := by decide +kernel
theorem dX3_goesOn_82 : decode cX3_goesOn 82 = .ok (.goto 10, 3) := by decide +kernel
theorem dX3_goesOn_85 : decode cX3_goesOn 85 = .ok (.aload_n 0, 1) := by decide +kernel
theorem dX3_goesOn_86 : decode cX3_goesOn 86 = .ok (.getfield 79, 3) := by decide +kernel
theorem dX3_goesOn_89 : decode cX3_goesOn 89 = .ok (.iload_n 1, 1) := by decide +kernel
theorem dX3_goesOn_90 : decode cX3_goesOn 90 = .ok (.iconst 1, 1) := by decide +kernel
theorem dX3_goesOn_91 : decode cX3_goesOn 91 = .ok (.bastore, 1) := by decide +kernel
theorem dX3_goesOn_92 : decode cX3_goesOn 92 = .ok (.return_, 1) := by decide +kernel
theorem dX3_looks_0 : decode cX3_looks 0 = .ok (.iconst 0, 1) := by decide +kernel
theorem dX3_looks_1 : decode cX3_looks 1 = .ok (.istore_n 2, 1) := by decide +kernel
theorem dX3_looks_2 : decode cX3_looks 2 = .ok (.iconst 0, 1) := by decide +kernel
theorem dX3_looks_3 : decode cX3_looks 3 = .ok (.istore_n 3, 1) := by decide +kernel
theorem dX3_looks_4 : decode cX3_looks 4 = .ok (.iconst 0, 1) := by decide +kernel
theorem dX3_looks_5 : decode cX3_looks 5 = .ok (.istore 4, 2) := by decide +kernel
theorem dX3_looks_7 : decode cX3_looks 7 = .ok (.iconst 1, 1) := by decide +kernel
theorem dX3_looks_8 : decode cX3_looks 8 = .ok (.istore 5, 2) := by decide +kernel
theorem dX3_looks_10 : decode cX3_looks 10 = .ok (.iload_n 1, 1) := by decide +kernel
theorem dX3_looks_11 : decode cX3_looks 11 = .ok (.iconst 1, 1) := by decide +kernel
theorem dX3_looks_12 : decode cX3_looks 12 = .ok (.iadd, 1) := by decide +kernel
theorem dX3_looks_13 : decode cX3_looks 13 = .ok (.istore 6, 2) := by decide +kernel
theorem dX3_looks_15 : decode cX3_looks 15 = .ok (.iload 6, 2) := by decide +kernel
theorem dX3_looks_17 : decode cX3_looks 17 = .ok (.aload_n 0, 1) := by decide +kernel
theorem dX3_looks_18 : decode cX3_looks 18 = .ok (.getfield 94, 3) := by decide +kernel
theorem dX3_looks_21 : decode cX3_looks 21 = .ok (.if_icmp .ge 82, 3) := by decide +kernel
theorem dX3_looks_24 : decode cX3_looks 24 = .ok (.aload_n 0, 1) := by decide +kernel
theorem dX3_looks_25 : decode cX3_looks 25 = .ok (.iload 6, 2) := by decide +kernel
theorem dX3_looks_27 : decode cX3_looks 27 = .ok (.iload_n 1, 1) := by decide +kernel
theorem dX3_looks_28 : decode cX3_looks 28 = .ok (.invokevirtual 134, 3) := by decide +kernel
theorem dX3_looks_31 : decode cX3_looks 31 = .ok (.ifCond .eq 66, 3) := by decide +kernel
theorem dX3_looks_34 : decode cX3_looks 34 = .ok (.iload_n 2, 1) := by decide +kernel
theorem dX3_looks_35 : decode cX3_looks 35 = .ok (.ifCond .ne 13, 3) := by decide +kernel
theorem dX3_looks_38 : decode cX3_looks 38 = .ok (.aload_n 0, 1) := by decide +kernel
theorem dX3_looks_39 : decode cX3_looks 39 = .ok (.getfield 61, 3) := by decide +kernel
theorem dX3_looks_42 : decode cX3_looks 42 = .ok (.iload 6, 2) := by decide +kernel
theorem dX3_looks_44 : decode cX3_looks 44 = .ok (.iaload, 1) := by decide +kernel
theorem dX3_looks_45 : decode cX3_looks 45 = .ok (.goto 4, 3) := by decide +kernel
theorem dX3_looks_48 : decode cX3_looks 48 = .ok (.iload_n 3, 1) := by decide +kernel
theorem dX3_looks_49 : decode cX3_looks 49 = .ok (.istore_n 3, 1) := by decide +kernel
theorem dX3_looks_50 : decode cX3_looks 50 = .ok (.iinc 2 1, 3) := by decide +kernel
theorem dX3_looks_53 : decode cX3_looks 53 = .ok (.iload 4, 2) := by decide +kernel
theorem dX3_looks_55 : decode cX3_looks 55 = .ok (.ifCond .ne 14, 3) := by decide +kernel
theorem dX3_looks_58 : decode cX3_looks 58 = .ok (.aload_n 0, 1) := by decide +kernel
theorem dX3_looks_59 : decode cX3_looks 59 = .ok (.getfield 52, 3) := by decide +kernel
theorem dX3_looks_62 : decode cX3_looks 62 = .ok (.iload 6, 2) := by decide +kernel
theorem dX3_looks_64 : decode cX3_looks 64 = .ok (.iaload, 1) := by decide +kernel
theorem dX3_looks_65 : decode cX3_looks 65 = .ok (.iconst 3, 1) := by decide +kernel
theorem dX3_looks_66 : decode cX3_looks 66 = .ok (.if_icmp .ne 7, 3) := by decide +kernel
theorem dX3_looks_69 : decode cX3_looks 69 = .ok (.iconst 1, 1) := by decide +kernel
theorem dX3_looks_70 : decode cX3_looks 70 = .ok (.goto 4, 3) := by decide +kernel
theorem dX3_looks_73 : decode cX3_looks 73 = .ok (.iconst 0, 1) := by decide +kernel
theorem dX3_looks_74 : decode cX3_looks 74 = .ok (.istore 4, 2) := by decide +kernel
theorem dX3_looks_76 : decode cX3_looks 76 = .ok (.iload 5, 2) := by decide +kernel
theorem dX3_looks_78 : decode cX3_looks 78 = .ok (.ifCond .eq 16, 3) := by decide +kernel
theorem dX3_looks_81 : decode cX3_looks 81 = .ok (.aload_n 0, 1) := by decide +kernel
theorem dX3_looks_82 : decode cX3_looks 82 = .ok (.iload 6, 2) := by decide +kernel
theorem dX3_looks_84 : decode cX3_looks 84 = .ok (.invokevirtual 104, 3) := by decide +kernel
theorem dX3_looks_87 : decode cX3_looks 87 = .ok (.ifCond .eq 7, 3) := by decide +kernel
theorem dX3_looks_90 : decode cX3_looks 90 = .ok (.iconst 1, 1) := by decide +kernel
theorem dX3_looks_91 : decode cX3_looks 91 = .ok (.goto 4, 3) := by decide +kernel
theorem dX3_looks_94 : decode cX3_looks 94 = .ok (.iconst 0, 1) := by decide +kernel
theorem dX3_looks_95 : decode cX3_looks 95 = .ok (.istore 5, 2) := by decide +kernel
theorem dX3_looks_97 : decode cX3_looks 97 = .ok (.iinc 6 1, 3) := by decide +kernel
theorem dX3_looks_100 : decode cX3_looks 100 = .ok (.goto (-85), 3) := by decide +kernel
theorem dX3_looks_103 : decode cX3_looks 103 = .ok (.aload_n 0, 1) := by decide +kernel
theorem dX3_looks_104 : decode cX3_looks 104 = .ok (.getfield 67, 3) := by decide +kernel
theorem dX3_looks_107 : decode cX3_looks 107 = .ok (.iconst 3, 1) := by decide +kernel
theorem dX3_looks_108 : decode cX3_looks 108 = .ok (.iload_n 1, 1) := by decide +kernel
theorem dX3_looks_109 : decode cX3_looks 109 = .ok (.imul, 1) := by decide +kernel
theorem dX3_looks_110 : decode cX3_looks 110 = .ok (.aload_n 0, 1) := by decide +kernel
theorem dX3_looks_111 : decode cX3_looks 111 = .ok (.getfield 73, 3) := by decide +kernel
theorem dX3_looks_114 : decode cX3_looks 114 = .ok (.iload_n 1, 1) := by decide +kernel
theorem dX3_looks_115 : decode cX3_looks 115 = .ok (.iaload, 1) := by decide +kernel
theorem dX3_looks_116 : decode cX3_looks 116 = .ok (.iadd, 1) := by decide +kernel
theorem dX3_looks_117 : decode cX3_looks 117 = .ok (.iaload, 1) := by decide +kernel
theorem dX3_looks_118 : decode cX3_looks 118 = .ok (.istore 6, 2) := by decide +kernel
theorem dX3_looks_120 : decode cX3_looks 120 = .ok (.iload 4, 2) := by decide +kernel
theorem dX3_looks_122 : decode cX3_looks 122 = .ok (.ifCond .eq 11, 3) := by decide +kernel
theorem dX3_looks_125 : decode cX3_looks 125 = .ok (.aload_n 0, 1) := by decide +kernel
theorem dX3_looks_126 : decode cX3_looks 126 = .ok (.iload_n 1, 1) := by decide +kernel
theorem dX3_looks_127 : decode cX3_looks 127 = .ok (.invokevirtual 138, 3) := by decide +kernel
theorem dX3_looks_130 : decode cX3_looks 130 = .ok (.goto 115, 3) := by decide +kernel
theorem dX3_looks_133 : decode cX3_looks 133 = .ok (.iload 5, 2) := by decide +kernel
theorem dX3_looks_135 : decode cX3_looks 135 = .ok (.ifCond .eq 57, 3) := by decide +kernel
theorem dX3_looks_138 : decode cX3_looks 138 = .ok (.aload_n 0, 1) := by decide +kernel
theorem dX3_looks_139 : decode cX3_looks 139 = .ok (.getfield 76, 3) := by decide +kernel
theorem dX3_looks_142 : decode cX3_looks 142 = .ok (.iload_n 1, 1) := by decide +kernel
theorem dX3_looks_143 : decode cX3_looks 143 = .ok (.iaload, 1) := by decide +kernel
theorem dX3_looks_144 : decode cX3_looks 144 = .ok (.iconst 2, 1) := by decide +kernel
theorem dX3_looks_145 : decode cX3_looks 145 = .ok (.if_icmp .ge 47, 3) := by decide +kernel
theorem dX3_looks_148 : decode cX3_looks 148 = .ok (.aload_n 0, 1) := by decide +kernel
theorem dX3_looks_149 : decode cX3_looks 149 = .ok (.getfield 34, 3) := by decide +kernel
theorem dX3_looks_152 : decode cX3_looks 152 = .ok (.iload 6, 2) := by decide +kernel
theorem dX3_looks_154 : decode cX3_looks 154 = .ok (.iaload, 1) := by decide +kernel
theorem dX3_looks_155 : decode cX3_looks 155 = .ok (.bipush 10, 2) := by decide +kernel
theorem dX3_looks_157 : decode cX3_looks 157 = .ok (.if_icmp .lt 35, 3) := by decide +kernel
theorem dX3_looks_160 : decode cX3_looks 160 = .ok (.aload_n 0, 1) := by decide +kernel
theorem dX3_looks_161 : decode cX3_looks 161 = .ok (.getfield 34, 3) := by decide +kernel
theorem dX3_looks_164 : decode cX3_looks 164 = .ok (.iload 6, 2) := by decide +kernel
theorem dX3_looks_166 : decode cX3_looks 166 = .ok (.dup2, 1) := by decide +kernel
theorem dX3_looks_167 : decode cX3_looks 167 = .ok (.iaload, 1) := by decide +kernel
theorem dX3_looks_168 : decode cX3_looks 168 = .ok (.bipush 10, 2) := by decide +kernel
theorem dX3_looks_170 : decode cX3_looks 170 = .ok (.isub, 1) := by decide +kernel
theorem dX3_looks_171 : decode cX3_looks 171 = .ok (.iastore, 1) := by decide +kernel
theorem dX3_looks_172 : decode cX3_looks 172 = .ok (.aload_n 0, 1) := by decide +kernel
theorem dX3_looks_173 : decode cX3_looks 173 = .ok (.getfield 76, 3) := by decide +kernel
theorem dX3_looks_176 : decode cX3_looks 176 = .ok (.iload_n 1, 1) := by decide +kernel
theorem dX3_looks_177 : decode cX3_looks 177 = .ok (.dup2, 1) := by decide +kernel
theorem dX3_looks_178 : decode cX3_looks 178 = .ok (.iaload, 1) := by decide +kernel
theorem dX3_looks_179 : decode cX3_looks 179 = .ok (.iconst 1, 1) := by decide +kernel
theorem dX3_looks_180 : decode cX3_looks 180 = .ok (.iadd, 1) := by decide +kernel
theorem dX3_looks_181 : decode cX3_looks 181 = .ok (.iastore, 1) := by decide +kernel
theorem dX3_looks_182 : decode cX3_looks 182 = .ok (.aload_n 0, 1) := by decide +kernel
theorem dX3_looks_183 : decode cX3_looks 183 = .ok (.getfield 79, 3) := by decide +kernel
theorem dX3_looks_186 : decode cX3_looks 186 = .ok (.iload_n 1, 1) := by decide +kernel
theorem dX3_looks_187 : decode cX3_looks 187 = .ok (.iconst 1, 1) := by decide +kernel
theorem dX3_looks_188 : decode cX3_looks 188 = .ok (.bastore, 1) := by decide +kernel
theorem dX3_looks_189 : decode cX3_looks 189 = .ok (.goto 56, 3) := by decide +kernel
theorem dX3_looks_192 : decode cX3_looks 192 = .ok (.iload 5, 2) := by decide +kernel
theorem dX3_looks_194 : decode cX3_looks 194 = .ok (.ifCond .eq 13, 3) := by decide +kernel
theorem dX3_looks_197 : decode cX3_looks 197 = .ok (.aload_n 0, 1) := by decide +kernel
theorem dX3_looks_198 : decode cX3_looks 198 = .ok (.iload_n 1, 1) := by decide +kernel
theorem dX3_looks_199 : decode cX3_looks 199 = .ok (.iconst 4, 1) := by decide +kernel
theorem dX3_looks_200 : decode cX3_looks 200 = .ok (.invokevirtual 114, 3) := by decide +kernel
theorem dX3_looks_203 : decode cX3_looks 203 = .ok (.pop, 1) := by decide +kernel
theorem dX3_looks_204 : decode cX3_looks 204 = .ok (.goto 41, 3) := by decide +kernel
theorem dX3_looks_207 : decode cX3_looks 207 = .ok (.iload_n 2, 1) := by decide +kernel
theorem dX3_looks_208 : decode cX3_looks 208 = .ok (.iconst 1, 1) := by decide +kernel
theorem dX3_looks_209 : decode cX3_looks 209 = .ok (.if_icmp .ne 36, 3) := by decide +kernel
theorem dX3_looks_212 : decode cX3_looks 212 = .ok (.aload_n 0, 1) := by decide +kernel
theorem dX3_looks_213 : decode cX3_looks 213 = .ok (.getfield 31, 3) := by decide +kernel
theorem dX3_looks_216 : decode cX3_looks 216 = .ok (.iload 6, 2) := by decide +kernel
theorem dX3_looks_218 : decode cX3_looks 218 = .ok (.iaload, 1) := by decide +kernel
theorem dX3_looks_219 : decode cX3_looks 219 = .ok (.ifCond .le 26, 3) := by decide +kernel
theorem dX3_looks_222 : decode cX3_looks 222 = .ok (.aload_n 0, 1) := by decide +kernel
theorem dX3_looks_223 : decode cX3_looks 223 = .ok (.getfield 101, 3) := by decide +kernel
theorem dX3_looks_226 : decode cX3_looks 226 = .ok (.iload_n 3, 1) := by decide +kernel
theorem dX3_looks_227 : decode cX3_looks 227 = .ok (.isub, 1) := by decide +kernel
theorem dX3_looks_228 : decode cX3_looks 228 = .ok (.aload_n 0, 1) := by decide +kernel
theorem dX3_looks_229 : decode cX3_looks 229 = .ok (.getfield 31, 3) := by decide +kernel
theorem dX3_looks_232 : decode cX3_looks 232 = .ok (.iload 6, 2) := by decide +kernel
theorem dX3_looks_234 : decode cX3_looks 234 = .ok (.iaload, 1) := by decide +kernel
theorem dX3_looks_235 : decode cX3_looks 235 = .ok (.if_icmp .lt 10, 3) := by decide +kernel
theorem dX3_looks_238 : decode cX3_looks 238 = .ok (.aload_n 0, 1) := by decide +kernel
theorem dX3_looks_239 : decode cX3_looks 239 = .ok (.getfield 79, 3) := by decide +kernel
theorem dX3_looks_242 : decode cX3_looks 242 = .ok (.iload_n 1, 1) := by decide +kernel
theorem dX3_looks_243 : decode cX3_looks 243 = .ok (.iconst 1, 1) := by decide +kernel
theorem dX3_looks_244 : decode cX3_looks 244 = .ok (.bastore, 1) := by decide +kernel
theorem dX3_looks_245 : decode cX3_looks 245 = .ok (.return_, 1) := by decide +kernel
theorem dX3_makesTries_0 : decode cX3_makesTries 0 = .ok (.aload_n 0, 1) := by decide +kernel
theorem dX3_makesTries_1 : decode cX3_makesTries 1 = .ok (.getfield 94, 3) := by decide +kernel
theorem dX3_makesTries_4 : decode cX3_makesTries 4 = .ok (.istore_n 1, 1) := by decide +kernel
theorem dX3_makesTries_5 : decode cX3_makesTries 5 = .ok (.iconst 0, 1) := by decide +kernel
theorem dX3_makesTries_6 : decode cX3_makesTries 6 = .ok (.istore_n 2, 1) := by decide +kernel
theorem dX3_makesTries_7 : decode cX3_makesTries 7 = .ok (.iload_n 2, 1) := by decide +kernel
theorem dX3_makesTries_8 : decode cX3_makesTries 8 = .ok (.iload_n 1, 1) := by decide +kernel
theorem dX3_makesTries_9 : decode cX3_makesTries 9 = .ok (.if_icmp .ge 39, 3) := by decide +kernel
theorem dX3_makesTries_12 : decode cX3_makesTries 12 = .ok (.aload_n 0, 1) := by decide +kernel
theorem dX3_makesTries_13 : decode cX3_makesTries 13 = .ok (.getfield 83, 3) := by decide +kernel
theorem dX3_makesTries_16 : decode cX3_makesTries 16 = .ok (.iload_n 2, 1) := by decide +kernel
theorem dX3_makesTries_17 : decode cX3_makesTries 17 = .ok (.aload_n 0, 1) := by decide +kernel
theorem dX3_makesTries_18 : decode cX3_makesTries 18 = .ok (.getfield 52, 3) := by decide +kernel
theorem dX3_makesTries_21 : decode cX3_makesTries 21 = .ok (.iload_n 2, 1) := by decide +kernel
theorem dX3_makesTries_22 : decode cX3_makesTries 22 = .ok (.iaload, 1) := by decide +kernel
theorem dX3_makesTries_23 : decode cX3_makesTries 23 = .ok (.iconst 2, 1) := by decide +kernel
theorem dX3_makesTries_24 : decode cX3_makesTries 24 = .ok (.if_icmp .ne 16, 3) := by decide +kernel
theorem dX3_makesTries_27 : decode cX3_makesTries 27 = .ok (.aload_n 0, 1) := by decide +kernel
theorem dX3_makesTries_28 : decode cX3_makesTries 28 = .ok (.getfield 79, 3) := by decide +kernel
theorem dX3_makesTries_31 : decode cX3_makesTries 31 = .ok (.iload_n 2, 1) := by decide +kernel
theorem dX3_makesTries_32 : decode cX3_makesTries 32 = .ok (.baload, 1) := by decide +kernel
theorem dX3_makesTries_33 : decode cX3_makesTries 33 = .ok (.ifCond .eq 7, 3) := by decide +kernel
theorem dX3_makesTries_36 : decode cX3_makesTries 36 = .ok (.iconst 1, 1) := by decide +kernel
theorem dX3_makesTries_37 : decode cX3_makesTries 37 = .ok (.goto 4, 3) := by decide +kernel
theorem dX3_makesTries_40 : decode cX3_makesTries 40 = .ok (.iconst 0, 1) := by decide +kernel
theorem dX3_makesTries_41 : decode cX3_makesTries 41 = .ok (.bastore, 1) := by decide +kernel
theorem dX3_makesTries_42 : decode cX3_makesTries 42 = .ok (.iinc 2 1, 3) := by decide +kernel
theorem dX3_makesTries_45 : decode cX3_makesTries 45 = .ok (.goto (-38), 3) := by decide +kernel
theorem dX3_makesTries_48 : decode cX3_makesTries 48 = .ok (.iconst 0, 1) := by decide +kernel
theorem dX3_makesTries_49 : decode cX3_makesTries 49 = .ok (.istore_n 2, 1) := by decide +kernel
theorem dX3_makesTries_50 : decode cX3_makesTries 50 = .ok (.iload_n 2, 1) := by decide +kernel
theorem dX3_makesTries_51 : decode cX3_makesTries 51 = .ok (.iload_n 1, 1) := by decide +kernel
theorem dX3_makesTries_52 : decode cX3_makesTries 52 = .ok (.if_icmp .ge 83, 3) := by decide +kernel
theorem dX3_makesTries_55 : decode cX3_makesTries 55 = .ok (.aload_n 0, 1) := by decide +kernel
theorem dX3_makesTries_56 : decode cX3_makesTries 56 = .ok (.getfield 83, 3) := by decide +kernel
theorem dX3_makesTries_59 : decode cX3_makesTries 59 = .ok (.iload_n 2, 1) := by decide +kernel
theorem dX3_makesTries_60 : decode cX3_makesTries 60 = .ok (.baload, 1) := by decide +kernel
theorem dX3_makesTries_61 : decode cX3_makesTries 61 = .ok (.ifCond .eq 68, 3) := by decide +kernel
theorem dX3_makesTries_64 : decode cX3_makesTries 64 = .ok (.aload_n 0, 1) := by decide +kernel
theorem dX3_makesTries_65 : decode cX3_makesTries 65 = .ok (.getfield 52, 3) := by decide +kernel
theorem dX3_makesTries_68 : decode cX3_makesTries 68 = .ok (.iload_n 2, 1) := by decide +kernel
theorem dX3_makesTries_69 : decode cX3_makesTries 69 = .ok (.iaload, 1) := by decide +kernel
theorem dX3_makesTries_70 : decode cX3_makesTries 70 = .ok (.iconst 2, 1) := by decide +kernel
theorem dX3_makesTries_71 : decode cX3_makesTries 71 = .ok (.if_icmp .ne 58, 3) := by decide +kernel
theorem dX3_makesTries_74 : decode cX3_makesTries 74 = .ok (.aload_n 0, 1) := by decide +kernel
theorem dX3_makesTries_75 : decode cX3_makesTries 75 = .ok (.getfield 79, 3) := by decide +kernel
theorem dX3_makesTries_78 : decode cX3_makesTries 78 = .ok (.iload_n 2, 1) := by decide +kernel
theorem dX3_makesTries_79 : decode cX3_makesTries 79 = .ok (.iconst 0, 1) := by decide +kernel
theorem dX3_makesTries_80 : decode cX3_makesTries 80 = .ok (.bastore, 1) := by decide +kernel
theorem dX3_makesTries_81 : decode cX3_makesTries 81 = .ok (.aload_n 0, 1) := by decide +kernel
theorem dX3_makesTries_82 : decode cX3_makesTries 82 = .ok (.getfield 94, 3) := by decide +kernel
theorem dX3_makesTries_85 : decode cX3_makesTries 85 = .ok (.sipush 200, 3) := by decide +kernel
theorem dX3_makesTries_88 : decode cX3_makesTries 88 = .ok (.if_icmp .ne 13, 3) := by decide +kernel
theorem dX3_makesTries_91 : decode cX3_makesTries 91 = .ok (.aload_n 0, 1) := by decide +kernel
theorem dX3_makesTries_92 : decode cX3_makesTries 92 = .ok (.iload_n 2, 1) := by decide +kernel
theorem dX3_makesTries_93 : decode cX3_makesTries 93 = .ok (.iconst 4, 1) := by decide +kernel
theorem dX3_makesTries_94 : decode cX3_makesTries 94 = .ok (.invokevirtual 114, 3) := by decide +kernel
theorem dX3_makesTries_97 : decode cX3_makesTries 97 = .ok (.pop, 1) := by decide +kernel
theorem dX3_makesTries_98 : decode cX3_makesTries 98 = .ok (.goto 31, 3) := by decide +kernel
theorem dX3_makesTries_101 : decode cX3_makesTries 101 = .ok (.aload_n 0, 1) := by decide +kernel
theorem dX3_makesTries_102 : decode cX3_makesTries 102 = .ok (.aload_n 0, 1) := by decide +kernel
theorem dX3_makesTries_103 : decode cX3_makesTries 103 = .ok (.getfield 67, 3) := by decide +kernel
theorem dX3_makesTries_106 : decode cX3_makesTries 106 = .ok (.iconst 3, 1) := by decide +kernel
theorem dX3_makesTries_107 : decode cX3_makesTries 107 = .ok (.iload_n 2, 1) := by decide +kernel
theorem dX3_makesTries_108 : decode cX3_makesTries 108 = .ok (.imul, 1) := by decide +kernel
theorem dX3_makesTries_109 : decode cX3_makesTries 109 = .ok (.aload_n 0, 1) := by decide +kernel
theorem dX3_makesTries_110 : decode cX3_makesTries 110 = .ok (.getfield 73, 3) := by decide +kernel
theorem dX3_makesTries_113 : decode cX3_makesTries 113 = .ok (.iload_n 2, 1) := by decide +kernel
theorem dX3_makesTries_114 : decode cX3_makesTries 114 = .ok (.iaload, 1) := by decide +kernel
theorem dX3_makesTries_115 : decode cX3_makesTries 115 = .ok (.iadd, 1) := by decide +kernel
theorem dX3_makesTries_116 : decode cX3_makesTries 116 = .ok (.iaload, 1) := by decide +kernel
theorem dX3_makesTries_117 : decode cX3_makesTries 117 = .ok (.aload_n 0, 1) := by decide +kernel
theorem dX3_makesTries_118 : decode cX3_makesTries 118 = .ok (.getfield 46, 3) := by decide +kernel
theorem dX3_makesTries_121 : decode cX3_makesTries 121 = .ok (.iload_n 2, 1) := by decide +kernel
theorem dX3_makesTries_122 : decode cX3_makesTries 122 = .ok (.iaload, 1) := by decide +kernel
theorem dX3_makesTries_123 : decode cX3_makesTries 123 = .ok (.iconst 1, 1) := by decide +kernel
theorem dX3_makesTries_124 : decode cX3_makesTries 124 = .ok (.isub, 1) := by decide +kernel
theorem dX3_makesTries_125 : decode cX3_makesTries 125 = .ok (.iload_n 2, 1) := by decide +kernel
theorem dX3_makesTries_126 : decode cX3_makesTries 126 = .ok (.invokevirtual 121, 3) := by decide +kernel
theorem dX3_makesTries_129 : decode cX3_makesTries 129 = .ok (.iinc 2 1, 3) := by decide +kernel
theorem dX3_makesTries_132 : decode cX3_makesTries 132 = .ok (.goto (-82), 3) := by decide +kernel
theorem dX3_makesTries_135 : decode cX3_makesTries 135 = .ok (.return_, 1) := by decide +kernel
theorem dX3_firstQueued_0 : decode cX3_firstQueued 0 = .ok (.iconst (-1), 1) := by decide +kernel
theorem dX3_firstQueued_1 : decode cX3_firstQueued 1 = .ok (.istore_n 2, 1) := by decide +kernel
theorem dX3_firstQueued_2 : decode cX3_firstQueued 2 = .ok (.aload_n 0, 1) := by decide +kernel
theorem dX3_firstQueued_3 : decode cX3_firstQueued 3 = .ok (.getfield 94, 3) := by decide +kernel
theorem dX3_firstQueued_6 : decode cX3_firstQueued 6 = .ok (.iconst 1, 1) := by decide +kernel
theorem dX3_firstQueued_7 : decode cX3_firstQueued 7 = .ok (.isub, 1) := by decide +kernel
theorem dX3_firstQueued_8 : decode cX3_firstQueued 8 = .ok (.istore_n 3, 1) := by decide +kernel
theorem dX3_firstQueued_9 : decode cX3_firstQueued 9 = .ok (.iload_n 3, 1) := by decide +kernel
theorem dX3_firstQueued_10 : decode cX3_firstQueued 10 = .ok (.ifCond .lt 34, 3) := by decide +kernel
theorem dX3_firstQueued_13 : decode cX3_firstQueued 13 = .ok (.aload_n 0, 1) := by decide +kernel
theorem dX3_firstQueued_14 : decode cX3_firstQueued 14 = .ok (.getfield 43, 3) := by decide +kernel
theorem dX3_firstQueued_17 : decode cX3_firstQueued 17 = .ok (.iload_n 3, 1) := by decide +kernel
theorem dX3_firstQueued_18 : decode cX3_firstQueued 18 = .ok (.iaload, 1) := by decide +kernel
theorem dX3_firstQueued_19 : decode cX3_firstQueued 19 = .ok (.iload_n 1, 1) := by decide +kernel
theorem dX3_firstQueued_20 : decode cX3_firstQueued 20 = .ok (.if_icmp .ne 16, 3) := by decide +kernel
theorem dX3_firstQueued_23 : decode cX3_firstQueued 23 = .ok (.aload_n 0, 1) := by decide +kernel
theorem dX3_firstQueued_24 : decode cX3_firstQueued 24 = .ok (.getfield 52, 3) := by decide +kernel
theorem dX3_firstQueued_27 : decode cX3_firstQueued 27 = .ok (.iload_n 3, 1) := by decide +kernel
theorem dX3_firstQueued_28 : decode cX3_firstQueued 28 = .ok (.iaload, 1) := by decide +kernel
theorem dX3_firstQueued_29 : decode cX3_firstQueued 29 = .ok (.ifCond .ne 7, 3) := by decide +kernel
theorem dX3_firstQueued_32 : decode cX3_firstQueued 32 = .ok (.iload_n 3, 1) := by decide +kernel
theorem dX3_firstQueued_33 : decode cX3_firstQueued 33 = .ok (.goto 4, 3) := by decide +kernel
theorem dX3_firstQueued_36 : decode cX3_firstQueued 36 = .ok (.iload_n 2, 1) := by decide +kernel
theorem dX3_firstQueued_37 : decode cX3_firstQueued 37 = .ok (.istore_n 2, 1) := by decide +kernel
theorem dX3_firstQueued_38 : decode cX3_firstQueued 38 = .ok (.iinc 3 (-1), 3) := by decide +kernel
theorem dX3_firstQueued_41 : decode cX3_firstQueued 41 = .ok (.goto (-32), 3) := by decide +kernel
theorem dX3_firstQueued_44 : decode cX3_firstQueued 44 = .ok (.iload_n 2, 1) := by decide +kernel
theorem dX3_firstQueued_45 : decode cX3_firstQueued 45 = .ok (.ireturn, 1) := by decide +kernel
theorem dX3_takesQueued_0 : decode cX3_takesQueued 0 = .ok (.aload_n 0, 1) := by decide +kernel
theorem dX3_takesQueued_1 : decode cX3_takesQueued 1 = .ok (.iload_n 1, 1) := by decide +kernel
theorem dX3_takesQueued_2 : decode cX3_takesQueued 2 = .ok (.invokevirtual 141, 3) := by decide +kernel
theorem dX3_takesQueued_5 : decode cX3_takesQueued 5 = .ok (.istore_n 2, 1) := by decide +kernel
theorem dX3_takesQueued_6 : decode cX3_takesQueued 6 = .ok (.iload_n 2, 1) := by decide +kernel
theorem dX3_takesQueued_7 : decode cX3_takesQueued 7 = .ok (.iconst (-1), 1) := by decide +kernel
theorem dX3_takesQueued_8 : decode cX3_takesQueued 8 = .ok (.if_icmp .eq 63, 3) := by decide +kernel
theorem dX3_takesQueued_11 : decode cX3_takesQueued 11 = .ok (.aload_n 0, 1) := by decide +kernel
theorem dX3_takesQueued_12 : decode cX3_takesQueued 12 = .ok (.iload_n 1, 1) := by decide +kernel
theorem dX3_takesQueued_13 : decode cX3_takesQueued 13 = .ok (.iconst 1, 1) := by decide +kernel
theorem dX3_takesQueued_14 : decode cX3_takesQueued 14 = .ok (.invokevirtual 107, 3) := by decide +kernel
theorem dX3_takesQueued_17 : decode cX3_takesQueued 17 = .ok (.aload_n 0, 1) := by decide +kernel
theorem dX3_takesQueued_18 : decode cX3_takesQueued 18 = .ok (.getfield 25, 3) := by decide +kernel
theorem dX3_takesQueued_21 : decode cX3_takesQueued 21 = .ok (.iload_n 1, 1) := by decide +kernel
theorem dX3_takesQueued_22 : decode cX3_takesQueued 22 = .ok (.iaload, 1) := by decide +kernel
theorem dX3_takesQueued_23 : decode cX3_takesQueued 23 = .ok (.if_icmp .ge 48, 3) := by decide +kernel
theorem dX3_takesQueued_26 : decode cX3_takesQueued 26 = .ok (.aload_n 0, 1) := by decide +kernel
theorem dX3_takesQueued_27 : decode cX3_takesQueued 27 = .ok (.getfield 46, 3) := by decide +kernel
theorem dX3_takesQueued_30 : decode cX3_takesQueued 30 = .ok (.iload_n 2, 1) := by decide +kernel
theorem dX3_takesQueued_31 : decode cX3_takesQueued 31 = .ok (.iaload, 1) := by decide +kernel
theorem dX3_takesQueued_32 : decode cX3_takesQueued 32 = .ok (.aload_n 0, 1) := by decide +kernel
theorem dX3_takesQueued_33 : decode cX3_takesQueued 33 = .ok (.getfield 101, 3) := by decide +kernel
theorem dX3_takesQueued_36 : decode cX3_takesQueued 36 = .ok (.isub, 1) := by decide +kernel
theorem dX3_takesQueued_37 : decode cX3_takesQueued 37 = .ok (.aload_n 0, 1) := by decide +kernel
theorem dX3_takesQueued_38 : decode cX3_takesQueued 38 = .ok (.getfield 7, 3) := by decide +kernel
theorem dX3_takesQueued_41 : decode cX3_takesQueued 41 = .ok (.iload_n 1, 1) := by decide +kernel
theorem dX3_takesQueued_42 : decode cX3_takesQueued 42 = .ok (.iaload, 1) := by decide +kernel
theorem dX3_takesQueued_43 : decode cX3_takesQueued 43 = .ok (.if_icmp .ge 14, 3) := by decide +kernel
theorem dX3_takesQueued_46 : decode cX3_takesQueued 46 = .ok (.aload_n 0, 1) := by decide +kernel
theorem dX3_takesQueued_47 : decode cX3_takesQueued 47 = .ok (.iload_n 2, 1) := by decide +kernel
theorem dX3_takesQueued_48 : decode cX3_takesQueued 48 = .ok (.bipush 6, 2) := by decide +kernel
theorem dX3_takesQueued_50 : decode cX3_takesQueued 50 = .ok (.invokevirtual 114, 3) := by decide +kernel
theorem dX3_takesQueued_53 : decode cX3_takesQueued 53 = .ok (.pop, 1) := by decide +kernel
theorem dX3_takesQueued_54 : decode cX3_takesQueued 54 = .ok (.goto 8, 3) := by decide +kernel
theorem dX3_takesQueued_57 : decode cX3_takesQueued 57 = .ok (.aload_n 0, 1) := by decide +kernel
theorem dX3_takesQueued_58 : decode cX3_takesQueued 58 = .ok (.iload_n 2, 1) := by decide +kernel
theorem dX3_takesQueued_59 : decode cX3_takesQueued 59 = .ok (.invokevirtual 117, 3) := by decide +kernel
theorem dX3_takesQueued_62 : decode cX3_takesQueued 62 = .ok (.aload_n 0, 1) := by decide +kernel
theorem dX3_takesQueued_63 : decode cX3_takesQueued 63 = .ok (.iload_n 1, 1) := by decide +kernel
theorem dX3_takesQueued_64 : decode cX3_takesQueued 64 = .ok (.invokevirtual 141, 3) := by decide +kernel
theorem dX3_takesQueued_67 : decode cX3_takesQueued 67 = .ok (.istore_n 2, 1) := by decide +kernel
theorem dX3_takesQueued_68 : decode cX3_takesQueued 68 = .ok (.goto (-62), 3) := by decide +kernel
theorem dX3_takesQueued_71 : decode cX3_takesQueued 71 = .ok (.return_, 1) := by decide +kernel
theorem dX3_ticks_0 : decode cX3_ticks 0 = .ok (.aload_n 0, 1) := by decide +kernel
theorem dX3_ticks_1 : decode cX3_ticks 1 = .ok (.dup, 1) := by decide +kernel
theorem dX3_ticks_2 : decode cX3_ticks 2 = .ok (.getfield 101, 3) := by decide +kernel
theorem dX3_ticks_5 : decode cX3_ticks 5 = .ok (.iconst 1, 1) := by decide +kernel
theorem dX3_ticks_6 : decode cX3_ticks 6 = .ok (.iadd, 1) := by decide +kernel
theorem dX3_ticks_7 : decode cX3_ticks 7 = .ok (.putfield 101, 3) := by decide +kernel
theorem dX3_ticks_10 : decode cX3_ticks 10 = .ok (.aload_n 0, 1) := by decide +kernel
theorem dX3_ticks_11 : decode cX3_ticks 11 = .ok (.invokevirtual 145, 3) := by decide +kernel
theorem dX3_ticks_14 : decode cX3_ticks 14 = .ok (.aload_n 0, 1) := by decide +kernel
theorem dX3_ticks_15 : decode cX3_ticks 15 = .ok (.invokevirtual 148, 3) := by decide +kernel
theorem dX3_ticks_18 : decode cX3_ticks 18 = .ok (.aload_n 0, 1) := by decide +kernel
theorem dX3_ticks_19 : decode cX3_ticks 19 = .ok (.getfield 94, 3) := by decide +kernel
theorem dX3_ticks_22 : decode cX3_ticks 22 = .ok (.iconst 1, 1) := by decide +kernel
theorem dX3_ticks_23 : decode cX3_ticks 23 = .ok (.isub, 1) := by decide +kernel
theorem dX3_ticks_24 : decode cX3_ticks 24 = .ok (.istore_n 1, 1) := by decide +kernel
theorem dX3_ticks_25 : decode cX3_ticks 25 = .ok (.iload_n 1, 1) := by decide +kernel
theorem dX3_ticks_26 : decode cX3_ticks 26 = .ok (.ifCond .lt 33, 3) := by decide +kernel
theorem dX3_ticks_29 : decode cX3_ticks 29 = .ok (.aload_n 0, 1) := by decide +kernel
theorem dX3_ticks_30 : decode cX3_ticks 30 = .ok (.getfield 52, 3) := by decide +kernel
theorem dX3_ticks_33 : decode cX3_ticks 33 = .ok (.iload_n 1, 1) := by decide +kernel
theorem dX3_ticks_34 : decode cX3_ticks 34 = .ok (.iaload, 1) := by decide +kernel
theorem dX3_ticks_35 : decode cX3_ticks 35 = .ok (.iconst 2, 1) := by decide +kernel
theorem dX3_ticks_36 : decode cX3_ticks 36 = .ok (.if_icmp .ne 17, 3) := by decide +kernel
theorem dX3_ticks_39 : decode cX3_ticks 39 = .ok (.aload_n 0, 1) := by decide +kernel
theorem dX3_ticks_40 : decode cX3_ticks 40 = .ok (.getfield 79, 3) := by decide +kernel
theorem dX3_ticks_43 : decode cX3_ticks 43 = .ok (.iload_n 1, 1) := by decide +kernel
theorem dX3_ticks_44 : decode cX3_ticks 44 = .ok (.baload, 1) := by decide +kernel
theorem dX3_ticks_45 : decode cX3_ticks 45 = .ok (.ifCond .ne 8, 3) := by decide +kernel
theorem dX3_ticks_48 : decode cX3_ticks 48 = .ok (.aload_n 0, 1) := by decide +kernel
theorem dX3_ticks_49 : decode cX3_ticks 49 = .ok (.iload_n 1, 1) := by decide +kernel
theorem dX3_ticks_50 : decode cX3_ticks 50 = .ok (.invokevirtual 151, 3) := by decide +kernel
theorem dX3_ticks_53 : decode cX3_ticks 53 = .ok (.iinc 1 (-1), 3) := by decide +kernel
theorem dX3_ticks_56 : decode cX3_ticks 56 = .ok (.goto (-31), 3) := by decide +kernel
theorem dX3_ticks_59 : decode cX3_ticks 59 = .ok (.aload_n 0, 1) := by decide +kernel
theorem dX3_ticks_60 : decode cX3_ticks 60 = .ok (.invokevirtual 154, 3) := by decide +kernel
theorem dX3_ticks_63 : decode cX3_ticks 63 = .ok (.iconst 0, 1) := by decide +kernel
theorem dX3_ticks_64 : decode cX3_ticks 64 = .ok (.istore_n 1, 1) := by decide +kernel
theorem dX3_ticks_65 : decode cX3_ticks 65 = .ok (.iload_n 1, 1) := by decide +kernel
theorem dX3_ticks_66 : decode cX3_ticks 66 = .ok (.bipush 6, 2) := by decide +kernel
theorem dX3_ticks_68 : decode cX3_ticks 68 = .ok (.if_icmp .ge 14, 3) := by decide +kernel
theorem dX3_ticks_71 : decode cX3_ticks 71 = .ok (.aload_n 0, 1) := by decide +kernel
theorem dX3_ticks_72 : decode cX3_ticks 72 = .ok (.iload_n 1, 1) := by decide +kernel
theorem dX3_ticks_73 : decode cX3_ticks 73 = .ok (.invokevirtual 157, 3) := by decide +kernel
theorem dX3_ticks_76 : decode cX3_ticks 76 = .ok (.iinc 1 1, 3) := by decide +kernel
theorem dX3_ticks_79 : decode cX3_ticks 79 = .ok (.goto (-14), 3) := by decide +kernel
theorem dX3_ticks_82 : decode cX3_ticks 82 = .ok (.return_, 1) := by decide +kernel
theorem dX3_rootsOver_0 : decode cX3_rootsOver 0 = .ok (.iconst 0, 1) := by decide +kernel
theorem dX3_rootsOver_1 : decode cX3_rootsOver 1 = .ok (.istore_n 1, 1) := by decide +kernel
theorem dX3_rootsOver_2 : decode cX3_rootsOver 2 = .ok (.iconst 0, 1) := by decide +kernel
theorem dX3_rootsOver_3 : decode cX3_rootsOver 3 = .ok (.istore_n 2, 1) := by decide +kernel
theorem dX3_rootsOver_4 : decode cX3_rootsOver 4 = .ok (.iload_n 2, 1) := by decide +kernel
theorem dX3_rootsOver_5 : decode cX3_rootsOver 5 = .ok (.aload_n 0, 1) := by decide +kernel
theorem dX3_rootsOver_6 : decode cX3_rootsOver 6 = .ok (.getfield 94, 3) := by decide +kernel
theorem dX3_rootsOver_9 : decode cX3_rootsOver 9 = .ok (.if_icmp .ge 35, 3) := by decide +kernel
theorem dX3_rootsOver_12 : decode cX3_rootsOver 12 = .ok (.iload_n 1, 1) := by decide +kernel
theorem dX3_rootsOver_13 : decode cX3_rootsOver 13 = .ok (.aload_n 0, 1) := by decide +kernel
theorem dX3_rootsOver_14 : decode cX3_rootsOver 14 = .ok (.getfield 49, 3) := by decide +kernel
theorem dX3_rootsOver_17 : decode cX3_rootsOver 17 = .ok (.iload_n 2, 1) := by decide +kernel
theorem dX3_rootsOver_18 : decode cX3_rootsOver 18 = .ok (.iaload, 1) := by decide +kernel
theorem dX3_rootsOver_19 : decode cX3_rootsOver 19 = .ok (.iconst (-1), 1) := by decide +kernel
theorem dX3_rootsOver_20 : decode cX3_rootsOver 20 = .ok (.if_icmp .ne 15, 3) := by decide +kernel
theorem dX3_rootsOver_23 : decode cX3_rootsOver 23 = .ok (.aload_n 0, 1) := by decide +kernel
theorem dX3_rootsOver_24 : decode cX3_rootsOver 24 = .ok (.iload_n 2, 1) := by decide +kernel
theorem dX3_rootsOver_25 : decode cX3_rootsOver 25 = .ok (.invokevirtual 104, 3) := by decide +kernel
theorem dX3_rootsOver_28 : decode cX3_rootsOver 28 = .ok (.ifCond .eq 7, 3) := by decide +kernel
theorem dX3_rootsOver_31 : decode cX3_rootsOver 31 = .ok (.iconst 1, 1) := by decide +kernel
theorem dX3_rootsOver_32 : decode cX3_rootsOver 32 = .ok (.goto 4, 3) := by decide +kernel
theorem dX3_rootsOver_35 : decode cX3_rootsOver 35 = .ok (.iconst 0, 1) := by decide +kernel
theorem dX3_rootsOver_36 : decode cX3_rootsOver 36 = .ok (.iadd, 1) := by decide +kernel
theorem dX3_rootsOver_37 : decode cX3_rootsOver 37 = .ok (.istore_n 1, 1) := by decide +kernel
theorem dX3_rootsOver_38 : decode cX3_rootsOver 38 = .ok (.iinc 2 1, 3) := by decide +kernel
theorem dX3_rootsOver_41 : decode cX3_rootsOver 41 = .ok (.goto (-37), 3) := by decide +kernel
theorem dX3_rootsOver_44 : decode cX3_rootsOver 44 = .ok (.iload_n 1, 1) := by decide +kernel
theorem dX3_rootsOver_45 : decode cX3_rootsOver 45 = .ok (.ireturn, 1) := by decide +kernel
theorem dX3_pass_0 : decode cX3_pass 0 = .ok (.aload_n 0, 1) := by decide +kernel
theorem dX3_pass_1 : decode cX3_pass 1 = .ok (.iload_n 1, 1) := by decide +kernel
theorem dX3_pass_2 : decode cX3_pass 2 = .ok (.iconst 1, 1) := by decide +kernel
theorem dX3_pass_3 : decode cX3_pass 3 = .ok (.bipush 100, 2) := by decide +kernel
theorem dX3_pass_5 : decode cX3_pass 5 = .ok (.invokestatic 90, 3) := by decide +kernel
theorem dX3_pass_8 : decode cX3_pass 8 = .ok (.ifCond .eq 7, 3) := by decide +kernel
theorem dX3_pass_11 : decode cX3_pass 11 = .ok (.iconst 0, 1) := by decide +kernel
theorem dX3_pass_12 : decode cX3_pass 12 = .ok (.goto 4, 3) := by decide +kernel
theorem dX3_pass_15 : decode cX3_pass 15 = .ok (.iconst 1, 1) := by decide +kernel
theorem dX3_pass_16 : decode cX3_pass 16 = .ok (.putfield 86, 3) := by decide +kernel
theorem dX3_pass_19 : decode cX3_pass 19 = .ok (.aload_n 0, 1) := by decide +kernel
theorem dX3_pass_20 : decode cX3_pass 20 = .ok (.getfield 86, 3) := by decide +kernel
theorem dX3_pass_23 : decode cX3_pass 23 = .ok (.ifCond .le 5, 3) := by decide +kernel
theorem dX3_pass_26 : decode cX3_pass 26 = .ok (.iconst 0, 1) := by decide +kernel
theorem dX3_pass_27 : decode cX3_pass 27 = .ok (.ireturn, 1) := by decide +kernel
theorem dX3_pass_28 : decode cX3_pass 28 = .ok (.aload_n 0, 1) := by decide +kernel
theorem dX3_pass_29 : decode cX3_pass 29 = .ok (.invokevirtual 160, 3) := by decide +kernel
theorem dX3_pass_32 : decode cX3_pass 32 = .ok (.istore_n 2, 1) := by decide +kernel
theorem dX3_pass_33 : decode cX3_pass 33 = .ok (.iconst 0, 1) := by decide +kernel
theorem dX3_pass_34 : decode cX3_pass 34 = .ok (.istore_n 3, 1) := by decide +kernel
theorem dX3_pass_35 : decode cX3_pass 35 = .ok (.iload_n 3, 1) := by decide +kernel
theorem dX3_pass_36 : decode cX3_pass 36 = .ok (.iload_n 1, 1) := by decide +kernel
theorem dX3_pass_37 : decode cX3_pass 37 = .ok (.if_icmp .ge 13, 3) := by decide +kernel
theorem dX3_pass_40 : decode cX3_pass 40 = .ok (.aload_n 0, 1) := by decide +kernel
theorem dX3_pass_41 : decode cX3_pass 41 = .ok (.invokevirtual 164, 3) := by decide +kernel
theorem dX3_pass_44 : decode cX3_pass 44 = .ok (.iinc 3 1, 3) := by decide +kernel
theorem dX3_pass_47 : decode cX3_pass 47 = .ok (.goto (-12), 3) := by decide +kernel
theorem dX3_pass_50 : decode cX3_pass 50 = .ok (.aload_n 0, 1) := by decide +kernel
theorem dX3_pass_51 : decode cX3_pass 51 = .ok (.invokevirtual 160, 3) := by decide +kernel
theorem dX3_pass_54 : decode cX3_pass 54 = .ok (.iload_n 2, 1) := by decide +kernel
theorem dX3_pass_55 : decode cX3_pass 55 = .ok (.isub, 1) := by decide +kernel
theorem dX3_pass_56 : decode cX3_pass 56 = .ok (.ireturn, 1) := by decide +kernel
theorem dX3_time_0 : decode cX3_time 0 = .ok (.aload_n 0, 1) := by decide +kernel
theorem dX3_time_1 : decode cX3_time 1 = .ok (.iconst 0, 1) := by decide +kernel
theorem dX3_time_2 : decode cX3_time 2 = .ok (.putfield 86, 3) := by decide +kernel
theorem dX3_time_5 : decode cX3_time 5 = .ok (.aload_n 0, 1) := by decide +kernel
theorem dX3_time_6 : decode cX3_time 6 = .ok (.getfield 101, 3) := by decide +kernel
theorem dX3_time_9 : decode cX3_time 9 = .ok (.ireturn, 1) := by decide +kernel
theorem dX3_calls_0 : decode cX3_calls 0 = .ok (.aload_n 0, 1) := by decide +kernel
theorem dX3_calls_1 : decode cX3_calls 1 = .ok (.iconst 0, 1) := by decide +kernel
theorem dX3_calls_2 : decode cX3_calls 2 = .ok (.putfield 86, 3) := by decide +kernel
theorem dX3_calls_5 : decode cX3_calls 5 = .ok (.aload_n 0, 1) := by decide +kernel
theorem dX3_calls_6 : decode cX3_calls 6 = .ok (.getfield 94, 3) := by decide +kernel
theorem dX3_calls_9 : decode cX3_calls 9 = .ok (.ireturn, 1) := by decide +kernel
theorem dX3_asksCall_0 : decode cX3_asksCall 0 = .ok (.aload_n 0, 1) := by decide +kernel
theorem dX3_asksCall_1 : decode cX3_asksCall 1 = .ok (.aload_n 0, 1) := by decide +kernel
theorem dX3_asksCall_2 : decode cX3_asksCall 2 = .ok (.iload_n 1, 1) := by decide +kernel
theorem dX3_asksCall_3 : decode cX3_asksCall 3 = .ok (.invokevirtual 125, 3) := by decide +kernel
theorem dX3_asksCall_6 : decode cX3_asksCall 6 = .ok (.ifCond .eq 7, 3) := by decide +kernel
theorem dX3_asksCall_9 : decode cX3_asksCall 9 = .ok (.iconst 0, 1) := by decide +kernel
theorem dX3_asksCall_10 : decode cX3_asksCall 10 = .ok (.goto 4, 3) := by decide +kernel
theorem dX3_asksCall_13 : decode cX3_asksCall 13 = .ok (.iconst 1, 1) := by decide +kernel
theorem dX3_asksCall_14 : decode cX3_asksCall 14 = .ok (.putfield 86, 3) := by decide +kernel
theorem dX3_asksCall_17 : decode cX3_asksCall 17 = .ok (.aload_n 0, 1) := by decide +kernel
theorem dX3_asksCall_18 : decode cX3_asksCall 18 = .ok (.getfield 86, 3) := by decide +kernel
theorem dX3_asksCall_21 : decode cX3_asksCall 21 = .ok (.ifCond .ne 7, 3) := by decide +kernel
theorem dX3_asksCall_24 : decode cX3_asksCall 24 = .ok (.iconst 1, 1) := by decide +kernel
theorem dX3_asksCall_25 : decode cX3_asksCall 25 = .ok (.goto 4, 3) := by decide +kernel
theorem dX3_asksCall_28 : decode cX3_asksCall 28 = .ok (.iconst 0, 1) := by decide +kernel
theorem dX3_asksCall_29 : decode cX3_asksCall 29 = .ok (.ireturn, 1) := by decide +kernel
theorem dX3_state_0 : decode cX3_state 0 = .ok (.aload_n 0, 1) := by decide +kernel
theorem dX3_state_1 : decode cX3_state 1 = .ok (.iload_n 1, 1) := by decide +kernel
theorem dX3_state_2 : decode cX3_state 2 = .ok (.invokevirtual 167, 3) := by decide +kernel
theorem dX3_state_5 : decode cX3_state 5 = .ok (.ifCond .eq 12, 3) := by decide +kernel
theorem dX3_state_8 : decode cX3_state 8 = .ok (.aload_n 0, 1) := by decide +kernel
theorem dX3_state_9 : decode cX3_state 9 = .ok (.getfield 52, 3) := by decide +kernel
theorem dX3_state_12 : decode cX3_state 12 = .ok (.iload_n 1, 1) := by decide +kernel
theorem dX3_state_13 : decode cX3_state 13 = .ok (.iaload, 1) := by decide +kernel
theorem dX3_state_14 : decode cX3_state 14 = .ok (.goto 4, 3) := by decide +kernel
theorem dX3_state_17 : decode cX3_state 17 = .ok (.iconst 0, 1) := by decide +kernel
theorem dX3_state_18 : decode cX3_state 18 = .ok (.ireturn, 1) := by decide +kernel
theorem dX3_origin_0 : decode cX3_origin 0 = .ok (.aload_n 0, 1) := by decide +kernel
theorem dX3_origin_1 : decode cX3_origin 1 = .ok (.iload_n 1, 1) := by decide +kernel
theorem dX3_origin_2 : decode cX3_origin 2 = .ok (.invokevirtual 167, 3) := by decide +kernel
theorem dX3_origin_5 : decode cX3_origin 5 = .ok (.ifCond .eq 25, 3) := by decide +kernel
theorem dX3_origin_8 : decode cX3_origin 8 = .ok (.sipush 1000, 3) := by decide +kernel
theorem dX3_origin_11 : decode cX3_origin 11 = .ok (.aload_n 0, 1) := by decide +kernel
theorem dX3_origin_12 : decode cX3_origin 12 = .ok (.getfield 43, 3) := by decide +kernel
theorem dX3_origin_15 : decode cX3_origin 15 = .ok (.iload_n 1, 1) := by decide +kernel
theorem dX3_origin_16 : decode cX3_origin 16 = .ok (.iaload, 1) := by decide +kernel
theorem dX3_origin_17 : decode cX3_origin 17 = .ok (.imul, 1) := by decide +kernel
theorem dX3_origin_18 : decode cX3_origin 18 = .ok (.aload_n 0, 1) := by decide +kernel
theorem dX3_origin_19 : decode cX3_origin 19 = .ok (.getfield 49, 3) := by decide +kernel
theorem dX3_origin_22 : decode cX3_origin 22 = .ok (.iload_n 1, 1) := by decide +kernel
theorem dX3_origin_23 : decode cX3_origin 23 = .ok (.iaload, 1) := by decide +kernel
theorem dX3_origin_24 : decode cX3_origin 24 = .ok (.iadd, 1) := by decide +kernel
theorem dX3_origin_25 : decode cX3_origin 25 = .ok (.iconst 1, 1) := by decide +kernel
theorem dX3_origin_26 : decode cX3_origin 26 = .ok (.iadd, 1) := by decide +kernel
theorem dX3_origin_27 : decode cX3_origin 27 = .ok (.goto 4, 3) := by decide +kernel
theorem dX3_origin_30 : decode cX3_origin 30 = .ok (.iconst 0, 1) := by decide +kernel
theorem dX3_origin_31 : decode cX3_origin 31 = .ok (.ireturn, 1) := by decide +kernel
theorem dX3_deadline_0 : decode cX3_deadline 0 = .ok (.aload_n 0, 1) := by decide +kernel
theorem dX3_deadline_1 : decode cX3_deadline 1 = .ok (.iload_n 1, 1) := by decide +kernel
theorem dX3_deadline_2 : decode cX3_deadline 2 = .ok (.invokevirtual 167, 3) := by decide +kernel
theorem dX3_deadline_5 : decode cX3_deadline 5 = .ok (.ifCond .eq 12, 3) := by decide +kernel
theorem dX3_deadline_8 : decode cX3_deadline 8 = .ok (.aload_n 0, 1) := by decide +kernel
theorem dX3_deadline_9 : decode cX3_deadline 9 = .ok (.getfield 46, 3) := by decide +kernel
theorem dX3_deadline_12 : decode cX3_deadline 12 = .ok (.iload_n 1, 1) := by decide +kernel
theorem dX3_deadline_13 : decode cX3_deadline 13 = .ok (.iaload, 1) := by decide +kernel
theorem dX3_deadline_14 : decode cX3_deadline 14 = .ok (.goto 4, 3) := by decide +kernel
theorem dX3_deadline_17 : decode cX3_deadline 17 = .ok (.iconst 0, 1) := by decide +kernel
theorem dX3_deadline_18 : decode cX3_deadline 18 = .ok (.ireturn, 1) := by decide +kernel
theorem dX3_overAt_0 : decode cX3_overAt 0 = .ok (.aload_n 0, 1) := by decide +kernel
theorem dX3_overAt_1 : decode cX3_overAt 1 = .ok (.iload_n 1, 1) := by decide +kernel
theorem dX3_overAt_2 : decode cX3_overAt 2 = .ok (.invokevirtual 167, 3) := by decide +kernel
theorem dX3_overAt_5 : decode cX3_overAt 5 = .ok (.ifCond .eq 12, 3) := by decide +kernel
theorem dX3_overAt_8 : decode cX3_overAt 8 = .ok (.aload_n 0, 1) := by decide +kernel
theorem dX3_overAt_9 : decode cX3_overAt 9 = .ok (.getfield 58, 3) := by decide +kernel
theorem dX3_overAt_12 : decode cX3_overAt 12 = .ok (.iload_n 1, 1) := by decide +kernel
theorem dX3_overAt_13 : decode cX3_overAt 13 = .ok (.iaload, 1) := by decide +kernel
theorem dX3_overAt_14 : decode cX3_overAt 14 = .ok (.goto 4, 3) := by decide +kernel
theorem dX3_overAt_17 : decode cX3_overAt 17 = .ok (.iconst 0, 1) := by decide +kernel
theorem dX3_overAt_18 : decode cX3_overAt 18 = .ok (.ireturn, 1) := by decide +kernel
theorem dX3_place_0 : decode cX3_place 0 = .ok (.aload_n 0, 1) := by decide +kernel
theorem dX3_place_1 : decode cX3_place 1 = .ok (.iload_n 1, 1) := by decide +kernel
theorem dX3_place_2 : decode cX3_place 2 = .ok (.invokevirtual 167, 3) := by decide +kernel
theorem dX3_place_5 : decode cX3_place 5 = .ok (.ifCond .ne 7, 3) := by decide +kernel
theorem dX3_place_8 : decode cX3_place 8 = .ok (.iconst 0, 1) := by decide +kernel
theorem dX3_place_9 : decode cX3_place 9 = .ok (.goto 23, 3) := by decide +kernel
theorem dX3_place_12 : decode cX3_place 12 = .ok (.aload_n 0, 1) := by decide +kernel
theorem dX3_place_13 : decode cX3_place 13 = .ok (.getfield 52, 3) := by decide +kernel
theorem dX3_place_16 : decode cX3_place 16 = .ok (.iload_n 1, 1) := by decide +kernel
theorem dX3_place_17 : decode cX3_place 17 = .ok (.iaload, 1) := by decide +kernel
theorem dX3_place_18 : decode cX3_place 18 = .ok (.iconst 2, 1) := by decide +kernel
theorem dX3_place_19 : decode cX3_place 19 = .ok (.if_icmp .ne 12, 3) := by decide +kernel
theorem dX3_place_22 : decode cX3_place 22 = .ok (.aload_n 0, 1) := by decide +kernel
theorem dX3_place_23 : decode cX3_place 23 = .ok (.getfield 73, 3) := by decide +kernel
theorem dX3_place_26 : decode cX3_place 26 = .ok (.iload_n 1, 1) := by decide +kernel
theorem dX3_place_27 : decode cX3_place 27 = .ok (.iaload, 1) := by decide +kernel
theorem dX3_place_28 : decode cX3_place 28 = .ok (.goto 4, 3) := by decide +kernel
theorem dX3_place_31 : decode cX3_place 31 = .ok (.iconst (-1), 1) := by decide +kernel
theorem dX3_place_32 : decode cX3_place 32 = .ok (.ireturn, 1) := by decide +kernel
theorem dX3_isBelow_0 : decode cX3_isBelow 0 = .ok (.aload_n 0, 1) := by decide +kernel
theorem dX3_isBelow_1 : decode cX3_isBelow 1 = .ok (.getfield 49, 3) := by decide +kernel
theorem dX3_isBelow_4 : decode cX3_isBelow 4 = .ok (.iload_n 1, 1) := by decide +kernel
theorem dX3_isBelow_5 : decode cX3_isBelow 5 = .ok (.iaload, 1) := by decide +kernel
theorem dX3_isBelow_6 : decode cX3_isBelow 6 = .ok (.istore_n 3, 1) := by decide +kernel
theorem dX3_isBelow_7 : decode cX3_isBelow 7 = .ok (.iload_n 3, 1) := by decide +kernel
theorem dX3_isBelow_8 : decode cX3_isBelow 8 = .ok (.iload_n 2, 1) := by decide +kernel
theorem dX3_isBelow_9 : decode cX3_isBelow 9 = .ok (.if_icmp .le 13, 3) := by decide +kernel
theorem dX3_isBelow_12 : decode cX3_isBelow 12 = .ok (.aload_n 0, 1) := by decide +kernel
theorem dX3_isBelow_13 : decode cX3_isBelow 13 = .ok (.getfield 49, 3) := by decide +kernel
theorem dX3_isBelow_16 : decode cX3_isBelow 16 = .ok (.iload_n 3, 1) := by decide +kernel
theorem dX3_isBelow_17 : decode cX3_isBelow 17 = .ok (.iaload, 1) := by decide +kernel
theorem dX3_isBelow_18 : decode cX3_isBelow 18 = .ok (.istore_n 3, 1) := by decide +kernel
theorem dX3_isBelow_19 : decode cX3_isBelow 19 = .ok (.goto (-12), 3) := by decide +kernel
theorem dX3_isBelow_22 : decode cX3_isBelow 22 = .ok (.iload_n 3, 1) := by decide +kernel
theorem dX3_isBelow_23 : decode cX3_isBelow 23 = .ok (.iload_n 2, 1) := by decide +kernel
theorem dX3_isBelow_24 : decode cX3_isBelow 24 = .ok (.if_icmp .ne 7, 3) := by decide +kernel
theorem dX3_isBelow_27 : decode cX3_isBelow 27 = .ok (.iconst 1, 1) := by decide +kernel
theorem dX3_isBelow_28 : decode cX3_isBelow 28 = .ok (.goto 4, 3) := by decide +kernel
theorem dX3_isBelow_31 : decode cX3_isBelow 31 = .ok (.iconst 0, 1) := by decide +kernel
theorem dX3_isBelow_32 : decode cX3_isBelow 32 = .ok (.ireturn, 1) := by decide +kernel
theorem dX3_below_0 : decode cX3_below 0 = .ok (.iconst 0, 1) := by decide +kernel
theorem dX3_below_1 : decode cX3_below 1 = .ok (.istore_n 2, 1) := by decide +kernel
theorem dX3_below_2 : decode cX3_below 2 = .ok (.aload_n 0, 1) := by decide +kernel
theorem dX3_below_3 : decode cX3_below 3 = .ok (.iload_n 1, 1) := by decide +kernel
theorem dX3_below_4 : decode cX3_below 4 = .ok (.invokevirtual 167, 3) := by decide +kernel
theorem dX3_below_7 : decode cX3_below 7 = .ok (.ifCond .eq 46, 3) := by decide +kernel
theorem dX3_below_10 : decode cX3_below 10 = .ok (.iload_n 1, 1) := by decide +kernel
theorem dX3_below_11 : decode cX3_below 11 = .ok (.iconst 1, 1) := by decide +kernel
theorem dX3_below_12 : decode cX3_below 12 = .ok (.iadd, 1) := by decide +kernel
theorem dX3_below_13 : decode cX3_below 13 = .ok (.istore_n 3, 1) := by decide +kernel
theorem dX3_below_14 : decode cX3_below 14 = .ok (.iload_n 3, 1) := by decide +kernel
theorem dX3_below_15 : decode cX3_below 15 = .ok (.aload_n 0, 1) := by decide +kernel
theorem dX3_below_16 : decode cX3_below 16 = .ok (.getfield 94, 3) := by decide +kernel
theorem dX3_below_19 : decode cX3_below 19 = .ok (.if_icmp .ge 34, 3) := by decide +kernel
theorem dX3_below_22 : decode cX3_below 22 = .ok (.iload_n 2, 1) := by decide +kernel
theorem dX3_below_23 : decode cX3_below 23 = .ok (.aload_n 0, 1) := by decide +kernel
theorem dX3_below_24 : decode cX3_below 24 = .ok (.iload_n 3, 1) := by decide +kernel
theorem dX3_below_25 : decode cX3_below 25 = .ok (.invokevirtual 104, 3) := by decide +kernel
theorem dX3_below_28 : decode cX3_below 28 = .ok (.ifCond .ne 16, 3) := by decide +kernel
theorem dX3_below_31 : decode cX3_below 31 = .ok (.aload_n 0, 1) := by decide +kernel
theorem dX3_below_32 : decode cX3_below 32 = .ok (.iload_n 3, 1) := by decide +kernel
theorem dX3_below_33 : decode cX3_below 33 = .ok (.iload_n 1, 1) := by decide +kernel
theorem dX3_below_34 : decode cX3_below 34 = .ok (.invokevirtual 170, 3) := by decide +kernel
theorem dX3_below_37 : decode cX3_below 37 = .ok (.ifCond .eq 7, 3) := by decide +kernel
theorem dX3_below_40 : decode cX3_below 40 = .ok (.iconst 1, 1) := by decide +kernel
theorem dX3_below_41 : decode cX3_below 41 = .ok (.goto 4, 3) := by decide +kernel
theorem dX3_below_44 : decode cX3_below 44 = .ok (.iconst 0, 1) := by decide +kernel
theorem dX3_below_45 : decode cX3_below 45 = .ok (.iadd, 1) := by decide +kernel
theorem dX3_below_46 : decode cX3_below 46 = .ok (.istore_n 2, 1) := by decide +kernel
theorem dX3_below_47 : decode cX3_below 47 = .ok (.iinc 3 1, 3) := by decide +kernel
theorem dX3_below_50 : decode cX3_below 50 = .ok (.goto (-36), 3) := by decide +kernel
theorem dX3_below_53 : decode cX3_below 53 = .ok (.iload_n 2, 1) := by decide +kernel
theorem dX3_below_54 : decode cX3_below 54 = .ok (.ireturn, 1) := by decide +kernel
theorem dX3_queuedAt_0 : decode cX3_queuedAt 0 = .ok (.aload_n 0, 1) := by decide +kernel
theorem dX3_queuedAt_1 : decode cX3_queuedAt 1 = .ok (.iload_n 1, 1) := by decide +kernel
theorem dX3_queuedAt_2 : decode cX3_queuedAt 2 = .ok (.invokestatic 97, 3) := by decide +kernel
theorem dX3_queuedAt_5 : decode cX3_queuedAt 5 = .ok (.ifCond .eq 23, 3) := by decide +kernel
theorem dX3_queuedAt_8 : decode cX3_queuedAt 8 = .ok (.iload_n 2, 1) := by decide +kernel
theorem dX3_queuedAt_9 : decode cX3_queuedAt 9 = .ok (.iconst 0, 1) := by decide +kernel
theorem dX3_queuedAt_10 : decode cX3_queuedAt 10 = .ok (.aload_n 0, 1) := by decide +kernel
theorem dX3_queuedAt_11 : decode cX3_queuedAt 11 = .ok (.iload_n 1, 1) := by decide +kernel
theorem dX3_queuedAt_12 : decode cX3_queuedAt 12 = .ok (.iconst 0, 1) := by decide +kernel
theorem dX3_queuedAt_13 : decode cX3_queuedAt 13 = .ok (.invokevirtual 107, 3) := by decide +kernel
theorem dX3_queuedAt_16 : decode cX3_queuedAt 16 = .ok (.iconst 1, 1) := by decide +kernel
theorem dX3_queuedAt_17 : decode cX3_queuedAt 17 = .ok (.isub, 1) := by decide +kernel
theorem dX3_queuedAt_18 : decode cX3_queuedAt 18 = .ok (.invokestatic 90, 3) := by decide +kernel
theorem dX3_queuedAt_21 : decode cX3_queuedAt 21 = .ok (.ifCond .eq 7, 3) := by decide +kernel
theorem dX3_queuedAt_24 : decode cX3_queuedAt 24 = .ok (.iconst 0, 1) := by decide +kernel
theorem dX3_queuedAt_25 : decode cX3_queuedAt 25 = .ok (.goto 4, 3) := by decide +kernel
theorem dX3_queuedAt_28 : decode cX3_queuedAt 28 = .ok (.iconst 1, 1) := by decide +kernel
theorem dX3_queuedAt_29 : decode cX3_queuedAt 29 = .ok (.putfield 86, 3) := by decide +kernel
theorem dX3_queuedAt_32 : decode cX3_queuedAt 32 = .ok (.iconst 0, 1) := by decide +kernel
theorem dX3_queuedAt_33 : decode cX3_queuedAt 33 = .ok (.istore_n 3, 1) := by decide +kernel
theorem dX3_queuedAt_34 : decode cX3_queuedAt 34 = .ok (.iconst 0, 1) := by decide +kernel
theorem dX3_queuedAt_35 : decode cX3_queuedAt 35 = .ok (.istore 4, 2) := by decide +kernel
theorem dX3_queuedAt_37 : decode cX3_queuedAt 37 = .ok (.iconst 0, 1) := by decide +kernel
theorem dX3_queuedAt_38 : decode cX3_queuedAt 38 = .ok (.istore 5, 2) := by decide +kernel
theorem dX3_queuedAt_40 : decode cX3_queuedAt 40 = .ok (.iload 5, 2) := by decide +kernel
theorem dX3_queuedAt_42 : decode cX3_queuedAt 42 = .ok (.aload_n 0, 1) := by decide +kernel
theorem dX3_queuedAt_43 : decode cX3_queuedAt 43 = .ok (.getfield 94, 3) := by decide +kernel
theorem dX3_queuedAt_46 : decode cX3_queuedAt 46 = .ok (.if_icmp .ge 77, 3) := by decide +kernel
theorem dX3_queuedAt_49 : decode cX3_queuedAt 49 = .ok (.aload_n 0, 1) := by decide +kernel
theorem dX3_queuedAt_50 : decode cX3_queuedAt 50 = .ok (.getfield 86, 3) := by decide +kernel
theorem dX3_queuedAt_53 : decode cX3_queuedAt 53 = .ok (.ifCond .ne 70, 3) := by decide +kernel
theorem dX3_queuedAt_56 : decode cX3_queuedAt 56 = .ok (.aload_n 0, 1) := by decide +kernel
theorem dX3_queuedAt_57 : decode cX3_queuedAt 57 = .ok (.getfield 43, 3) := by decide +kernel
theorem dX3_queuedAt_60 : decode cX3_queuedAt 60 = .ok (.iload 5, 2) := by decide +kernel
theorem dX3_queuedAt_62 : decode cX3_queuedAt 62 = .ok (.iaload, 1) := by decide +kernel
theorem dX3_queuedAt_63 : decode cX3_queuedAt 63 = .ok (.iload_n 1, 1) := by decide +kernel
theorem dX3_queuedAt_64 : decode cX3_queuedAt 64 = .ok (.if_icmp .ne 17, 3) := by decide +kernel
theorem dX3_queuedAt_67 : decode cX3_queuedAt 67 = .ok (.aload_n 0, 1) := by decide +kernel
theorem dX3_queuedAt_68 : decode cX3_queuedAt 68 = .ok (.getfield 52, 3) := by decide +kernel
theorem dX3_queuedAt_71 : decode cX3_queuedAt 71 = .ok (.iload 5, 2) := by decide +kernel
theorem dX3_queuedAt_73 : decode cX3_queuedAt 73 = .ok (.iaload, 1) := by decide +kernel
theorem dX3_queuedAt_74 : decode cX3_queuedAt 74 = .ok (.ifCond .ne 7, 3) := by decide +kernel
theorem dX3_queuedAt_77 : decode cX3_queuedAt 77 = .ok (.iconst 1, 1) := by decide +kernel
theorem dX3_queuedAt_78 : decode cX3_queuedAt 78 = .ok (.goto 4, 3) := by decide +kernel
theorem dX3_queuedAt_81 : decode cX3_queuedAt 81 = .ok (.iconst 0, 1) := by decide +kernel
theorem dX3_queuedAt_82 : decode cX3_queuedAt 82 = .ok (.istore 6, 2) := by decide +kernel
theorem dX3_queuedAt_84 : decode cX3_queuedAt 84 = .ok (.iload 6, 2) := by decide +kernel
theorem dX3_queuedAt_86 : decode cX3_queuedAt 86 = .ok (.ifCond .eq 14, 3) := by decide +kernel
theorem dX3_queuedAt_89 : decode cX3_queuedAt 89 = .ok (.iload 4, 2) := by decide +kernel
theorem dX3_queuedAt_91 : decode cX3_queuedAt 91 = .ok (.iload_n 2, 1) := by decide +kernel
theorem dX3_queuedAt_92 : decode cX3_queuedAt 92 = .ok (.if_icmp .ne 8, 3) := by decide +kernel
theorem dX3_queuedAt_95 : decode cX3_queuedAt 95 = .ok (.iload 5, 2) := by decide +kernel
theorem dX3_queuedAt_97 : decode cX3_queuedAt 97 = .ok (.goto 4, 3) := by decide +kernel
theorem dX3_queuedAt_100 : decode cX3_queuedAt 100 = .ok (.iload_n 3, 1) := by decide +kernel
theorem dX3_queuedAt_101 : decode cX3_queuedAt 101 = .ok (.istore_n 3, 1) := by decide +kernel
theorem dX3_queuedAt_102 : decode cX3_queuedAt 102 = .ok (.iload 4, 2) := by decide +kernel
theorem dX3_queuedAt_104 : decode cX3_queuedAt 104 = .ok (.iload 6, 2) := by decide +kernel
theorem dX3_queuedAt_106 : decode cX3_queuedAt 106 = .ok (.ifCond .eq 7, 3) := by decide +kernel
theorem dX3_queuedAt_109 : decode cX3_queuedAt 109 = .ok (.iconst 1, 1) := by decide +kernel
theorem dX3_queuedAt_110 : decode cX3_queuedAt 110 = .ok (.goto 4, 3) := by decide +kernel
theorem dX3_queuedAt_113 : decode cX3_queuedAt 113 = .ok (.iconst 0, 1) := by decide +kernel
theorem dX3_queuedAt_114 : decode cX3_queuedAt 114 = .ok (.iadd, 1) := by decide +kernel
theorem dX3_queuedAt_115 : decode cX3_queuedAt 115 = .ok (.istore 4, 2) := by decide +kernel
theorem dX3_queuedAt_117 : decode cX3_queuedAt 117 = .ok (.iinc 5 1, 3) := by decide +kernel
theorem dX3_queuedAt_120 : decode cX3_queuedAt 120 = .ok (.goto (-80), 3) := by decide +kernel
theorem dX3_queuedAt_123 : decode cX3_queuedAt 123 = .ok (.iload_n 3, 1) := by decide +kernel
theorem dX3_queuedAt_124 : decode cX3_queuedAt 124 = .ok (.ireturn, 1) := by decide +kernel
theorem dX3_count_0 : decode cX3_count 0 = .ok (.aload_n 0, 1) := by decide +kernel
theorem dX3_count_1 : decode cX3_count 1 = .ok (.iload_n 1, 1) := by decide +kernel
theorem dX3_count_2 : decode cX3_count 2 = .ok (.invokestatic 97, 3) := by decide +kernel
theorem dX3_count_5 : decode cX3_count 5 = .ok (.ifCond .ne 7, 3) := by decide +kernel
theorem dX3_count_8 : decode cX3_count 8 = .ok (.iconst 1, 1) := by decide +kernel
theorem dX3_count_9 : decode cX3_count 9 = .ok (.goto 18, 3) := by decide +kernel
theorem dX3_count_12 : decode cX3_count 12 = .ok (.iload_n 2, 1) := by decide +kernel
theorem dX3_count_13 : decode cX3_count 13 = .ok (.iconst 0, 1) := by decide +kernel
theorem dX3_count_14 : decode cX3_count 14 = .ok (.bipush 7, 2) := by decide +kernel
theorem dX3_count_16 : decode cX3_count 16 = .ok (.invokestatic 90, 3) := by decide +kernel
theorem dX3_count_19 : decode cX3_count 19 = .ok (.ifCond .eq 7, 3) := by decide +kernel
theorem dX3_count_22 : decode cX3_count 22 = .ok (.iconst 0, 1) := by decide +kernel
theorem dX3_count_23 : decode cX3_count 23 = .ok (.goto 4, 3) := by decide +kernel
theorem dX3_count_26 : decode cX3_count 26 = .ok (.iconst 2, 1) := by decide +kernel
theorem dX3_count_27 : decode cX3_count 27 = .ok (.putfield 86, 3) := by decide +kernel
theorem dX3_count_30 : decode cX3_count 30 = .ok (.aload_n 0, 1) := by decide +kernel
theorem dX3_count_31 : decode cX3_count 31 = .ok (.getfield 86, 3) := by decide +kernel
theorem dX3_count_34 : decode cX3_count 34 = .ok (.ifCond .le 7, 3) := by decide +kernel
theorem dX3_count_37 : decode cX3_count 37 = .ok (.iconst 0, 1) := by decide +kernel
theorem dX3_count_38 : decode cX3_count 38 = .ok (.goto 9, 3) := by decide +kernel
theorem dX3_count_41 : decode cX3_count 41 = .ok (.aload_n 0, 1) := by decide +kernel
theorem dX3_count_42 : decode cX3_count 42 = .ok (.iload_n 1, 1) := by decide +kernel
theorem dX3_count_43 : decode cX3_count 43 = .ok (.iload_n 2, 1) := by decide +kernel
theorem dX3_count_44 : decode cX3_count 44 = .ok (.invokevirtual 107, 3) := by decide +kernel
theorem dX3_count_47 : decode cX3_count 47 = .ok (.ireturn, 1) := by decide +kernel
theorem dX3_tokens_0 : decode cX3_tokens 0 = .ok (.aload_n 0, 1) := by decide +kernel
theorem dX3_tokens_1 : decode cX3_tokens 1 = .ok (.iload_n 1, 1) := by decide +kernel
theorem dX3_tokens_2 : decode cX3_tokens 2 = .ok (.invokestatic 97, 3) := by decide +kernel
theorem dX3_tokens_5 : decode cX3_tokens 5 = .ok (.ifCond .eq 7, 3) := by decide +kernel
theorem dX3_tokens_8 : decode cX3_tokens 8 = .ok (.iconst 0, 1) := by decide +kernel
theorem dX3_tokens_9 : decode cX3_tokens 9 = .ok (.goto 4, 3) := by decide +kernel
theorem dX3_tokens_12 : decode cX3_tokens 12 = .ok (.iconst 1, 1) := by decide +kernel
theorem dX3_tokens_13 : decode cX3_tokens 13 = .ok (.putfield 86, 3) := by decide +kernel
theorem dX3_tokens_16 : decode cX3_tokens 16 = .ok (.aload_n 0, 1) := by decide +kernel
theorem dX3_tokens_17 : decode cX3_tokens 17 = .ok (.getfield 86, 3) := by decide +kernel
theorem dX3_tokens_20 : decode cX3_tokens 20 = .ok (.ifCond .le 7, 3) := by decide +kernel
theorem dX3_tokens_23 : decode cX3_tokens 23 = .ok (.iconst 0, 1) := by decide +kernel
theorem dX3_tokens_24 : decode cX3_tokens 24 = .ok (.goto 9, 3) := by decide +kernel
theorem dX3_tokens_27 : decode cX3_tokens 27 = .ok (.aload_n 0, 1) := by decide +kernel
theorem dX3_tokens_28 : decode cX3_tokens 28 = .ok (.getfield 34, 3) := by decide +kernel
theorem dX3_tokens_31 : decode cX3_tokens 31 = .ok (.iload_n 1, 1) := by decide +kernel
theorem dX3_tokens_32 : decode cX3_tokens 32 = .ok (.iaload, 1) := by decide +kernel
theorem dX3_tokens_33 : decode cX3_tokens 33 = .ok (.ireturn, 1) := by decide +kernel
theorem dX3_isOpen_0 : decode cX3_isOpen 0 = .ok (.aload_n 0, 1) := by decide +kernel
theorem dX3_isOpen_1 : decode cX3_isOpen 1 = .ok (.iload_n 1, 1) := by decide +kernel
theorem dX3_isOpen_2 : decode cX3_isOpen 2 = .ok (.invokestatic 97, 3) := by decide +kernel
theorem dX3_isOpen_5 : decode cX3_isOpen 5 = .ok (.ifCond .eq 7, 3) := by decide +kernel
theorem dX3_isOpen_8 : decode cX3_isOpen 8 = .ok (.iconst 0, 1) := by decide +kernel
theorem dX3_isOpen_9 : decode cX3_isOpen 9 = .ok (.goto 4, 3) := by decide +kernel
theorem dX3_isOpen_12 : decode cX3_isOpen 12 = .ok (.iconst 1, 1) := by decide +kernel
theorem dX3_isOpen_13 : decode cX3_isOpen 13 = .ok (.putfield 86, 3) := by decide +kernel
theorem dX3_isOpen_16 : decode cX3_isOpen 16 = .ok (.aload_n 0, 1) := by decide +kernel
theorem dX3_isOpen_17 : decode cX3_isOpen 17 = .ok (.getfield 86, 3) := by decide +kernel
theorem dX3_isOpen_20 : decode cX3_isOpen 20 = .ok (.ifCond .ne 15, 3) := by decide +kernel
theorem dX3_isOpen_23 : decode cX3_isOpen 23 = .ok (.aload_n 0, 1) := by decide +kernel
theorem dX3_isOpen_24 : decode cX3_isOpen 24 = .ok (.iload_n 1, 1) := by decide +kernel
theorem dX3_isOpen_25 : decode cX3_isOpen 25 = .ok (.invokevirtual 111, 3) := by decide +kernel
theorem dX3_isOpen_28 : decode cX3_isOpen 28 = .ok (.ifCond .eq 7, 3) := by decide +kernel
theorem dX3_isOpen_31 : decode cX3_isOpen 31 = .ok (.iconst 1, 1) := by decide +kernel
theorem dX3_isOpen_32 : decode cX3_isOpen 32 = .ok (.goto 4, 3) := by decide +kernel
theorem dX3_isOpen_35 : decode cX3_isOpen 35 = .ok (.iconst 0, 1) := by decide +kernel
theorem dX3_isOpen_36 : decode cX3_isOpen 36 = .ok (.ireturn, 1) := by decide +kernel
