theorem dX9_init_16 : decode cX9_init 16 = .ok (.newarray .int, 2) := by decide +kernel
theorem dX9_init_18 : decode cX9_init 18 = .ok (.putfield 13, 3) := by decide +kernel
theorem dX9_init_21 : decode cX9_init 21 = .ok (.aload_n 0, 1) := by decide +kernel
theorem dX9_init_22 : decode cX9_init 22 = .ok (.bipush 30, 2) := by decide +kernel
theorem dX9_init_24 : decode cX9_init 24 = .ok (.newarray .int, 2) := by decide +kernel
theorem dX9_init_26 : decode cX9_init 26 = .ok (.putfield 17, 3) := by decide +kernel
theorem dX9_init_29 : decode cX9_init 29 = .ok (.aload_n 0, 1) := by decide +kernel
theorem dX9_init_30 : decode cX9_init 30 = .ok (.sipush 2100, 3) := by decide +kernel
theorem dX9_init_33 : decode cX9_init 33 = .ok (.newarray .int, 2) := by decide +kernel
theorem dX9_init_35 : decode cX9_init 35 = .ok (.putfield 20, 3) := by decide +kernel
theorem dX9_init_38 : decode cX9_init 38 = .ok (.aload_n 0, 1) := by decide +kernel
theorem dX9_init_39 : decode cX9_init 39 = .ok (.sipush 2100, 3) := by decide +kernel
theorem dX9_init_42 : decode cX9_init 42 = .ok (.newarray .int, 2) := by decide +kernel
theorem dX9_init_44 : decode cX9_init 44 = .ok (.putfield 23, 3) := by decide +kernel
theorem dX9_init_47 : decode cX9_init 47 = .ok (.aload_n 0, 1) := by decide +kernel
theorem dX9_init_48 : decode cX9_init 48 = .ok (.sipush 2100, 3) := by decide +kernel
theorem dX9_init_51 : decode cX9_init 51 = .ok (.newarray .int, 2) := by decide +kernel
theorem dX9_init_53 : decode cX9_init 53 = .ok (.putfield 26, 3) := by decide +kernel
theorem dX9_init_56 : decode cX9_init 56 = .ok (.aload_n 0, 1) := by decide +kernel
theorem dX9_init_57 : decode cX9_init 57 = .ok (.sipush 2100, 3) := by decide +kernel
theorem dX9_init_60 : decode cX9_init 60 = .ok (.newarray .int, 2) := by decide +kernel
theorem dX9_init_62 : decode cX9_init 62 = .ok (.putfield 29, 3) := by decide +kernel
theorem dX9_init_65 : decode cX9_init 65 = .ok (.aload_n 0, 1) := by decide +kernel
theorem dX9_init_66 : decode cX9_init 66 = .ok (.sipush 2100, 3) := by decide +kernel
theorem dX9_init_69 : decode cX9_init 69 = .ok (.newarray .int, 2) := by decide +kernel
theorem dX9_init_71 : decode cX9_init 71 = .ok (.putfield 32, 3) := by decide +kernel
theorem dX9_init_74 : decode cX9_init 74 = .ok (.aload_n 0, 1) := by decide +kernel
theorem dX9_init_75 : decode cX9_init 75 = .ok (.sipush 2100, 3) := by decide +kernel
theorem dX9_init_78 : decode cX9_init 78 = .ok (.newarray .int, 2) := by decide +kernel
theorem dX9_init_80 : decode cX9_init 80 = .ok (.putfield 35, 3) := by decide +kernel
theorem dX9_init_83 : decode cX9_init 83 = .ok (.aload_n 0, 1) := by decide +kernel
theorem dX9_init_84 : decode cX9_init 84 = .ok (.sipush 2100, 3) := by decide +kernel
theorem dX9_init_87 : decode cX9_init 87 = .ok (.newarray .int, 2) := by decide +kernel
theorem dX9_init_89 : decode cX9_init 89 = .ok (.putfield 38, 3) := by decide +kernel
theorem dX9_init_92 : decode cX9_init 92 = .ok (.aload_n 0, 1) := by decide +kernel
theorem dX9_init_93 : decode cX9_init 93 = .ok (.sipush 2100, 3) := by decide +kernel
theorem dX9_init_96 : decode cX9_init 96 = .ok (.newarray .int, 2) := by decide +kernel
theorem dX9_init_98 : decode cX9_init 98 = .ok (.putfield 41, 3) := by decide +kernel
theorem dX9_init_101 : decode cX9_init 101 = .ok (.aload_n 0, 1) := by decide +kernel
theorem dX9_init_102 : decode cX9_init 102 = .ok (.sipush 2100, 3) := by decide +kernel
theorem dX9_init_105 : decode cX9_init 105 = .ok (.newarray .int, 2) := by decide +kernel
theorem dX9_init_107 : decode cX9_init 107 = .ok (.putfield 44, 3) := by decide +kernel
theorem dX9_init_110 : decode cX9_init 110 = .ok (.aload_n 0, 1) := by decide +kernel
theorem dX9_init_111 : decode cX9_init 111 = .ok (.sipush 4000, 3) := by decide +kernel
theorem dX9_init_114 : decode cX9_init 114 = .ok (.newarray .byte, 2) := by decide +kernel
theorem dX9_init_116 : decode cX9_init 116 = .ok (.putfield 47, 3) := by decide +kernel
theorem dX9_init_119 : decode cX9_init 119 = .ok (.aload_n 0, 1) := by decide +kernel
theorem dX9_init_120 : decode cX9_init 120 = .ok (.sipush 300, 3) := by decide +kernel
theorem dX9_init_123 : decode cX9_init 123 = .ok (.newarray .int, 2) := by decide +kernel
theorem dX9_init_125 : decode cX9_init 125 = .ok (.putfield 50, 3) := by decide +kernel
theorem dX9_init_128 : decode cX9_init 128 = .ok (.aload_n 0, 1) := by decide +kernel
theorem dX9_init_129 : decode cX9_init 129 = .ok (.sipush 300, 3) := by decide +kernel
theorem dX9_init_132 : decode cX9_init 132 = .ok (.newarray .int, 2) := by decide +kernel
theorem dX9_init_134 : decode cX9_init 134 = .ok (.putfield 53, 3) := by decide +kernel
theorem dX9_init_137 : decode cX9_init 137 = .ok (.aload_n 0, 1) := by decide +kernel
theorem dX9_init_138 : decode cX9_init 138 = .ok (.sipush 300, 3) := by decide +kernel
theorem dX9_init_141 : decode cX9_init 141 = .ok (.newarray .int, 2) := by decide +kernel
theorem dX9_init_143 : decode cX9_init 143 = .ok (.putfield 56, 3) := by decide +kernel
theorem dX9_init_146 : decode cX9_init 146 = .ok (.aload_n 0, 1) := by decide +kernel
theorem dX9_init_147 : decode cX9_init 147 = .ok (.sipush 300, 3) := by decide +kernel
theorem dX9_init_150 : decode cX9_init 150 = .ok (.newarray .int, 2) := by decide +kernel
theorem dX9_init_152 : decode cX9_init 152 = .ok (.putfield 59, 3) := by decide +kernel
theorem dX9_init_155 : decode cX9_init 155 = .ok (.aload_n 0, 1) := by decide +kernel
theorem dX9_init_156 : decode cX9_init 156 = .ok (.sipush 300, 3) := by decide +kernel
theorem dX9_init_159 : decode cX9_init 159 = .ok (.newarray .int, 2) := by decide +kernel
theorem dX9_init_161 : decode cX9_init 161 = .ok (.putfield 62, 3) := by decide +kernel
theorem dX9_init_164 : decode cX9_init 164 = .ok (.aload_n 0, 1) := by decide +kernel
theorem dX9_init_165 : decode cX9_init 165 = .ok (.bipush 22, 2) := by decide +kernel
theorem dX9_init_167 : decode cX9_init 167 = .ok (.newarray .int, 2) := by decide +kernel
theorem dX9_init_169 : decode cX9_init 169 = .ok (.putfield 65, 3) := by decide +kernel
theorem dX9_init_172 : decode cX9_init 172 = .ok (.aload_n 0, 1) := by decide +kernel
theorem dX9_init_173 : decode cX9_init 173 = .ok (.bipush 6, 2) := by decide +kernel
theorem dX9_init_175 : decode cX9_init 175 = .ok (.newarray .int, 2) := by decide +kernel
theorem dX9_init_177 : decode cX9_init 177 = .ok (.putfield 68, 3) := by decide +kernel
theorem dX9_init_180 : decode cX9_init 180 = .ok (.aload_n 0, 1) := by decide +kernel
theorem dX9_init_181 : decode cX9_init 181 = .ok (.bipush 6, 2) := by decide +kernel
theorem dX9_init_183 : decode cX9_init 183 = .ok (.newarray .int, 2) := by decide +kernel
theorem dX9_init_185 : decode cX9_init 185 = .ok (.putfield 71, 3) := by decide +kernel
theorem dX9_init_188 : decode cX9_init 188 = .ok (.aload_n 0, 1) := by decide +kernel
theorem dX9_init_189 : decode cX9_init 189 = .ok (.sipush 4000, 3) := by decide +kernel
theorem dX9_init_192 : decode cX9_init 192 = .ok (.newarray .int, 2) := by decide +kernel
theorem dX9_init_194 : decode cX9_init 194 = .ok (.putfield 74, 3) := by decide +kernel
theorem dX9_init_197 : decode cX9_init 197 = .ok (.aload_n 0, 1) := by decide +kernel
theorem dX9_init_198 : decode cX9_init 198 = .ok (.sipush 4000, 3) := by decide +kernel
theorem dX9_init_201 : decode cX9_init 201 = .ok (.newarray .int, 2) := by decide +kernel
theorem dX9_init_203 : decode cX9_init 203 = .ok (.putfield 77, 3) := by decide +kernel
theorem dX9_init_206 : decode cX9_init 206 = .ok (.aload_n 0, 1) := by decide +kernel
theorem dX9_init_207 : decode cX9_init 207 = .ok (.iconst 4, 1) := by decide +kernel
theorem dX9_init_208 : decode cX9_init 208 = .ok (.newarray .int, 2) := by decide +kernel
theorem dX9_init_210 : decode cX9_init 210 = .ok (.putfield 80, 3) := by decide +kernel
theorem dX9_init_213 : decode cX9_init 213 = .ok (.aload_n 0, 1) := by decide +kernel
theorem dX9_init_214 : decode cX9_init 214 = .ok (.bipush 60, 2) := by decide +kernel
theorem dX9_init_216 : decode cX9_init 216 = .ok (.newarray .int, 2) := by decide +kernel
theorem dX9_init_218 : decode cX9_init 218 = .ok (.putfield 83, 3) := by decide +kernel
theorem dX9_init_221 : decode cX9_init 221 = .ok (.aload_n 0, 1) := by decide +kernel
theorem dX9_init_222 : decode cX9_init 222 = .ok (.bipush 60, 2) := by decide +kernel
theorem dX9_init_224 : decode cX9_init 224 = .ok (.newarray .int, 2) := by decide +kernel
theorem dX9_init_226 : decode cX9_init 226 = .ok (.putfield 86, 3) := by decide +kernel
theorem dX9_init_229 : decode cX9_init 229 = .ok (.aload_n 0, 1) := by decide +kernel
theorem dX9_init_230 : decode cX9_init 230 = .ok (.bipush 60, 2) := by decide +kernel
theorem dX9_init_232 : decode cX9_init 232 = .ok (.newarray .int, 2) := by decide +kernel
theorem dX9_init_234 : decode cX9_init 234 = .ok (.putfield 89, 3) := by decide +kernel
theorem dX9_init_237 : decode cX9_init 237 = .ok (.aload_n 0, 1) := by decide +kernel
theorem dX9_init_238 : decode cX9_init 238 = .ok (.bipush 60, 2) := by decide +kernel
theorem dX9_init_240 : decode cX9_init 240 = .ok (.newarray .int, 2) := by decide +kernel
theorem dX9_init_242 : decode cX9_init 242 = .ok (.putfield 92, 3) := by decide +kernel
theorem dX9_init_245 : decode cX9_init 245 = .ok (.aload_n 0, 1) := by decide +kernel
theorem dX9_init_246 : decode cX9_init 246 = .ok (.bipush 60, 2) := by decide +kernel
theorem dX9_init_248 : decode cX9_init 248 = .ok (.newarray .int, 2) := by decide +kernel
theorem dX9_init_250 : decode cX9_init 250 = .ok (.putfield 95, 3) := by decide +kernel
theorem dX9_init_253 : decode cX9_init 253 = .ok (.aload_n 0, 1) := by decide +kernel
theorem dX9_init_254 : decode cX9_init 254 = .ok (.sipush 300, 3) := by decide +kernel
theorem dX9_init_257 : decode cX9_init 257 = .ok (.newarray .int, 2) := by decide +kernel
theorem dX9_init_259 : decode cX9_init 259 = .ok (.putfield 98, 3) := by decide +kernel
theorem dX9_init_262 : decode cX9_init 262 = .ok (.aload_n 0, 1) := by decide +kernel
theorem dX9_init_263 : decode cX9_init 263 = .ok (.sipush 300, 3) := by decide +kernel
theorem dX9_init_266 : decode cX9_init 266 = .ok (.newarray .int, 2) := by decide +kernel
theorem dX9_init_268 : decode cX9_init 268 = .ok (.putfield 101, 3) := by decide +kernel
theorem dX9_init_271 : decode cX9_init 271 = .ok (.aload_n 0, 1) := by decide +kernel
theorem dX9_init_272 : decode cX9_init 272 = .ok (.sipush 300, 3) := by decide +kernel
theorem dX9_init_275 : decode cX9_init 275 = .ok (.newarray .int, 2) := by decide +kernel
theorem dX9_init_277 : decode cX9_init 277 = .ok (.putfield 104, 3) := by decide +kernel
theorem dX9_init_280 : decode cX9_init 280 = .ok (.aload_n 0, 1) := by decide +kernel
theorem dX9_init_281 : decode cX9_init 281 = .ok (.sipush 300, 3) := by decide +kernel
theorem dX9_init_284 : decode cX9_init 284 = .ok (.newarray .int, 2) := by decide +kernel
theorem dX9_init_286 : decode cX9_init 286 = .ok (.putfield 107, 3) := by decide +kernel
theorem dX9_init_289 : decode cX9_init 289 = .ok (.aload_n 0, 1) := by decide +kernel
theorem dX9_init_290 : decode cX9_init 290 = .ok (.sipush 300, 3) := by decide +kernel
theorem dX9_init_293 : decode cX9_init 293 = .ok (.newarray .int, 2) := by decide +kernel
theorem dX9_init_295 : decode cX9_init 295 = .ok (.putfield 110, 3) := by decide +kernel
theorem dX9_init_298 : decode cX9_init 298 = .ok (.aload_n 0, 1) := by decide +kernel
theorem dX9_init_299 : decode cX9_init 299 = .ok (.sipush 9000, 3) := by decide +kernel
theorem dX9_init_302 : decode cX9_init 302 = .ok (.newarray .byte, 2) := by decide +kernel
theorem dX9_init_304 : decode cX9_init 304 = .ok (.putfield 113, 3) := by decide +kernel
theorem dX9_init_307 : decode cX9_init 307 = .ok (.iconst 0, 1) := by decide +kernel
theorem dX9_init_308 : decode cX9_init 308 = .ok (.istore_n 1, 1) := by decide +kernel
theorem dX9_init_309 : decode cX9_init 309 = .ok (.iload_n 1, 1) := by decide +kernel
theorem dX9_init_310 : decode cX9_init 310 = .ok (.bipush 30, 2) := by decide +kernel
theorem dX9_init_312 : decode cX9_init 312 = .ok (.if_icmp .ge 16, 3) := by decide +kernel
theorem dX9_init_315 : decode cX9_init 315 = .ok (.aload_n 0, 1) := by decide +kernel
theorem dX9_init_316 : decode cX9_init 316 = .ok (.getfield 13, 3) := by decide +kernel
theorem dX9_init_319 : decode cX9_init 319 = .ok (.iload_n 1, 1) := by decide +kernel
theorem dX9_init_320 : decode cX9_init 320 = .ok (.iconst (-1), 1) := by decide +kernel
theorem dX9_init_321 : decode cX9_init 321 = .ok (.iastore, 1) := by decide +kernel
theorem dX9_init_322 : decode cX9_init 322 = .ok (.iinc 1 1, 3) := by decide +kernel
theorem dX9_init_325 : decode cX9_init 325 = .ok (.goto (-16), 3) := by decide +kernel
theorem dX9_init_328 : decode cX9_init 328 = .ok (.return_, 1) := by decide +kernel
theorem dX9_feed_0 : decode cX9_feed 0 = .ok (.aload_n 0, 1) := by decide +kernel
theorem dX9_feed_1 : decode cX9_feed 1 = .ok (.getfield 116, 3) := by decide +kernel
theorem dX9_feed_4 : decode cX9_feed 4 = .ok (.bipush 20, 2) := by decide +kernel
theorem dX9_feed_6 : decode cX9_feed 6 = .ok (.iadd, 1) := by decide +kernel
theorem dX9_feed_7 : decode cX9_feed 7 = .ok (.sipush 4000, 3) := by decide +kernel
theorem dX9_feed_10 : decode cX9_feed 10 = .ok (.if_icmp .le 5, 3) := by decide +kernel
theorem dX9_feed_13 : decode cX9_feed 13 = .ok (.iconst (-1), 1) := by decide +kernel
theorem dX9_feed_14 : decode cX9_feed 14 = .ok (.ireturn, 1) := by decide +kernel
theorem dX9_feed_15 : decode cX9_feed 15 = .ok (.aload_n 0, 1) := by decide +kernel
theorem dX9_feed_16 : decode cX9_feed 16 = .ok (.getfield 120, 3) := by decide +kernel
theorem dX9_feed_19 : decode cX9_feed 19 = .ok (.ifCond .eq 6, 3) := by decide +kernel
theorem dX9_feed_22 : decode cX9_feed 22 = .ok (.bipush (-2), 2) := by decide +kernel
theorem dX9_feed_24 : decode cX9_feed 24 = .ok (.ireturn, 1) := by decide +kernel
theorem dX9_feed_25 : decode cX9_feed 25 = .ok (.iconst 0, 1) := by decide +kernel
theorem dX9_feed_26 : decode cX9_feed 26 = .ok (.istore 6, 2) := by decide +kernel
theorem dX9_feed_28 : decode cX9_feed 28 = .ok (.iload 6, 2) := by decide +kernel
theorem dX9_feed_30 : decode cX9_feed 30 = .ok (.bipush 20, 2) := by decide +kernel
theorem dX9_feed_32 : decode cX9_feed 32 = .ok (.if_icmp .ge 90, 3) := by decide +kernel
theorem dX9_feed_35 : decode cX9_feed 35 = .ok (.iload 6, 2) := by decide +kernel
theorem dX9_feed_37 : decode cX9_feed 37 = .ok (.iconst 4, 1) := by decide +kernel
theorem dX9_feed_38 : decode cX9_feed 38 = .ok (.if_icmp .ge 7, 3) := by decide +kernel
theorem dX9_feed_41 : decode cX9_feed 41 = .ok (.iload_n 1, 1) := by decide +kernel
theorem dX9_feed_42 : decode cX9_feed 42 = .ok (.goto 39, 3) := by decide +kernel
theorem dX9_feed_45 : decode cX9_feed 45 = .ok (.iload 6, 2) := by decide +kernel
theorem dX9_feed_47 : decode cX9_feed 47 = .ok (.bipush 8, 2) := by decide +kernel
theorem dX9_feed_49 : decode cX9_feed 49 = .ok (.if_icmp .ge 7, 3) := by decide +kernel
theorem dX9_feed_52 : decode cX9_feed 52 = .ok (.iload_n 2, 1) := by decide +kernel
theorem dX9_feed_53 : decode cX9_feed 53 = .ok (.goto 28, 3) := by decide +kernel
theorem dX9_feed_56 : decode cX9_feed 56 = .ok (.iload 6, 2) := by decide +kernel
theorem dX9_feed_58 : decode cX9_feed 58 = .ok (.bipush 12, 2) := by decide +kernel
theorem dX9_feed_60 : decode cX9_feed 60 = .ok (.if_icmp .ge 7, 3) := by decide +kernel
theorem dX9_feed_63 : decode cX9_feed 63 = .ok (.iload_n 3, 1) := by decide +kernel
theorem dX9_feed_64 : decode cX9_feed 64 = .ok (.goto 17, 3) := by decide +kernel
theorem dX9_feed_67 : decode cX9_feed 67 = .ok (.iload 6, 2) := by decide +kernel
theorem dX9_feed_69 : decode cX9_feed 69 = .ok (.bipush 16, 2) := by decide +kernel
theorem dX9_feed_71 : decode cX9_feed 71 = .ok (.if_icmp .ge 8, 3) := by decide +kernel
theorem dX9_feed_74 : decode cX9_feed 74 = .ok (.iload 4, 2) := by decide +kernel
theorem dX9_feed_76 : decode cX9_feed 76 = .ok (.goto 5, 3) := by decide +kernel
theorem dX9_feed_79 : decode cX9_feed 79 = .ok (.iload 5, 2) := by decide +kernel
theorem dX9_feed_81 : decode cX9_feed 81 = .ok (.istore 7, 2) := by decide +kernel
theorem dX9_feed_83 : decode cX9_feed 83 = .ok (.aload_n 0, 1) := by decide +kernel
theorem dX9_feed_84 : decode cX9_feed 84 = .ok (.getfield 9, 3) := by decide +kernel
theorem dX9_feed_87 : decode cX9_feed 87 = .ok (.aload_n 0, 1) := by decide +kernel
theorem dX9_feed_88 : decode cX9_feed 88 = .ok (.getfield 116, 3) := by decide +kernel
theorem dX9_feed_91 : decode cX9_feed 91 = .ok (.iload 7, 2) := by decide +kernel
theorem dX9_feed_93 : decode cX9_feed 93 = .ok (.bipush 24, 2) := by decide +kernel
theorem dX9_feed_95 : decode cX9_feed 95 = .ok (.bipush 8, 2) := by decide +kernel
theorem dX9_feed_97 : decode cX9_feed 97 = .ok (.iload 6, 2) := by decide +kernel
theorem dX9_feed_99 : decode cX9_feed 99 = .ok (.iconst 4, 1) := by decide +kernel
theorem dX9_feed_100 : decode cX9_feed 100 = .ok (.irem, 1) := by decide +kernel
theorem dX9_feed_101 : decode cX9_feed 101 = .ok (.imul, 1) := by decide +kernel
theorem dX9_feed_102 : decode cX9_feed 102 = .ok (.isub, 1) := by decide +kernel
theorem dX9_feed_103 : decode cX9_feed 103 = .ok (.ishr, 1) := by decide +kernel
theorem dX9_feed_104 : decode cX9_feed 104 = .ok (.i2b, 1) := by decide +kernel
theorem dX9_feed_105 : decode cX9_feed 105 = .ok (.bastore, 1) := by decide +kernel
theorem dX9_feed_106 : decode cX9_feed 106 = .ok (.aload_n 0, 1) := by decide +kernel
theorem dX9_feed_107 : decode cX9_feed 107 = .ok (.dup, 1) := by decide +kernel
theorem dX9_feed_108 : decode cX9_feed 108 = .ok (.getfield 116, 3) := by decide +kernel
theorem dX9_feed_111 : decode cX9_feed 111 = .ok (.iconst 1, 1) := by decide +kernel
theorem dX9_feed_112 : decode cX9_feed 112 = .ok (.iadd, 1) := by decide +kernel
theorem dX9_feed_113 : decode cX9_feed 113 = .ok (.putfield 116, 3) := by decide +kernel
theorem dX9_feed_116 : decode cX9_feed 116 = .ok (.iinc 6 1, 3) := by decide +kernel
theorem dX9_feed_119 : decode cX9_feed 119 = .ok (.goto (-91), 3) := by decide +kernel
theorem dX9_feed_122 : decode cX9_feed 122 = .ok (.aload_n 0, 1) := by decide +kernel
theorem dX9_feed_123 : decode cX9_feed 123 = .ok (.getfield 116, 3) := by decide +kernel
theorem dX9_feed_126 : decode cX9_feed 126 = .ok (.ireturn, 1) := by decide +kernel
theorem dX9_end_0 : decode cX9_end 0 = .ok (.iload_n 1, 1) := by decide +kernel
theorem dX9_end_1 : decode cX9_end 1 = .ok (.ifCond .lt 11, 3) := by decide +kernel
theorem dX9_end_4 : decode cX9_end 4 = .ok (.iload_n 1, 1) := by decide +kernel
theorem dX9_end_5 : decode cX9_end 5 = .ok (.aload_n 0, 1) := by decide +kernel
theorem dX9_end_6 : decode cX9_end 6 = .ok (.getfield 116, 3) := by decide +kernel
theorem dX9_end_9 : decode cX9_end 9 = .ok (.if_icmp .le 5, 3) := by decide +kernel
theorem dX9_end_12 : decode cX9_end 12 = .ok (.iconst (-1), 1) := by decide +kernel
theorem dX9_end_13 : decode cX9_end 13 = .ok (.ireturn, 1) := by decide +kernel
theorem dX9_end_14 : decode cX9_end 14 = .ok (.aload_n 0, 1) := by decide +kernel
theorem dX9_end_15 : decode cX9_end 15 = .ok (.getfield 120, 3) := by decide +kernel
theorem dX9_end_18 : decode cX9_end 18 = .ok (.ifCond .eq 6, 3) := by decide +kernel
theorem dX9_end_21 : decode cX9_end 21 = .ok (.bipush (-2), 2) := by decide +kernel
theorem dX9_end_23 : decode cX9_end 23 = .ok (.ireturn, 1) := by decide +kernel
theorem dX9_end_24 : decode cX9_end 24 = .ok (.aload_n 0, 1) := by decide +kernel
theorem dX9_end_25 : decode cX9_end 25 = .ok (.iload_n 1, 1) := by decide +kernel
theorem dX9_end_26 : decode cX9_end 26 = .ok (.putfield 116, 3) := by decide +kernel
theorem dX9_end_29 : decode cX9_end 29 = .ok (.iload_n 1, 1) := by decide +kernel
theorem dX9_end_30 : decode cX9_end 30 = .ok (.ireturn, 1) := by decide +kernel
theorem dX9_rule_0 : decode cX9_rule 0 = .ok (.iload_n 1, 1) := by decide +kernel
theorem dX9_rule_1 : decode cX9_rule 1 = .ok (.iconst 1, 1) := by decide +kernel
theorem dX9_rule_2 : decode cX9_rule 2 = .ok (.if_icmp .lt 30, 3) := by decide +kernel
theorem dX9_rule_5 : decode cX9_rule 5 = .ok (.iload_n 1, 1) := by decide +kernel
theorem dX9_rule_6 : decode cX9_rule 6 = .ok (.bipush 29, 2) := by decide +kernel
theorem dX9_rule_8 : decode cX9_rule 8 = .ok (.if_icmp .gt 24, 3) := by decide +kernel
theorem dX9_rule_11 : decode cX9_rule 11 = .ok (.iload_n 2, 1) := by decide +kernel
theorem dX9_rule_12 : decode cX9_rule 12 = .ok (.iconst (-1), 1) := by decide +kernel
theorem dX9_rule_13 : decode cX9_rule 13 = .ok (.if_icmp .lt 19, 3) := by decide +kernel
theorem dX9_rule_16 : decode cX9_rule 16 = .ok (.iload_n 2, 1) := by decide +kernel
theorem dX9_rule_17 : decode cX9_rule 17 = .ok (.iconst 4, 1) := by decide +kernel
theorem dX9_rule_18 : decode cX9_rule 18 = .ok (.if_icmp .gt 14, 3) := by decide +kernel
theorem dX9_rule_21 : decode cX9_rule 21 = .ok (.iload_n 3, 1) := by decide +kernel
theorem dX9_rule_22 : decode cX9_rule 22 = .ok (.iconst (-1), 1) := by decide +kernel
theorem dX9_rule_23 : decode cX9_rule 23 = .ok (.if_icmp .lt 9, 3) := by decide +kernel
theorem dX9_rule_26 : decode cX9_rule 26 = .ok (.iload_n 3, 1) := by decide +kernel
theorem dX9_rule_27 : decode cX9_rule 27 = .ok (.ldc 124, 2) := by decide +kernel
theorem dX9_rule_29 : decode cX9_rule 29 = .ok (.if_icmp .le 6, 3) := by decide +kernel
theorem dX9_rule_32 : decode cX9_rule 32 = .ok (.bipush (-3), 2) := by decide +kernel
theorem dX9_rule_34 : decode cX9_rule 34 = .ok (.ireturn, 1) := by decide +kernel
theorem dX9_rule_35 : decode cX9_rule 35 = .ok (.aload_n 0, 1) := by decide +kernel
theorem dX9_rule_36 : decode cX9_rule 36 = .ok (.getfield 120, 3) := by decide +kernel
theorem dX9_rule_39 : decode cX9_rule 39 = .ok (.ifCond .eq 6, 3) := by decide +kernel
theorem dX9_rule_42 : decode cX9_rule 42 = .ok (.bipush (-2), 2) := by decide +kernel
theorem dX9_rule_44 : decode cX9_rule 44 = .ok (.ireturn, 1) := by decide +kernel
theorem dX9_rule_45 : decode cX9_rule 45 = .ok (.aload_n 0, 1) := by decide +kernel
theorem dX9_rule_46 : decode cX9_rule 46 = .ok (.getfield 13, 3) := by decide +kernel
theorem dX9_rule_49 : decode cX9_rule 49 = .ok (.iload_n 1, 1) := by decide +kernel
theorem dX9_rule_50 : decode cX9_rule 50 = .ok (.iaload, 1) := by decide +kernel
theorem dX9_rule_51 : decode cX9_rule 51 = .ok (.istore 4, 2) := by decide +kernel
theorem dX9_rule_53 : decode cX9_rule 53 = .ok (.aload_n 0, 1) := by decide +kernel
theorem dX9_rule_54 : decode cX9_rule 54 = .ok (.getfield 13, 3) := by decide +kernel
theorem dX9_rule_57 : decode cX9_rule 57 = .ok (.iload_n 1, 1) := by decide +kernel
theorem dX9_rule_58 : decode cX9_rule 58 = .ok (.iload_n 2, 1) := by decide +kernel
theorem dX9_rule_59 : decode cX9_rule 59 = .ok (.iastore, 1) := by decide +kernel
theorem dX9_rule_60 : decode cX9_rule 60 = .ok (.aload_n 0, 1) := by decide +kernel
theorem dX9_rule_61 : decode cX9_rule 61 = .ok (.getfield 17, 3) := by decide +kernel
theorem dX9_rule_64 : decode cX9_rule 64 = .ok (.iload_n 1, 1) := by decide +kernel
theorem dX9_rule_65 : decode cX9_rule 65 = .ok (.iload_n 3, 1) := by decide +kernel
theorem dX9_rule_66 : decode cX9_rule 66 = .ok (.iastore, 1) := by decide +kernel
theorem dX9_rule_67 : decode cX9_rule 67 = .ok (.iload 4, 2) := by decide +kernel
theorem dX9_rule_69 : decode cX9_rule 69 = .ok (.ireturn, 1) := by decide +kernel
theorem dX9_groupOf_0 : decode cX9_groupOf 0 = .ok (.iload_n 0, 1) := by decide +kernel
theorem dX9_groupOf_1 : decode cX9_groupOf 1 = .ok (.bipush 24, 2) := by decide +kernel
theorem dX9_groupOf_3 : decode cX9_groupOf 3 = .ok (.if_icmp .le 16, 3) := by decide +kernel
theorem dX9_groupOf_6 : decode cX9_groupOf 6 = .ok (.iload_n 0, 1) := by decide +kernel
theorem dX9_groupOf_7 : decode cX9_groupOf 7 = .ok (.bipush 29, 2) := by decide +kernel
theorem dX9_groupOf_9 : decode cX9_groupOf 9 = .ok (.if_icmp .ne 7, 3) := by decide +kernel
theorem dX9_groupOf_12 : decode cX9_groupOf 12 = .ok (.iconst 0, 1) := by decide +kernel
theorem dX9_groupOf_13 : decode cX9_groupOf 13 = .ok (.goto 5, 3) := by decide +kernel
theorem dX9_groupOf_16 : decode cX9_groupOf 16 = .ok (.bipush 29, 2) := by decide +kernel
theorem dX9_groupOf_18 : decode cX9_groupOf 18 = .ok (.ireturn, 1) := by decide +kernel
theorem dX9_groupOf_19 : decode cX9_groupOf 19 = .ok (.iload_n 0, 1) := by decide +kernel
theorem dX9_groupOf_20 : decode cX9_groupOf 20 = .ok (.bipush 24, 2) := by decide +kernel
theorem dX9_groupOf_22 : decode cX9_groupOf 22 = .ok (.if_icmp .ne 6, 3) := by decide +kernel
theorem dX9_groupOf_25 : decode cX9_groupOf 25 = .ok (.bipush 29, 2) := by decide +kernel
theorem dX9_groupOf_27 : decode cX9_groupOf 27 = .ok (.ireturn, 1) := by decide +kernel
theorem dX9_groupOf_28 : decode cX9_groupOf 28 = .ok (.iload_n 0, 1) := by decide +kernel
theorem dX9_groupOf_29 : decode cX9_groupOf 29 = .ok (.bipush 21, 2) := by decide +kernel
theorem dX9_groupOf_31 : decode cX9_groupOf 31 = .ok (.if_icmp .le 6, 3) := by decide +kernel
theorem dX9_groupOf_34 : decode cX9_groupOf 34 = .ok (.bipush 25, 2) := by decide +kernel
theorem dX9_groupOf_36 : decode cX9_groupOf 36 = .ok (.ireturn, 1) := by decide +kernel
theorem dX9_groupOf_37 : decode cX9_groupOf 37 = .ok (.iload_n 0, 1) := by decide +kernel
theorem dX9_groupOf_38 : decode cX9_groupOf 38 = .ok (.bipush 18, 2) := by decide +kernel
theorem dX9_groupOf_40 : decode cX9_groupOf 40 = .ok (.if_icmp .le 6, 3) := by decide +kernel
theorem dX9_groupOf_43 : decode cX9_groupOf 43 = .ok (.bipush 28, 2) := by decide +kernel
theorem dX9_groupOf_45 : decode cX9_groupOf 45 = .ok (.ireturn, 1) := by decide +kernel
theorem dX9_groupOf_46 : decode cX9_groupOf 46 = .ok (.iload_n 0, 1) := by decide +kernel
theorem dX9_groupOf_47 : decode cX9_groupOf 47 = .ok (.bipush 13, 2) := by decide +kernel
theorem dX9_groupOf_49 : decode cX9_groupOf 49 = .ok (.if_icmp .le 6, 3) := by decide +kernel
theorem dX9_groupOf_52 : decode cX9_groupOf 52 = .ok (.bipush 27, 2) := by decide +kernel
theorem dX9_groupOf_54 : decode cX9_groupOf 54 = .ok (.ireturn, 1) := by decide +kernel
theorem dX9_groupOf_55 : decode cX9_groupOf 55 = .ok (.iload_n 0, 1) := by decide +kernel
theorem dX9_groupOf_56 : decode cX9_groupOf 56 = .ok (.bipush 8, 2) := by decide +kernel
theorem dX9_groupOf_58 : decode cX9_groupOf 58 = .ok (.if_icmp .le 6, 3) := by decide +kernel
theorem dX9_groupOf_61 : decode cX9_groupOf 61 = .ok (.bipush 26, 2) := by decide +kernel
theorem dX9_groupOf_63 : decode cX9_groupOf 63 = .ok (.ireturn, 1) := by decide +kernel
theorem dX9_groupOf_64 : decode cX9_groupOf 64 = .ok (.iload_n 0, 1) := by decide +kernel
theorem dX9_groupOf_65 : decode cX9_groupOf 65 = .ok (.iconst 1, 1) := by decide +kernel
theorem dX9_groupOf_66 : decode cX9_groupOf 66 = .ok (.if_icmp .ne 8, 3) := by decide +kernel
theorem dX9_groupOf_69 : decode cX9_groupOf 69 = .ok (.bipush 24, 2) := by decide +kernel
theorem dX9_groupOf_71 : decode cX9_groupOf 71 = .ok (.goto 35, 3) := by decide +kernel
theorem dX9_groupOf_74 : decode cX9_groupOf 74 = .ok (.iload_n 0, 1) := by decide +kernel
theorem dX9_groupOf_75 : decode cX9_groupOf 75 = .ok (.iconst 2, 1) := by decide +kernel
theorem dX9_groupOf_76 : decode cX9_groupOf 76 = .ok (.if_icmp .eq 8, 3) := by decide +kernel
theorem dX9_groupOf_79 : decode cX9_groupOf 79 = .ok (.iload_n 0, 1) := by decide +kernel
theorem dX9_groupOf_80 : decode cX9_groupOf 80 = .ok (.iconst 3, 1) := by decide +kernel
theorem dX9_groupOf_81 : decode cX9_groupOf 81 = .ok (.if_icmp .ne 8, 3) := by decide +kernel
theorem dX9_groupOf_84 : decode cX9_groupOf 84 = .ok (.bipush 22, 2) := by decide +kernel
theorem dX9_groupOf_86 : decode cX9_groupOf 86 = .ok (.goto 20, 3) := by decide +kernel
theorem dX9_groupOf_89 : decode cX9_groupOf 89 = .ok (.iload_n 0, 1) := by decide +kernel
theorem dX9_groupOf_90 : decode cX9_groupOf 90 = .ok (.iconst 4, 1) := by decide +kernel
theorem dX9_groupOf_91 : decode cX9_groupOf 91 = .ok (.if_icmp .eq 8, 3) := by decide +kernel
theorem dX9_groupOf_94 : decode cX9_groupOf 94 = .ok (.iload_n 0, 1) := by decide +kernel
theorem dX9_groupOf_95 : decode cX9_groupOf 95 = .ok (.iconst 5, 1) := by decide +kernel
theorem dX9_groupOf_96 : decode cX9_groupOf 96 = .ok (.if_icmp .ne 8, 3) := by decide +kernel
theorem dX9_groupOf_99 : decode cX9_groupOf 99 = .ok (.bipush 23, 2) := by decide +kernel
theorem dX9_groupOf_101 : decode cX9_groupOf 101 = .ok (.goto 5, 3) := by decide +kernel
theorem dX9_groupOf_104 : decode cX9_groupOf 104 = .ok (.bipush 25, 2) := by decide +kernel
theorem dX9_groupOf_106 : decode cX9_groupOf 106 = .ok (.ireturn, 1) := by decide +kernel
theorem dX9_layerOf_0 : decode cX9_layerOf 0 = .ok (.iload_n 0, 1) := by decide +kernel
theorem dX9_layerOf_1 : decode cX9_layerOf 1 = .ok (.iconst 1, 1) := by decide +kernel
theorem dX9_layerOf_2 : decode cX9_layerOf 2 = .ok (.if_icmp .ne 7, 3) := by decide +kernel
theorem dX9_layerOf_5 : decode cX9_layerOf 5 = .ok (.iconst 1, 1) := by decide +kernel
theorem dX9_layerOf_6 : decode cX9_layerOf 6 = .ok (.goto 34, 3) := by decide +kernel
theorem dX9_layerOf_9 : decode cX9_layerOf 9 = .ok (.iload_n 0, 1) := by decide +kernel
theorem dX9_layerOf_10 : decode cX9_layerOf 10 = .ok (.bipush 9, 2) := by decide +kernel
theorem dX9_layerOf_12 : decode cX9_layerOf 12 = .ok (.if_icmp .ge 7, 3) := by decide +kernel
theorem dX9_layerOf_15 : decode cX9_layerOf 15 = .ok (.iconst 2, 1) := by decide +kernel
theorem dX9_layerOf_16 : decode cX9_layerOf 16 = .ok (.goto 24, 3) := by decide +kernel
theorem dX9_layerOf_19 : decode cX9_layerOf 19 = .ok (.iload_n 0, 1) := by decide +kernel
theorem dX9_layerOf_20 : decode cX9_layerOf 20 = .ok (.bipush 14, 2) := by decide +kernel
theorem dX9_layerOf_22 : decode cX9_layerOf 22 = .ok (.if_icmp .ge 7, 3) := by decide +kernel
theorem dX9_layerOf_25 : decode cX9_layerOf 25 = .ok (.iconst 3, 1) := by decide +kernel
theorem dX9_layerOf_26 : decode cX9_layerOf 26 = .ok (.goto 14, 3) := by decide +kernel
theorem dX9_layerOf_29 : decode cX9_layerOf 29 = .ok (.iload_n 0, 1) := by decide +kernel
theorem dX9_layerOf_30 : decode cX9_layerOf 30 = .ok (.bipush 19, 2) := by decide +kernel
theorem dX9_layerOf_32 : decode cX9_layerOf 32 = .ok (.if_icmp .ge 7, 3) := by decide +kernel
theorem dX9_layerOf_35 : decode cX9_layerOf 35 = .ok (.iconst 4, 1) := by decide +kernel
theorem dX9_layerOf_36 : decode cX9_layerOf 36 = .ok (.goto 4, 3) := by decide +kernel
theorem dX9_layerOf_39 : decode cX9_layerOf 39 = .ok (.iconst 5, 1) := by decide +kernel
theorem dX9_layerOf_40 : decode cX9_layerOf 40 = .ok (.ireturn, 1) := by decide +kernel
set_option maxRecDepth 20000 in
theorem ggX9_fail_X9_groupOf : GoodIn wsX9_fail wsX9_groupOf := goodIn_r _ [19] (by decide +kernel) (by decide +kernel)
set_option maxRecDepth 20000 in
theorem gX9_fail_X9_groupOf : GoodIn wsX9_fail (va_wsS RX9 131 yX9_groupOf wsX9_groupOf) := goodIn_app (goodIn_of _ (by decide +kernel)) ggX9_fail_X9_groupOf
set_option maxRecDepth 20000 in
theorem ggX9_fail_X9_layerOf : GoodIn wsX9_fail wsX9_layerOf := goodIn_r _ [22] (by decide +kernel) (by decide +kernel)
set_option maxRecDepth 20000 in
theorem gX9_fail_X9_layerOf : GoodIn wsX9_fail (va_wsS RX9 138 yX9_layerOf wsX9_layerOf) := goodIn_app (goodIn_of _ (by decide +kernel)) ggX9_fail_X9_layerOf
theorem dX9_fail_0 : decode cX9_fail 0 = .ok (.aload_n 0, 1) := by decide +kernel
theorem dX9_fail_1 : decode cX9_fail 1 = .ok (.iconst 0, 1) := by decide +kernel
theorem dX9_fail_2 : decode cX9_fail 2 = .ok (.putfield 125, 3) := by decide +kernel
theorem dX9_fail_5 : decode cX9_fail 5 = .ok (.aload_n 0, 1) := by decide +kernel
theorem dX9_fail_6 : decode cX9_fail 6 = .ok (.iconst (-1), 1) := by decide +kernel
theorem dX9_fail_7 : decode cX9_fail 7 = .ok (.putfield 128, 3) := by decide +kernel
theorem dX9_fail_10 : decode cX9_fail 10 = .ok (.iload_n 1, 1) := by decide +kernel
theorem dX9_fail_11 : decode cX9_fail 11 = .ok (.istore 4, 2) := by decide +kernel
theorem dX9_fail_13 : decode cX9_fail 13 = .ok (.iload 4, 2) := by decide +kernel
theorem dX9_fail_15 : decode cX9_fail 15 = .ok (.ifCond .eq 48, 3) := by decide +kernel
theorem dX9_fail_18 : decode cX9_fail 18 = .ok (.aload_n 0, 1) := by decide +kernel
theorem dX9_fail_19 : decode cX9_fail 19 = .ok (.getfield 13, 3) := by decide +kernel
theorem dX9_fail_22 : decode cX9_fail 22 = .ok (.iload 4, 2) := by decide +kernel
theorem dX9_fail_24 : decode cX9_fail 24 = .ok (.iaload, 1) := by decide +kernel
theorem dX9_fail_25 : decode cX9_fail 25 = .ok (.ifCond .lt 28, 3) := by decide +kernel
theorem dX9_fail_28 : decode cX9_fail 28 = .ok (.aload_n 0, 1) := by decide +kernel
theorem dX9_fail_29 : decode cX9_fail 29 = .ok (.aload_n 0, 1) := by decide +kernel
theorem dX9_fail_30 : decode cX9_fail 30 = .ok (.getfield 13, 3) := by decide +kernel
theorem dX9_fail_33 : decode cX9_fail 33 = .ok (.iload 4, 2) := by decide +kernel
theorem dX9_fail_35 : decode cX9_fail 35 = .ok (.iaload, 1) := by decide +kernel
theorem dX9_fail_36 : decode cX9_fail 36 = .ok (.putfield 125, 3) := by decide +kernel
theorem dX9_fail_39 : decode cX9_fail 39 = .ok (.aload_n 0, 1) := by decide +kernel
theorem dX9_fail_40 : decode cX9_fail 40 = .ok (.aload_n 0, 1) := by decide +kernel
theorem dX9_fail_41 : decode cX9_fail 41 = .ok (.getfield 17, 3) := by decide +kernel
theorem dX9_fail_44 : decode cX9_fail 44 = .ok (.iload 4, 2) := by decide +kernel
theorem dX9_fail_46 : decode cX9_fail 46 = .ok (.iaload, 1) := by decide +kernel
theorem dX9_fail_47 : decode cX9_fail 47 = .ok (.putfield 128, 3) := by decide +kernel
theorem dX9_fail_50 : decode cX9_fail 50 = .ok (.goto 13, 3) := by decide +kernel
theorem dX9_fail_53 : decode cX9_fail 53 = .ok (.iload 4, 2) := by decide +kernel
theorem dX9_fail_55 : decode cX9_fail 55 = .ok (.invokestatic 131, 3) := by decide +kernel
theorem dX9_fail_58 : decode cX9_fail 58 = .ok (.istore 4, 2) := by decide +kernel
theorem dX9_fail_60 : decode cX9_fail 60 = .ok (.goto (-47), 3) := by decide +kernel
theorem dX9_fail_63 : decode cX9_fail 63 = .ok (.aload_n 0, 1) := by decide +kernel
theorem dX9_fail_64 : decode cX9_fail 64 = .ok (.getfield 135, 3) := by decide +kernel
theorem dX9_fail_67 : decode cX9_fail 67 = .ok (.istore 4, 2) := by decide +kernel
theorem dX9_fail_69 : decode cX9_fail 69 = .ok (.iload_n 1, 1) := by decide +kernel
theorem dX9_fail_70 : decode cX9_fail 70 = .ok (.invokestatic 138, 3) := by decide +kernel
theorem dX9_fail_73 : decode cX9_fail 73 = .ok (.istore 5, 2) := by decide +kernel
theorem dX9_fail_75 : decode cX9_fail 75 = .ok (.iload 5, 2) := by decide +kernel
theorem dX9_fail_77 : decode cX9_fail 77 = .ok (.iconst 5, 1) := by decide +kernel
theorem dX9_fail_78 : decode cX9_fail 78 = .ok (.if_icmp .eq 10, 3) := by decide +kernel
theorem dX9_fail_81 : decode cX9_fail 81 = .ok (.aload_n 0, 1) := by decide +kernel
theorem dX9_fail_82 : decode cX9_fail 82 = .ok (.getfield 141, 3) := by decide +kernel
theorem dX9_fail_85 : decode cX9_fail 85 = .ok (.ifCond .ne 13, 3) := by decide +kernel
theorem dX9_fail_88 : decode cX9_fail 88 = .ok (.aload_n 0, 1) := by decide +kernel
theorem dX9_fail_89 : decode cX9_fail 89 = .ok (.getfield 71, 3) := by decide +kernel
theorem dX9_fail_92 : decode cX9_fail 92 = .ok (.iload 5, 2) := by decide +kernel
theorem dX9_fail_94 : decode cX9_fail 94 = .ok (.iaload, 1) := by decide +kernel
theorem dX9_fail_95 : decode cX9_fail 95 = .ok (.goto 10, 3) := by decide +kernel
theorem dX9_fail_98 : decode cX9_fail 98 = .ok (.aload_n 0, 1) := by decide +kernel
theorem dX9_fail_99 : decode cX9_fail 99 = .ok (.getfield 68, 3) := by decide +kernel
theorem dX9_fail_102 : decode cX9_fail 102 = .ok (.iload 5, 2) := by decide +kernel
theorem dX9_fail_104 : decode cX9_fail 104 = .ok (.iaload, 1) := by decide +kernel
theorem dX9_fail_105 : decode cX9_fail 105 = .ok (.istore 6, 2) := by decide +kernel
theorem dX9_fail_107 : decode cX9_fail 107 = .ok (.iload 6, 2) := by decide +kernel
theorem dX9_fail_109 : decode cX9_fail 109 = .ok (.ifCond .ge 37, 3) := by decide +kernel
theorem dX9_fail_112 : decode cX9_fail 112 = .ok (.iload 5, 2) := by decide +kernel
theorem dX9_fail_114 : decode cX9_fail 114 = .ok (.iconst 5, 1) := by decide +kernel
theorem dX9_fail_115 : decode cX9_fail 115 = .ok (.if_icmp .eq 10, 3) := by decide +kernel
theorem dX9_fail_118 : decode cX9_fail 118 = .ok (.aload_n 0, 1) := by decide +kernel
theorem dX9_fail_119 : decode cX9_fail 119 = .ok (.getfield 141, 3) := by decide +kernel
theorem dX9_fail_122 : decode cX9_fail 122 = .ok (.ifCond .ne 15, 3) := by decide +kernel
theorem dX9_fail_125 : decode cX9_fail 125 = .ok (.aload_n 0, 1) := by decide +kernel
theorem dX9_fail_126 : decode cX9_fail 126 = .ok (.getfield 71, 3) := by decide +kernel
theorem dX9_fail_129 : decode cX9_fail 129 = .ok (.iload 5, 2) := by decide +kernel
theorem dX9_fail_131 : decode cX9_fail 131 = .ok (.iload 4, 2) := by decide +kernel
theorem dX9_fail_133 : decode cX9_fail 133 = .ok (.iastore, 1) := by decide +kernel
theorem dX9_fail_134 : decode cX9_fail 134 = .ok (.goto 12, 3) := by decide +kernel
theorem dX9_fail_137 : decode cX9_fail 137 = .ok (.aload_n 0, 1) := by decide +kernel
theorem dX9_fail_138 : decode cX9_fail 138 = .ok (.getfield 68, 3) := by decide +kernel
theorem dX9_fail_141 : decode cX9_fail 141 = .ok (.iload 5, 2) := by decide +kernel
theorem dX9_fail_143 : decode cX9_fail 143 = .ok (.iload 4, 2) := by decide +kernel
theorem dX9_fail_145 : decode cX9_fail 145 = .ok (.iastore, 1) := by decide +kernel
theorem dX9_fail_146 : decode cX9_fail 146 = .ok (.iload 4, 2) := by decide +kernel
theorem dX9_fail_148 : decode cX9_fail 148 = .ok (.sipush 300, 3) := by decide +kernel
theorem dX9_fail_151 : decode cX9_fail 151 = .ok (.if_icmp .ge 47, 3) := by decide +kernel
theorem dX9_fail_154 : decode cX9_fail 154 = .ok (.aload_n 0, 1) := by decide +kernel
theorem dX9_fail_155 : decode cX9_fail 155 = .ok (.getfield 50, 3) := by decide +kernel
theorem dX9_fail_158 : decode cX9_fail 158 = .ok (.iload 4, 2) := by decide +kernel
theorem dX9_fail_160 : decode cX9_fail 160 = .ok (.iload_n 1, 1) := by decide +kernel
theorem dX9_fail_161 : decode cX9_fail 161 = .ok (.iastore, 1) := by decide +kernel
theorem dX9_fail_162 : decode cX9_fail 162 = .ok (.aload_n 0, 1) := by decide +kernel
theorem dX9_fail_163 : decode cX9_fail 163 = .ok (.getfield 53, 3) := by decide +kernel
theorem dX9_fail_166 : decode cX9_fail 166 = .ok (.iload 4, 2) := by decide +kernel
theorem dX9_fail_168 : decode cX9_fail 168 = .ok (.iload_n 2, 1) := by decide +kernel
theorem dX9_fail_169 : decode cX9_fail 169 = .ok (.iastore, 1) := by decide +kernel
theorem dX9_fail_170 : decode cX9_fail 170 = .ok (.aload_n 0, 1) := by decide +kernel
theorem dX9_fail_171 : decode cX9_fail 171 = .ok (.getfield 56, 3) := by decide +kernel
theorem dX9_fail_174 : decode cX9_fail 174 = .ok (.iload 4, 2) := by decide +kernel
theorem dX9_fail_176 : decode cX9_fail 176 = .ok (.iload_n 3, 1) := by decide +kernel
theorem dX9_fail_177 : decode cX9_fail 177 = .ok (.iastore, 1) := by decide +kernel
theorem dX9_fail_178 : decode cX9_fail 178 = .ok (.aload_n 0, 1) := by decide +kernel
theorem dX9_fail_179 : decode cX9_fail 179 = .ok (.getfield 59, 3) := by decide +kernel
theorem dX9_fail_182 : decode cX9_fail 182 = .ok (.iload 4, 2) := by decide +kernel
theorem dX9_fail_184 : decode cX9_fail 184 = .ok (.iload 6, 2) := by decide +kernel
theorem dX9_fail_186 : decode cX9_fail 186 = .ok (.iastore, 1) := by decide +kernel
theorem dX9_fail_187 : decode cX9_fail 187 = .ok (.aload_n 0, 1) := by decide +kernel
theorem dX9_fail_188 : decode cX9_fail 188 = .ok (.getfield 62, 3) := by decide +kernel
theorem dX9_fail_191 : decode cX9_fail 191 = .ok (.iload 4, 2) := by decide +kernel
theorem dX9_fail_193 : decode cX9_fail 193 = .ok (.aload_n 0, 1) := by decide +kernel
theorem dX9_fail_194 : decode cX9_fail 194 = .ok (.getfield 125, 3) := by decide +kernel
theorem dX9_fail_197 : decode cX9_fail 197 = .ok (.iastore, 1) := by decide +kernel
theorem dX9_fail_198 : decode cX9_fail 198 = .ok (.aload_n 0, 1) := by decide +kernel
theorem dX9_fail_199 : decode cX9_fail 199 = .ok (.getfield 65, 3) := by decide +kernel
theorem dX9_fail_202 : decode cX9_fail 202 = .ok (.iload_n 1, 1) := by decide +kernel
theorem dX9_fail_203 : decode cX9_fail 203 = .ok (.dup2, 1) := by decide +kernel
theorem dX9_fail_204 : decode cX9_fail 204 = .ok (.iaload, 1) := by decide +kernel
theorem dX9_fail_205 : decode cX9_fail 205 = .ok (.iconst 1, 1) := by decide +kernel
theorem dX9_fail_206 : decode cX9_fail 206 = .ok (.iadd, 1) := by decide +kernel
theorem dX9_fail_207 : decode cX9_fail 207 = .ok (.iastore, 1) := by decide +kernel
theorem dX9_fail_208 : decode cX9_fail 208 = .ok (.aload_n 0, 1) := by decide +kernel
theorem dX9_fail_209 : decode cX9_fail 209 = .ok (.dup, 1) := by decide +kernel
theorem dX9_fail_210 : decode cX9_fail 210 = .ok (.getfield 135, 3) := by decide +kernel
theorem dX9_fail_213 : decode cX9_fail 213 = .ok (.iconst 1, 1) := by decide +kernel
theorem dX9_fail_214 : decode cX9_fail 214 = .ok (.iadd, 1) := by decide +kernel
theorem dX9_fail_215 : decode cX9_fail 215 = .ok (.putfield 135, 3) := by decide +kernel
theorem dX9_fail_218 : decode cX9_fail 218 = .ok (.aload_n 0, 1) := by decide +kernel
theorem dX9_fail_219 : decode cX9_fail 219 = .ok (.aload_n 0, 1) := by decide +kernel
theorem dX9_fail_220 : decode cX9_fail 220 = .ok (.getfield 144, 3) := by decide +kernel
theorem dX9_fail_223 : decode cX9_fail 223 = .ok (.ifCond .ne 11, 3) := by decide +kernel
theorem dX9_fail_226 : decode cX9_fail 226 = .ok (.aload_n 0, 1) := by decide +kernel
theorem dX9_fail_227 : decode cX9_fail 227 = .ok (.getfield 125, 3) := by decide +kernel
theorem dX9_fail_230 : decode cX9_fail 230 = .ok (.iconst 4, 1) := by decide +kernel
theorem dX9_fail_231 : decode cX9_fail 231 = .ok (.if_icmp .ne 7, 3) := by decide +kernel
theorem dX9_fail_234 : decode cX9_fail 234 = .ok (.iconst 1, 1) := by decide +kernel
theorem dX9_fail_235 : decode cX9_fail 235 = .ok (.goto 4, 3) := by decide +kernel
theorem dX9_fail_238 : decode cX9_fail 238 = .ok (.iconst 0, 1) := by decide +kernel
theorem dX9_fail_239 : decode cX9_fail 239 = .ok (.putfield 144, 3) := by decide +kernel
theorem dX9_fail_242 : decode cX9_fail 242 = .ok (.iload 4, 2) := by decide +kernel
theorem dX9_fail_244 : decode cX9_fail 244 = .ok (.ireturn, 1) := by decide +kernel
theorem dX9_goesOn_0 : decode cX9_goesOn 0 = .ok (.iload_n 0, 1) := by decide +kernel
theorem dX9_goesOn_1 : decode cX9_goesOn 1 = .ok (.iconst 1, 1) := by decide +kernel
theorem dX9_goesOn_2 : decode cX9_goesOn 2 = .ok (.if_icmp .eq 8, 3) := by decide +kernel
theorem dX9_goesOn_5 : decode cX9_goesOn 5 = .ok (.iload_n 0, 1) := by decide +kernel
theorem dX9_goesOn_6 : decode cX9_goesOn 6 = .ok (.iconst 2, 1) := by decide +kernel
theorem dX9_goesOn_7 : decode cX9_goesOn 7 = .ok (.if_icmp .ne 7, 3) := by decide +kernel
theorem dX9_goesOn_10 : decode cX9_goesOn 10 = .ok (.iconst 1, 1) := by decide +kernel
theorem dX9_goesOn_11 : decode cX9_goesOn 11 = .ok (.goto 4, 3) := by decide +kernel
theorem dX9_goesOn_14 : decode cX9_goesOn 14 = .ok (.iconst 0, 1) := by decide +kernel
theorem dX9_goesOn_15 : decode cX9_goesOn 15 = .ok (.ireturn, 1) := by decide +kernel
set_option maxRecDepth 20000 in
theorem ggX9_failSheet_X9_fail : GoodIn wsX9_failSheet wsX9_fail := goodIn_r _ [7, 2, 8, 9, 10, 11, 12, 13, 14, 15, 16, 17, 18, 19, 20, 21, 22, 23, 6, 24, 25, 26, 27, 31, 32, 33, 34, 35, 36, 37, 38, 39, 40, 41, 42, 43, 44, 45, 46, 47, 48, 49, 50, 51, 52, 53, 54, 55, 56, 57, 58, 59, 60, 61, 62, 63, 64, 65, 66, 67, 68, 69, 70, 71, 72, 73, 74, 75, 76, 77, 78, 79, 80, 81, 82, 83, 84, 85, 86, 87, 88, 89, 90, 91, 92, 93, 94, 95, 96, 97, 98, 99] (by decide +kernel) (by decide +kernel)
set_option maxRecDepth 20000 in
theorem gX9_failSheet_X9_fail : GoodIn wsX9_failSheet (wsV RX9 147 RX9 yX9_fail wsX9_fail) := goodIn_app (goodIn_of _ (by decide +kernel)) ggX9_failSheet_X9_fail
set_option maxRecDepth 20000 in
theorem ggX9_failSheet_X9_goesOn : GoodIn wsX9_failSheet wsX9_goesOn := goodIn_r _ [30] (by decide +kernel) (by decide +kernel)
set_option maxRecDepth 20000 in
theorem gX9_failSheet_X9_goesOn : GoodIn wsX9_failSheet (va_wsS RX9 154 yX9_goesOn wsX9_goesOn) := goodIn_app (goodIn_of _ (by decide +kernel)) ggX9_failSheet_X9_goesOn
theorem dX9_failSheet_0 : decode cX9_failSheet 0 = .ok (.aload_n 0, 1) := by decide +kernel
theorem dX9_failSheet_1 : decode cX9_failSheet 1 = .ok (.iload_n 1, 1) := by decide +kernel
theorem dX9_failSheet_2 : decode cX9_failSheet 2 = .ok (.iload_n 2, 1) := by decide +kernel
theorem dX9_failSheet_3 : decode cX9_failSheet 3 = .ok (.iload_n 3, 1) := by decide +kernel
theorem dX9_failSheet_4 : decode cX9_failSheet 4 = .ok (.invokevirtual 147, 3) := by decide +kernel
theorem dX9_failSheet_7 : decode cX9_failSheet 7 = .ok (.istore 4, 2) := by decide +kernel
theorem dX9_failSheet_9 : decode cX9_failSheet 9 = .ok (.aload_n 0, 1) := by decide +kernel
theorem dX9_failSheet_10 : decode cX9_failSheet 10 = .ok (.aload_n 0, 1) := by decide +kernel
theorem dX9_failSheet_11 : decode cX9_failSheet 11 = .ok (.getfield 151, 3) := by decide +kernel
theorem dX9_failSheet_14 : decode cX9_failSheet 14 = .ok (.ifCond .ne 21, 3) := by decide +kernel
theorem dX9_failSheet_17 : decode cX9_failSheet 17 = .ok (.aload_n 0, 1) := by decide +kernel
theorem dX9_failSheet_18 : decode cX9_failSheet 18 = .ok (.getfield 125, 3) := by decide +kernel
theorem dX9_failSheet_21 : decode cX9_failSheet 21 = .ok (.invokestatic 154, 3) := by decide +kernel
theorem dX9_failSheet_24 : decode cX9_failSheet 24 = .ok (.ifCond .ne 15, 3) := by decide +kernel
theorem dX9_failSheet_27 : decode cX9_failSheet 27 = .ok (.aload_n 0, 1) := by decide +kernel
theorem dX9_failSheet_28 : decode cX9_failSheet 28 = .ok (.getfield 125, 3) := by decide +kernel
theorem dX9_failSheet_31 : decode cX9_failSheet 31 = .ok (.iconst 4, 1) := by decide +kernel
theorem dX9_failSheet_32 : decode cX9_failSheet 32 = .ok (.if_icmp .eq 7, 3) := by decide +kernel
theorem dX9_failSheet_35 : decode cX9_failSheet 35 = .ok (.iconst 1, 1) := by decide +kernel
theorem dX9_failSheet_36 : decode cX9_failSheet 36 = .ok (.goto 4, 3) := by decide +kernel
theorem dX9_failSheet_39 : decode cX9_failSheet 39 = .ok (.iconst 0, 1) := by decide +kernel
theorem dX9_failSheet_40 : decode cX9_failSheet 40 = .ok (.putfield 151, 3) := by decide +kernel
theorem dX9_failSheet_43 : decode cX9_failSheet 43 = .ok (.return_, 1) := by decide +kernel
set_option maxRecDepth 20000 in
theorem ggX9_failHouse_X9_fail : GoodIn wsX9_failHouse wsX9_fail := goodIn_r _ [9, 1, 10, 11, 12, 13, 14, 15, 16, 17, 18, 19, 20, 21, 22, 23, 24, 25, 8, 26, 27, 28, 29, 38, 39, 40, 41, 42, 43, 44, 45, 46, 47, 48, 49, 50, 51, 52, 53, 54, 55, 56, 57, 58, 59, 60, 61, 62, 63, 64, 65, 66, 67, 68, 69, 70, 71, 72, 73, 74, 75, 76, 77, 78, 79, 80, 81, 82, 83, 84, 85, 86, 87, 88, 89, 90, 91, 92, 93, 94, 95, 96, 97, 98, 99, 100, 101, 102, 103, 104, 105, 106] (by decide +kernel) (by decide +kernel)
set_option maxRecDepth 20000 in
theorem gX9_failHouse_X9_fail : GoodIn wsX9_failHouse (wsV RX9 147 RX9 yX9_fail wsX9_fail) := goodIn_app (goodIn_of _ (by decide +kernel)) ggX9_failHouse_X9_fail
set_option maxRecDepth 20000 in
theorem ggX9_failHouse_X9_goesOn : GoodIn wsX9_failHouse wsX9_goesOn := goodIn_r _ [32] (by decide +kernel) (by decide +kernel)
set_option maxRecDepth 20000 in
theorem gX9_failHouse_X9_goesOn : GoodIn wsX9_failHouse (va_wsS RX9 154 yX9_goesOn wsX9_goesOn) := goodIn_app (goodIn_of _ (by decide +kernel)) ggX9_failHouse_X9_goesOn
set_option maxRecDepth 20000 in
theorem ggX9_failHouse_X9_failSheet : GoodIn wsX9_failHouse wsX9_failSheet := goodIn_r _ [36, 37, 1, 5, 6, 7, 8, 9, 10, 11, 12, 13, 14, 15, 16, 17, 18, 19, 20, 21, 22, 23, 24, 25, 26, 27, 28, 29, 30, 31, 32, 38, 39, 40, 41, 42, 43, 44, 45, 46, 47, 48, 49, 50, 51, 52, 53, 54, 55, 56, 57, 58, 59, 60, 61, 62, 63, 64, 65, 66, 67, 68, 69, 70, 71, 72, 73, 74, 75, 76, 77, 78, 79, 80, 81, 82, 83, 84, 85, 86, 87, 88, 89, 90, 91, 92, 93, 94, 95, 96, 97, 98, 99, 100, 101, 102, 103, 104, 105, 106] (by decide +kernel) (by decide +kernel)
set_option maxRecDepth 20000 in
theorem gX9_failHouse_X9_failSheet : GoodIn wsX9_failHouse (wsV RX9 167 RX9 yX9_failSheet wsX9_failSheet) := goodIn_app (goodIn_of _ (by decide +kernel)) ggX9_failHouse_X9_failSheet
theorem dX9_failHouse_0 : decode cX9_failHouse 0 = .ok (.aload_n 0, 1) := by decide +kernel
theorem dX9_failHouse_1 : decode cX9_failHouse 1 = .ok (.iload_n 1, 1) := by decide +kernel
theorem dX9_failHouse_2 : decode cX9_failHouse 2 = .ok (.iload_n 2, 1) := by decide +kernel
theorem dX9_failHouse_3 : decode cX9_failHouse 3 = .ok (.iload_n 3, 1) := by decide +kernel
theorem dX9_failHouse_4 : decode cX9_failHouse 4 = .ok (.invokevirtual 147, 3) := by decide +kernel
theorem dX9_failHouse_7 : decode cX9_failHouse 7 = .ok (.istore 4, 2) := by decide +kernel
theorem dX9_failHouse_9 : decode cX9_failHouse 9 = .ok (.aload_n 0, 1) := by decide +kernel
theorem dX9_failHouse_10 : decode cX9_failHouse 10 = .ok (.getfield 125, 3) := by decide +kernel
theorem dX9_failHouse_13 : decode cX9_failHouse 13 = .ok (.invokestatic 154, 3) := by decide +kernel
theorem dX9_failHouse_16 : decode cX9_failHouse 16 = .ok (.ifCond .eq 4, 3) := by decide +kernel
theorem dX9_failHouse_19 : decode cX9_failHouse 19 = .ok (.return_, 1) := by decide +kernel
theorem dX9_failHouse_20 : decode cX9_failHouse 20 = .ok (.aload_n 0, 1) := by decide +kernel
theorem dX9_failHouse_21 : decode cX9_failHouse 21 = .ok (.getfield 125, 3) := by decide +kernel
theorem dX9_failHouse_24 : decode cX9_failHouse 24 = .ok (.ifCond .ne 7, 3) := by decide +kernel
theorem dX9_failHouse_27 : decode cX9_failHouse 27 = .ok (.iconst 1, 1) := by decide +kernel
theorem dX9_failHouse_28 : decode cX9_failHouse 28 = .ok (.goto 4, 3) := by decide +kernel
theorem dX9_failHouse_31 : decode cX9_failHouse 31 = .ok (.iconst 0, 1) := by decide +kernel
theorem dX9_failHouse_32 : decode cX9_failHouse 32 = .ok (.istore 5, 2) := by decide +kernel
theorem dX9_failHouse_34 : decode cX9_failHouse 34 = .ok (.aload_n 0, 1) := by decide +kernel
theorem dX9_failHouse_35 : decode cX9_failHouse 35 = .ok (.iconst 1, 1) := by decide +kernel
theorem dX9_failHouse_36 : decode cX9_failHouse 36 = .ok (.putfield 158, 3) := by decide +kernel
theorem dX9_failHouse_39 : decode cX9_failHouse 39 = .ok (.aload_n 0, 1) := by decide +kernel
theorem dX9_failHouse_40 : decode cX9_failHouse 40 = .ok (.dup, 1) := by decide +kernel
theorem dX9_failHouse_41 : decode cX9_failHouse 41 = .ok (.getfield 161, 3) := by decide +kernel
theorem dX9_failHouse_44 : decode cX9_failHouse 44 = .ok (.iconst 1, 1) := by decide +kernel
theorem dX9_failHouse_45 : decode cX9_failHouse 45 = .ok (.iadd, 1) := by decide +kernel
theorem dX9_failHouse_46 : decode cX9_failHouse 46 = .ok (.putfield 161, 3) := by decide +kernel
theorem dX9_failHouse_49 : decode cX9_failHouse 49 = .ok (.iload 5, 2) := by decide +kernel
theorem dX9_failHouse_51 : decode cX9_failHouse 51 = .ok (.ifCond .eq 15, 3) := by decide +kernel
theorem dX9_failHouse_54 : decode cX9_failHouse 54 = .ok (.aload_n 0, 1) := by decide +kernel
theorem dX9_failHouse_55 : decode cX9_failHouse 55 = .ok (.bipush 21, 2) := by decide +kernel
theorem dX9_failHouse_57 : decode cX9_failHouse 57 = .ok (.aload_n 0, 1) := by decide +kernel
theorem dX9_failHouse_58 : decode cX9_failHouse 58 = .ok (.getfield 164, 3) := by decide +kernel
theorem dX9_failHouse_61 : decode cX9_failHouse 61 = .ok (.iload 4, 2) := by decide +kernel
theorem dX9_failHouse_63 : decode cX9_failHouse 63 = .ok (.invokevirtual 167, 3) := by decide +kernel
theorem dX9_failHouse_66 : decode cX9_failHouse 66 = .ok (.return_, 1) := by decide +kernel
set_option maxRecDepth 20000 in
theorem ggX9_throwLine_X9_failHouse : GoodIn wsX9_throwLine wsX9_failHouse := goodIn_r _ [7, 8, 9, 10, 11, 12, 13, 14, 6, 15, 16, 17, 18, 19, 1, 20, 21, 22, 23, 24, 25, 26, 27, 28, 29, 30, 31, 32, 33, 34, 35, 36, 37, 38, 39, 40, 41, 42, 43, 44, 45, 46, 47, 48, 49, 50, 51, 52, 53, 54, 55, 56, 57, 58, 59, 60, 61, 62, 63, 64, 65, 66, 67, 68, 69, 70, 71, 72, 73, 74, 75, 76, 77, 78, 79, 80, 81, 82, 83, 84, 85, 86, 87, 88, 89, 90, 91, 92, 93, 94, 95, 96, 97, 98, 99, 100, 101, 102, 103, 104, 105, 106, 107, 108, 109, 110, 111] (by decide +kernel) (by decide +kernel)
set_option maxRecDepth 20000 in
theorem gX9_throwLine_X9_failHouse : GoodIn wsX9_throwLine (wsV RX9 174 RX9 yX9_failHouse wsX9_failHouse) := goodIn_app (goodIn_of _ (by decide +kernel)) ggX9_throwLine_X9_failHouse
set_option maxRecDepth 20000 in
theorem ggX9_throwLine_X9_failSheet : GoodIn wsX9_throwLine wsX9_failSheet := goodIn_r _ [41, 42, 8, 12, 13, 14, 6, 15, 16, 17, 18, 19, 1, 20, 21, 22, 23, 24, 25, 26, 27, 28, 29, 30, 31, 32, 33, 34, 35, 36, 37, 43, 44, 45, 46, 47, 48, 49, 50, 51, 52, 53, 54, 55, 56, 57, 58, 59, 60, 61, 62, 63, 64, 65, 66, 67, 68, 69, 70, 71, 72, 73, 74, 75, 76, 77, 78, 79, 80, 81, 82, 83, 84, 85, 86, 87, 88, 89, 90, 91, 92, 93, 94, 95, 96, 97, 98, 99, 100, 101, 102, 103, 104, 105, 106, 107, 108, 109, 110, 111] (by decide +kernel) (by decide +kernel)
set_option maxRecDepth 20000 in
theorem gX9_throwLine_X9_failSheet : GoodIn wsX9_throwLine (wsV RX9 167 RX9 yX9_failSheet wsX9_failSheet) := goodIn_app (goodIn_of _ (by decide +kernel)) ggX9_throwLine_X9_failSheet
theorem dX9_throwLine_0 : decode cX9_throwLine 0 = .ok (.aload_n 0, 1) := by decide +kernel
theorem dX9_throwLine_1 : decode cX9_throwLine 1 = .ok (.getfield 141, 3) := by decide +kernel
theorem dX9_throwLine_4 : decode cX9_throwLine 4 = .ok (.ifCond .eq 17, 3) := by decide +kernel
theorem dX9_throwLine_7 : decode cX9_throwLine 7 = .ok (.aload_n 0, 1) := by decide +kernel
theorem dX9_throwLine_8 : decode cX9_throwLine 8 = .ok (.bipush 18, 2) := by decide +kernel
theorem dX9_throwLine_10 : decode cX9_throwLine 10 = .ok (.aload_n 0, 1) := by decide +kernel
theorem dX9_throwLine_11 : decode cX9_throwLine 11 = .ok (.getfield 171, 3) := by decide +kernel
theorem dX9_throwLine_14 : decode cX9_throwLine 14 = .ok (.iload_n 1, 1) := by decide +kernel
theorem dX9_throwLine_15 : decode cX9_throwLine 15 = .ok (.invokevirtual 174, 3) := by decide +kernel
theorem dX9_throwLine_18 : decode cX9_throwLine 18 = .ok (.goto 14, 3) := by decide +kernel
theorem dX9_throwLine_21 : decode cX9_throwLine 21 = .ok (.aload_n 0, 1) := by decide +kernel
theorem dX9_throwLine_22 : decode cX9_throwLine 22 = .ok (.bipush 21, 2) := by decide +kernel
theorem dX9_throwLine_24 : decode cX9_throwLine 24 = .ok (.aload_n 0, 1) := by decide +kernel
theorem dX9_throwLine_25 : decode cX9_throwLine 25 = .ok (.getfield 171, 3) := by decide +kernel
theorem dX9_throwLine_28 : decode cX9_throwLine 28 = .ok (.iload_n 1, 1) := by decide +kernel
theorem dX9_throwLine_29 : decode cX9_throwLine 29 = .ok (.invokevirtual 167, 3) := by decide +kernel
theorem dX9_throwLine_32 : decode cX9_throwLine 32 = .ok (.return_, 1) := by decide +kernel
set_option maxRecDepth 20000 in
theorem ggX9_failLine_X9_fail : GoodIn wsX9_failLine wsX9_fail := goodIn_r _ [8, 2, 9, 10, 11, 12, 13, 14, 15, 16, 17, 18, 19, 20, 21, 22, 23, 24, 7, 25, 26, 27, 28, 48, 49, 50, 51, 52, 53, 54, 55, 56, 57, 58, 59, 60, 61, 62, 63, 64, 65, 66, 67, 68, 69, 70, 71, 72, 73, 74, 75, 76, 77, 78, 79, 80, 81, 82, 83, 84, 85, 86, 87, 88, 89, 90, 91, 92, 93, 94, 95, 96, 97, 98, 99, 100, 101, 102, 103, 104, 105, 106, 107, 108, 109, 110, 111, 112, 113, 114, 115, 116] (by decide +kernel) (by decide +kernel)
set_option maxRecDepth 20000 in
theorem gX9_failLine_X9_fail : GoodIn wsX9_failLine (wsV RX9 147 RX9 yX9_fail wsX9_fail) := goodIn_app (goodIn_of _ (by decide +kernel)) ggX9_failLine_X9_fail
set_option maxRecDepth 20000 in
theorem ggX9_failLine_X9_goesOn : GoodIn wsX9_failLine wsX9_goesOn := goodIn_r _ [31] (by decide +kernel) (by decide +kernel)
set_option maxRecDepth 20000 in
theorem gX9_failLine_X9_goesOn : GoodIn wsX9_failLine (va_wsS RX9 154 yX9_goesOn wsX9_goesOn) := goodIn_app (goodIn_of _ (by decide +kernel)) ggX9_failLine_X9_goesOn
set_option maxRecDepth 20000 in
theorem ggX9_failLine_X9_throwLine : GoodIn wsX9_failLine wsX9_throwLine := goodIn_r _ [35, 13, 1, 36, 37, 38, 7, 39, 2, 40, 41, 42, 4, 5, 6, 8, 9, 10, 11, 12, 14, 15, 16, 17, 18, 19, 20, 21, 22, 23, 24, 25, 26, 27, 28, 29, 30, 31, 43, 44, 45, 46, 47, 48, 49, 50, 51, 52, 53, 54, 55, 56, 57, 58, 59, 60, 61, 62, 63, 64, 65, 66, 67, 68, 69, 70, 71, 72, 73, 74, 75, 76, 77, 78, 79, 80, 81, 82, 83, 84, 85, 86, 87, 88, 89, 90, 91, 92, 93, 94, 95, 96, 97, 98, 99, 100, 101, 102, 103, 104, 105, 106, 107, 108, 109, 110, 111, 112, 113, 114, 115, 116] (by decide +kernel) (by decide +kernel)
set_option maxRecDepth 20000 in
theorem gX9_failLine_X9_throwLine : GoodIn wsX9_failLine (wsV RX9 180 RX9 yX9_throwLine wsX9_throwLine) := goodIn_app (goodIn_of _ (by decide +kernel)) ggX9_failLine_X9_throwLine
theorem dX9_failLine_0 : decode cX9_failLine 0 = .ok (.aload_n 0, 1) := by decide +kernel
theorem dX9_failLine_1 : decode cX9_failLine 1 = .ok (.iload_n 1, 1) := by decide +kernel
theorem dX9_failLine_2 : decode cX9_failLine 2 = .ok (.aload_n 0, 1) := by decide +kernel
theorem dX9_failLine_3 : decode cX9_failLine 3 = .ok (.getfield 171, 3) := by decide +kernel
theorem dX9_failLine_6 : decode cX9_failLine 6 = .ok (.iload_n 2, 1) := by decide +kernel
theorem dX9_failLine_7 : decode cX9_failLine 7 = .ok (.invokevirtual 147, 3) := by decide +kernel
theorem dX9_failLine_10 : decode cX9_failLine 10 = .ok (.istore_n 3, 1) := by decide +kernel
theorem dX9_failLine_11 : decode cX9_failLine 11 = .ok (.aload_n 0, 1) := by decide +kernel
theorem dX9_failLine_12 : decode cX9_failLine 12 = .ok (.getfield 125, 3) := by decide +kernel
theorem dX9_failLine_15 : decode cX9_failLine 15 = .ok (.invokestatic 154, 3) := by decide +kernel
theorem dX9_failLine_18 : decode cX9_failLine 18 = .ok (.ifCond .eq 26, 3) := by decide +kernel
theorem dX9_failLine_21 : decode cX9_failLine 21 = .ok (.aload_n 0, 1) := by decide +kernel
theorem dX9_failLine_22 : decode cX9_failLine 22 = .ok (.aload_n 0, 1) := by decide +kernel
theorem dX9_failLine_23 : decode cX9_failLine 23 = .ok (.getfield 177, 3) := by decide +kernel
theorem dX9_failLine_26 : decode cX9_failLine 26 = .ok (.ifCond .ne 9, 3) := by decide +kernel
theorem dX9_failLine_29 : decode cX9_failLine 29 = .ok (.iload_n 1, 1) := by decide +kernel
theorem dX9_failLine_30 : decode cX9_failLine 30 = .ok (.bipush 9, 2) := by decide +kernel
theorem dX9_failLine_32 : decode cX9_failLine 32 = .ok (.if_icmp .ne 7, 3) := by decide +kernel
theorem dX9_failLine_35 : decode cX9_failLine 35 = .ok (.iconst 1, 1) := by decide +kernel
theorem dX9_failLine_36 : decode cX9_failLine 36 = .ok (.goto 4, 3) := by decide +kernel
theorem dX9_failLine_39 : decode cX9_failLine 39 = .ok (.iconst 0, 1) := by decide +kernel
theorem dX9_failLine_40 : decode cX9_failLine 40 = .ok (.putfield 177, 3) := by decide +kernel
theorem dX9_failLine_43 : decode cX9_failLine 43 = .ok (.return_, 1) := by decide +kernel
theorem dX9_failLine_44 : decode cX9_failLine 44 = .ok (.aload_n 0, 1) := by decide +kernel
theorem dX9_failLine_45 : decode cX9_failLine 45 = .ok (.getfield 125, 3) := by decide +kernel
theorem dX9_failLine_48 : decode cX9_failLine 48 = .ok (.ifCond .ne 7, 3) := by decide +kernel
theorem dX9_failLine_51 : decode cX9_failLine 51 = .ok (.iconst 1, 1) := by decide +kernel
theorem dX9_failLine_52 : decode cX9_failLine 52 = .ok (.goto 4, 3) := by decide +kernel
theorem dX9_failLine_55 : decode cX9_failLine 55 = .ok (.iconst 0, 1) := by decide +kernel
theorem dX9_failLine_56 : decode cX9_failLine 56 = .ok (.istore 4, 2) := by decide +kernel
theorem dX9_failLine_58 : decode cX9_failLine 58 = .ok (.aload_n 0, 1) := by decide +kernel
theorem dX9_failLine_59 : decode cX9_failLine 59 = .ok (.iconst 1, 1) := by decide +kernel
theorem dX9_failLine_60 : decode cX9_failLine 60 = .ok (.putfield 177, 3) := by decide +kernel
theorem dX9_failLine_63 : decode cX9_failLine 63 = .ok (.iload 4, 2) := by decide +kernel
theorem dX9_failLine_65 : decode cX9_failLine 65 = .ok (.ifCond .eq 8, 3) := by decide +kernel
theorem dX9_failLine_68 : decode cX9_failLine 68 = .ok (.aload_n 0, 1) := by decide +kernel
theorem dX9_failLine_69 : decode cX9_failLine 69 = .ok (.iload_n 3, 1) := by decide +kernel
theorem dX9_failLine_70 : decode cX9_failLine 70 = .ok (.invokevirtual 180, 3) := by decide +kernel
theorem dX9_failLine_73 : decode cX9_failLine 73 = .ok (.return_, 1) := by decide +kernel
set_option maxRecDepth 20000 in
theorem ggX9_failField_X9_fail : GoodIn wsX9_failField wsX9_fail := goodIn_r _ [7, 1, 8, 9, 10, 11, 12, 13, 14, 15, 16, 17, 18, 19, 20, 21, 22, 23, 6, 24, 25, 26, 27, 53, 54, 55, 56, 57, 58, 59, 60, 61, 62, 63, 64, 65, 66, 67, 68, 69, 70, 71, 72, 73, 74, 75, 76, 77, 78, 79, 80, 81, 82, 83, 84, 85, 86, 87, 88, 89, 90, 91, 92, 93, 94, 95, 96, 97, 98, 99, 100, 101, 102, 103, 104, 105, 106, 107, 108, 109, 110, 111, 112, 113, 114, 115, 116, 117, 118, 119, 120, 121] (by decide +kernel) (by decide +kernel)
set_option maxRecDepth 20000 in
theorem gX9_failField_X9_fail : GoodIn wsX9_failField (wsV RX9 147 RX9 yX9_fail wsX9_fail) := goodIn_app (goodIn_of _ (by decide +kernel)) ggX9_failField_X9_fail
set_option maxRecDepth 20000 in
theorem ggX9_failField_X9_goesOn : GoodIn wsX9_failField wsX9_goesOn := goodIn_r _ [30] (by decide +kernel) (by decide +kernel)
set_option maxRecDepth 20000 in
theorem gX9_failField_X9_goesOn : GoodIn wsX9_failField (va_wsS RX9 154 yX9_goesOn wsX9_goesOn) := goodIn_app (goodIn_of _ (by decide +kernel)) ggX9_failField_X9_goesOn
set_option maxRecDepth 20000 in
theorem ggX9_failField_X9_failLine : GoodIn wsX9_failField wsX9_failLine := goodIn_r _ [34, 35, 1, 36, 3, 4, 5, 6, 7, 8, 9, 10, 11, 12, 13, 14, 15, 16, 17, 18, 19, 20, 21, 22, 23, 24, 25, 26, 27, 28, 29, 30, 37, 38, 39, 40, 41, 42, 43, 44, 45, 46, 47, 48, 49, 50, 51, 52, 53, 54, 55, 56, 57, 58, 59, 60, 61, 62, 63, 64, 65, 66, 67, 68, 69, 70, 71, 72, 73, 74, 75, 76, 77, 78, 79, 80, 81, 82, 83, 84, 85, 86, 87, 88, 89, 90, 91, 92, 93, 94, 95, 96, 97, 98, 99, 100, 101, 102, 103, 104, 105, 106, 107, 108, 109, 110, 111, 112, 113, 114, 115, 116, 117, 118, 119, 120, 121] (by decide +kernel) (by decide +kernel)
set_option maxRecDepth 20000 in
theorem gX9_failField_X9_failLine : GoodIn wsX9_failField (wsV RX9 187 RX9 yX9_failLine wsX9_failLine) := goodIn_app (goodIn_of _ (by decide +kernel)) ggX9_failField_X9_failLine
theorem dX9_failField_0 : decode cX9_failField 0 = .ok (.aload_n 0, 1) := by decide +kernel
theorem dX9_failField_1 : decode cX9_failField 1 = .ok (.iload_n 1, 1) := by decide +kernel
theorem dX9_failField_2 : decode cX9_failField 2 = .ok (.iload_n 2, 1) := by decide +kernel
theorem dX9_failField_3 : decode cX9_failField 3 = .ok (.iload_n 3, 1) := by decide +kernel
theorem dX9_failField_4 : decode cX9_failField 4 = .ok (.invokevirtual 147, 3) := by decide +kernel
theorem dX9_failField_7 : decode cX9_failField 7 = .ok (.istore 4, 2) := by decide +kernel
theorem dX9_failField_9 : decode cX9_failField 9 = .ok (.aload_n 0, 1) := by decide +kernel
theorem dX9_failField_10 : decode cX9_failField 10 = .ok (.getfield 125, 3) := by decide +kernel
theorem dX9_failField_13 : decode cX9_failField 13 = .ok (.istore 5, 2) := by decide +kernel
theorem dX9_failField_15 : decode cX9_failField 15 = .ok (.iload 5, 2) := by decide +kernel
theorem dX9_failField_17 : decode cX9_failField 17 = .ok (.invokestatic 154, 3) := by decide +kernel
theorem dX9_failField_20 : decode cX9_failField 20 = .ok (.ifCond .ne 21, 3) := by decide +kernel
theorem dX9_failField_23 : decode cX9_failField 23 = .ok (.aload_n 0, 1) := by decide +kernel
theorem dX9_failField_24 : decode cX9_failField 24 = .ok (.iconst 1, 1) := by decide +kernel
theorem dX9_failField_25 : decode cX9_failField 25 = .ok (.putfield 184, 3) := by decide +kernel
theorem dX9_failField_28 : decode cX9_failField 28 = .ok (.iload 5, 2) := by decide +kernel
theorem dX9_failField_30 : decode cX9_failField 30 = .ok (.ifCond .ne 11, 3) := by decide +kernel
theorem dX9_failField_33 : decode cX9_failField 33 = .ok (.aload_n 0, 1) := by decide +kernel
theorem dX9_failField_34 : decode cX9_failField 34 = .ok (.bipush 13, 2) := by decide +kernel
theorem dX9_failField_36 : decode cX9_failField 36 = .ok (.iload 4, 2) := by decide +kernel
theorem dX9_failField_38 : decode cX9_failField 38 = .ok (.invokevirtual 187, 3) := by decide +kernel
theorem dX9_failField_41 : decode cX9_failField 41 = .ok (.iload 5, 2) := by decide +kernel
theorem dX9_failField_43 : decode cX9_failField 43 = .ok (.ireturn, 1) := by decide +kernel
theorem dX9_at_0 : decode cX9_at 0 = .ok (.aload_n 0, 1) := by decide +kernel
theorem dX9_at_1 : decode cX9_at 1 = .ok (.getfield 9, 3) := by decide +kernel
theorem dX9_at_4 : decode cX9_at 4 = .ok (.iload_n 1, 1) := by decide +kernel
theorem dX9_at_5 : decode cX9_at 5 = .ok (.baload, 1) := by decide +kernel
theorem dX9_at_6 : decode cX9_at 6 = .ok (.sipush 255, 3) := by decide +kernel
theorem dX9_at_9 : decode cX9_at 9 = .ok (.iand, 1) := by decide +kernel
theorem dX9_at_10 : decode cX9_at 10 = .ok (.ireturn, 1) := by decide +kernel
set_option maxRecDepth 20000 in
theorem ggX9_readCell_X9_at : GoodIn wsX9_readCell wsX9_at := goodIn_r _ [14, 15, 67, 68, 69, 70, 71, 72, 73, 74, 75, 76, 77, 78, 79, 80, 81, 82, 83, 84, 85, 86, 87, 88, 89, 90, 91, 92, 93, 94, 95, 96, 97, 98, 99, 100, 101, 102, 103, 104, 105, 106, 107, 108, 109, 110, 111, 112, 113, 114, 115, 116, 117, 118, 119, 120, 121, 122, 123, 124, 125, 126, 127, 128, 129, 130, 131, 132, 133, 134, 135] (by decide +kernel) (by decide +kernel)
set_option maxRecDepth 20000 in
theorem gX9_readCell_X9_at : GoodIn wsX9_readCell (wsV RX9 197 RX9 yX9_at wsX9_at) := goodIn_app (goodIn_of _ (by decide +kernel)) ggX9_readCell_X9_at
set_option maxRecDepth 20000 in
theorem ggX9_readCell_X9_fail : GoodIn wsX9_readCell wsX9_fail := goodIn_r _ [19, 6, 7, 20, 21, 22, 23, 24, 25, 26, 27, 28, 29, 30, 31, 32, 33, 34, 13, 35, 36, 37, 38, 67, 68, 69, 70, 71, 72, 73, 74, 75, 76, 77, 78, 79, 80, 81, 82, 83, 84, 85, 86, 87, 88, 89, 90, 91, 92, 93, 94, 95, 96, 97, 98, 99, 100, 101, 102, 103, 104, 105, 106, 107, 108, 109, 110, 111, 112, 113, 114, 115, 116, 117, 118, 119, 120, 121, 122, 123, 124, 125, 126, 127, 128, 129, 130, 131, 132, 133, 134, 135] (by decide +kernel) (by decide +kernel)
set_option maxRecDepth 20000 in
theorem gX9_readCell_X9_fail : GoodIn wsX9_readCell (wsV RX9 147 RX9 yX9_fail wsX9_fail) := goodIn_app (goodIn_of _ (by decide +kernel)) ggX9_readCell_X9_fail
set_option maxRecDepth 20000 in
theorem ggX9_readCell_X9_goesOn : GoodIn wsX9_readCell wsX9_goesOn := goodIn_r _ [41] (by decide +kernel) (by decide +kernel)
set_option maxRecDepth 20000 in
theorem gX9_readCell_X9_goesOn : GoodIn wsX9_readCell (va_wsS RX9 154 yX9_goesOn wsX9_goesOn) := goodIn_app (goodIn_of _ (by decide +kernel)) ggX9_readCell_X9_goesOn
set_option maxRecDepth 20000 in
theorem ggX9_readCell_X9_failField : GoodIn wsX9_readCell wsX9_failField := goodIn_r _ [45, 6, 1, 16, 17, 18, 13, 19, 7, 20, 21, 22, 23, 24, 25, 26, 27, 28, 29, 30, 31, 32, 33, 34, 35, 36, 37, 38, 39, 40, 41, 46, 47, 48, 49, 3, 50, 51, 52, 53, 54, 55, 56, 57, 58, 59, 60, 61, 62, 63, 64, 65, 66, 67, 68, 69, 70, 71, 72, 73, 74, 75, 76, 77, 78, 79, 80, 81, 82, 83, 84, 85, 86, 87, 88, 89, 90, 91, 92, 93, 94, 95, 96, 97, 98, 99, 100, 101, 102, 103, 104, 105, 106, 107, 108, 109, 110, 111, 112, 113, 114, 115, 116, 117, 118, 119, 120, 121, 122, 123, 124, 125, 126, 127, 128, 129, 130, 131, 132, 133, 134, 135] (by decide +kernel) (by decide +kernel)
set_option maxRecDepth 20000 in
theorem gX9_readCell_X9_failField : GoodIn wsX9_readCell (wsV RX9 203 RX9 yX9_failField wsX9_failField) := goodIn_app (goodIn_of _ (by decide +kernel)) ggX9_readCell_X9_failField
theorem dX9_readCell_0 : decode cX9_readCell 0 = .ok (.aload_n 0, 1) := by decide +kernel
theorem dX9_readCell_1 : decode cX9_readCell 1 = .ok (.iconst 0, 1) := by decide +kernel
theorem dX9_readCell_2 : decode cX9_readCell 2 = .ok (.putfield 184, 3) := by decide +kernel
theorem dX9_readCell_5 : decode cX9_readCell 5 = .ok (.aload_n 0, 1) := by decide +kernel
theorem dX9_readCell_6 : decode cX9_readCell 6 = .ok (.iconst 0, 1) := by decide +kernel
theorem dX9_readCell_7 : decode cX9_readCell 7 = .ok (.putfield 191, 3) := by decide +kernel
theorem dX9_readCell_10 : decode cX9_readCell 10 = .ok (.aload_n 0, 1) := by decide +kernel
theorem dX9_readCell_11 : decode cX9_readCell 11 = .ok (.getfield 171, 3) := by decide +kernel
theorem dX9_readCell_14 : decode cX9_readCell 14 = .ok (.istore_n 2, 1) := by decide +kernel
theorem dX9_readCell_15 : decode cX9_readCell 15 = .ok (.iconst 0, 1) := by decide +kernel
theorem dX9_readCell_16 : decode cX9_readCell 16 = .ok (.istore_n 3, 1) := by decide +kernel
theorem dX9_readCell_17 : decode cX9_readCell 17 = .ok (.iload_n 2, 1) := by decide +kernel
theorem dX9_readCell_18 : decode cX9_readCell 18 = .ok (.aload_n 0, 1) := by decide +kernel
theorem dX9_readCell_19 : decode cX9_readCell 19 = .ok (.getfield 194, 3) := by decide +kernel
theorem dX9_readCell_22 : decode cX9_readCell 22 = .ok (.if_icmp .ge 32, 3) := by decide +kernel
theorem dX9_readCell_25 : decode cX9_readCell 25 = .ok (.iload_n 3, 1) := by decide +kernel
theorem dX9_readCell_26 : decode cX9_readCell 26 = .ok (.iload_n 1, 1) := by decide +kernel
theorem dX9_readCell_27 : decode cX9_readCell 27 = .ok (.if_icmp .ge 27, 3) := by decide +kernel
theorem dX9_readCell_30 : decode cX9_readCell 30 = .ok (.iload_n 3, 1) := by decide +kernel
theorem dX9_readCell_31 : decode cX9_readCell 31 = .ok (.aload_n 0, 1) := by decide +kernel
theorem dX9_readCell_32 : decode cX9_readCell 32 = .ok (.iload_n 2, 1) := by decide +kernel
theorem dX9_readCell_33 : decode cX9_readCell 33 = .ok (.invokevirtual 197, 3) := by decide +kernel
theorem dX9_readCell_36 : decode cX9_readCell 36 = .ok (.bipush 124, 2) := by decide +kernel
theorem dX9_readCell_38 : decode cX9_readCell 38 = .ok (.if_icmp .ne 7, 3) := by decide +kernel
theorem dX9_readCell_41 : decode cX9_readCell 41 = .ok (.iconst 1, 1) := by decide +kernel
theorem dX9_readCell_42 : decode cX9_readCell 42 = .ok (.goto 4, 3) := by decide +kernel
theorem dX9_readCell_45 : decode cX9_readCell 45 = .ok (.iconst 0, 1) := by decide +kernel
theorem dX9_readCell_46 : decode cX9_readCell 46 = .ok (.iadd, 1) := by decide +kernel
theorem dX9_readCell_47 : decode cX9_readCell 47 = .ok (.istore_n 3, 1) := by decide +kernel
theorem dX9_readCell_48 : decode cX9_readCell 48 = .ok (.iinc 2 1, 3) := by decide +kernel
theorem dX9_readCell_51 : decode cX9_readCell 51 = .ok (.goto (-34), 3) := by decide +kernel
theorem dX9_readCell_54 : decode cX9_readCell 54 = .ok (.iload_n 3, 1) := by decide +kernel
theorem dX9_readCell_55 : decode cX9_readCell 55 = .ok (.iload_n 1, 1) := by decide +kernel
theorem dX9_readCell_56 : decode cX9_readCell 56 = .ok (.if_icmp .ne 7, 3) := by decide +kernel
theorem dX9_readCell_59 : decode cX9_readCell 59 = .ok (.iconst 1, 1) := by decide +kernel
theorem dX9_readCell_60 : decode cX9_readCell 60 = .ok (.goto 4, 3) := by decide +kernel
theorem dX9_readCell_63 : decode cX9_readCell 63 = .ok (.iconst 0, 1) := by decide +kernel
theorem dX9_readCell_64 : decode cX9_readCell 64 = .ok (.istore 4, 2) := by decide +kernel
theorem dX9_readCell_66 : decode cX9_readCell 66 = .ok (.aload_n 0, 1) := by decide +kernel
theorem dX9_readCell_67 : decode cX9_readCell 67 = .ok (.iload 4, 2) := by decide +kernel
theorem dX9_readCell_69 : decode cX9_readCell 69 = .ok (.ifCond .eq 7, 3) := by decide +kernel
theorem dX9_readCell_72 : decode cX9_readCell 72 = .ok (.iload_n 2, 1) := by decide +kernel
theorem dX9_readCell_73 : decode cX9_readCell 73 = .ok (.goto 7, 3) := by decide +kernel
theorem dX9_readCell_76 : decode cX9_readCell 76 = .ok (.aload_n 0, 1) := by decide +kernel
theorem dX9_readCell_77 : decode cX9_readCell 77 = .ok (.getfield 194, 3) := by decide +kernel
theorem dX9_readCell_80 : decode cX9_readCell 80 = .ok (.putfield 200, 3) := by decide +kernel
theorem dX9_readCell_83 : decode cX9_readCell 83 = .ok (.iload_n 2, 1) := by decide +kernel
theorem dX9_readCell_84 : decode cX9_readCell 84 = .ok (.istore 5, 2) := by decide +kernel
theorem dX9_readCell_86 : decode cX9_readCell 86 = .ok (.iload 4, 2) := by decide +kernel
theorem dX9_readCell_88 : decode cX9_readCell 88 = .ok (.ifCond .eq 180, 3) := by decide +kernel
theorem dX9_readCell_91 : decode cX9_readCell 91 = .ok (.iload 5, 2) := by decide +kernel
theorem dX9_readCell_93 : decode cX9_readCell 93 = .ok (.aload_n 0, 1) := by decide +kernel
theorem dX9_readCell_94 : decode cX9_readCell 94 = .ok (.getfield 194, 3) := by decide +kernel
theorem dX9_readCell_97 : decode cX9_readCell 97 = .ok (.if_icmp .ge 171, 3) := by decide +kernel
theorem dX9_readCell_100 : decode cX9_readCell 100 = .ok (.aload_n 0, 1) := by decide +kernel
theorem dX9_readCell_101 : decode cX9_readCell 101 = .ok (.iload 5, 2) := by decide +kernel
theorem dX9_readCell_103 : decode cX9_readCell 103 = .ok (.invokevirtual 197, 3) := by decide +kernel
theorem dX9_readCell_106 : decode cX9_readCell 106 = .ok (.bipush 124, 2) := by decide +kernel
theorem dX9_readCell_108 : decode cX9_readCell 108 = .ok (.if_icmp .eq 160, 3) := by decide +kernel
theorem dX9_readCell_111 : decode cX9_readCell 111 = .ok (.aload_n 0, 1) := by decide +kernel
theorem dX9_readCell_112 : decode cX9_readCell 112 = .ok (.getfield 184, 3) := by decide +kernel
theorem dX9_readCell_115 : decode cX9_readCell 115 = .ok (.ifCond .ne 153, 3) := by decide +kernel
theorem dX9_readCell_118 : decode cX9_readCell 118 = .ok (.aload_n 0, 1) := by decide +kernel
theorem dX9_readCell_119 : decode cX9_readCell 119 = .ok (.iload 5, 2) := by decide +kernel
theorem dX9_readCell_121 : decode cX9_readCell 121 = .ok (.invokevirtual 197, 3) := by decide +kernel
theorem dX9_readCell_124 : decode cX9_readCell 124 = .ok (.istore 6, 2) := by decide +kernel
theorem dX9_readCell_126 : decode cX9_readCell 126 = .ok (.iconst 1, 1) := by decide +kernel
theorem dX9_readCell_127 : decode cX9_readCell 127 = .ok (.istore 7, 2) := by decide +kernel
theorem dX9_readCell_129 : decode cX9_readCell 129 = .ok (.iload 6, 2) := by decide +kernel
theorem dX9_readCell_131 : decode cX9_readCell 131 = .ok (.bipush 32, 2) := by decide +kernel
theorem dX9_readCell_133 : decode cX9_readCell 133 = .ok (.if_icmp .lt 10, 3) := by decide +kernel
theorem dX9_readCell_136 : decode cX9_readCell 136 = .ok (.iload 6, 2) := by decide +kernel
theorem dX9_readCell_138 : decode cX9_readCell 138 = .ok (.bipush 126, 2) := by decide +kernel
theorem dX9_readCell_140 : decode cX9_readCell 140 = .ok (.if_icmp .le 85, 3) := by decide +kernel
theorem dX9_readCell_143 : decode cX9_readCell 143 = .ok (.aload_n 0, 1) := by decide +kernel
theorem dX9_readCell_144 : decode cX9_readCell 144 = .ok (.iconst 1, 1) := by decide +kernel
theorem dX9_readCell_145 : decode cX9_readCell 145 = .ok (.iload 5, 2) := by decide +kernel
theorem dX9_readCell_147 : decode cX9_readCell 147 = .ok (.iconst (-1), 1) := by decide +kernel
theorem dX9_readCell_148 : decode cX9_readCell 148 = .ok (.invokevirtual 147, 3) := by decide +kernel
theorem dX9_readCell_151 : decode cX9_readCell 151 = .ok (.istore 8, 2) := by decide +kernel
theorem dX9_readCell_153 : decode cX9_readCell 153 = .ok (.aload_n 0, 1) := by decide +kernel
theorem dX9_readCell_154 : decode cX9_readCell 154 = .ok (.getfield 125, 3) := by decide +kernel
theorem dX9_readCell_157 : decode cX9_readCell 157 = .ok (.invokestatic 154, 3) := by decide +kernel
theorem dX9_readCell_160 : decode cX9_readCell 160 = .ok (.istore 7, 2) := by decide +kernel
theorem dX9_readCell_162 : decode cX9_readCell 162 = .ok (.aload_n 0, 1) := by decide +kernel
theorem dX9_readCell_163 : decode cX9_readCell 163 = .ok (.getfield 125, 3) := by decide +kernel
theorem dX9_readCell_166 : decode cX9_readCell 166 = .ok (.iconst 2, 1) := by decide +kernel
theorem dX9_readCell_167 : decode cX9_readCell 167 = .ok (.if_icmp .ne 33, 3) := by decide +kernel
theorem dX9_readCell_170 : decode cX9_readCell 170 = .ok (.aload_n 0, 1) := by decide +kernel
theorem dX9_readCell_171 : decode cX9_readCell 171 = .ok (.getfield 128, 3) := by decide +kernel
theorem dX9_readCell_174 : decode cX9_readCell 174 = .ok (.bipush 32, 2) := by decide +kernel
theorem dX9_readCell_176 : decode cX9_readCell 176 = .ok (.if_icmp .lt 19, 3) := by decide +kernel
theorem dX9_readCell_179 : decode cX9_readCell 179 = .ok (.aload_n 0, 1) := by decide +kernel
theorem dX9_readCell_180 : decode cX9_readCell 180 = .ok (.getfield 128, 3) := by decide +kernel
theorem dX9_readCell_183 : decode cX9_readCell 183 = .ok (.bipush 126, 2) := by decide +kernel
theorem dX9_readCell_185 : decode cX9_readCell 185 = .ok (.if_icmp .gt 10, 3) := by decide +kernel
theorem dX9_readCell_188 : decode cX9_readCell 188 = .ok (.aload_n 0, 1) := by decide +kernel
theorem dX9_readCell_189 : decode cX9_readCell 189 = .ok (.getfield 128, 3) := by decide +kernel
theorem dX9_readCell_192 : decode cX9_readCell 192 = .ok (.goto 10, 3) := by decide +kernel
theorem dX9_readCell_195 : decode cX9_readCell 195 = .ok (.bipush 63, 2) := by decide +kernel
theorem dX9_readCell_197 : decode cX9_readCell 197 = .ok (.goto 5, 3) := by decide +kernel
theorem dX9_readCell_200 : decode cX9_readCell 200 = .ok (.iload 6, 2) := by decide +kernel
theorem dX9_readCell_202 : decode cX9_readCell 202 = .ok (.istore 6, 2) := by decide +kernel
theorem dX9_readCell_204 : decode cX9_readCell 204 = .ok (.aload_n 0, 1) := by decide +kernel
theorem dX9_readCell_205 : decode cX9_readCell 205 = .ok (.getfield 125, 3) := by decide +kernel
theorem dX9_readCell_208 : decode cX9_readCell 208 = .ok (.ifCond .ne 17, 3) := by decide +kernel
theorem dX9_readCell_211 : decode cX9_readCell 211 = .ok (.aload_n 0, 1) := by decide +kernel
theorem dX9_readCell_212 : decode cX9_readCell 212 = .ok (.bipush 8, 2) := by decide +kernel
theorem dX9_readCell_214 : decode cX9_readCell 214 = .ok (.aload_n 0, 1) := by decide +kernel
theorem dX9_readCell_215 : decode cX9_readCell 215 = .ok (.getfield 200, 3) := by decide +kernel
theorem dX9_readCell_218 : decode cX9_readCell 218 = .ok (.iload 8, 2) := by decide +kernel
theorem dX9_readCell_220 : decode cX9_readCell 220 = .ok (.invokevirtual 203, 3) := by decide +kernel
theorem dX9_readCell_223 : decode cX9_readCell 223 = .ok (.istore 9, 2) := by decide +kernel
theorem dX9_readCell_225 : decode cX9_readCell 225 = .ok (.iload 7, 2) := by decide +kernel
theorem dX9_readCell_227 : decode cX9_readCell 227 = .ok (.ifCond .eq 35, 3) := by decide +kernel
theorem dX9_readCell_230 : decode cX9_readCell 230 = .ok (.aload_n 0, 1) := by decide +kernel
theorem dX9_readCell_231 : decode cX9_readCell 231 = .ok (.getfield 74, 3) := by decide +kernel
theorem dX9_readCell_234 : decode cX9_readCell 234 = .ok (.aload_n 0, 1) := by decide +kernel
theorem dX9_readCell_235 : decode cX9_readCell 235 = .ok (.getfield 191, 3) := by decide +kernel
theorem dX9_readCell_238 : decode cX9_readCell 238 = .ok (.iload 6, 2) := by decide +kernel
theorem dX9_readCell_240 : decode cX9_readCell 240 = .ok (.iastore, 1) := by decide +kernel
theorem dX9_readCell_241 : decode cX9_readCell 241 = .ok (.aload_n 0, 1) := by decide +kernel
theorem dX9_readCell_242 : decode cX9_readCell 242 = .ok (.getfield 77, 3) := by decide +kernel
theorem dX9_readCell_245 : decode cX9_readCell 245 = .ok (.aload_n 0, 1) := by decide +kernel
theorem dX9_readCell_246 : decode cX9_readCell 246 = .ok (.getfield 191, 3) := by decide +kernel
theorem dX9_readCell_249 : decode cX9_readCell 249 = .ok (.iload 5, 2) := by decide +kernel
theorem dX9_readCell_251 : decode cX9_readCell 251 = .ok (.iastore, 1) := by decide +kernel
theorem dX9_readCell_252 : decode cX9_readCell 252 = .ok (.aload_n 0, 1) := by decide +kernel
theorem dX9_readCell_253 : decode cX9_readCell 253 = .ok (.dup, 1) := by decide +kernel
theorem dX9_readCell_254 : decode cX9_readCell 254 = .ok (.getfield 191, 3) := by decide +kernel
theorem dX9_readCell_257 : decode cX9_readCell 257 = .ok (.iconst 1, 1) := by decide +kernel
theorem dX9_readCell_258 : decode cX9_readCell 258 = .ok (.iadd, 1) := by decide +kernel
theorem dX9_readCell_259 : decode cX9_readCell 259 = .ok (.putfield 191, 3) := by decide +kernel
theorem dX9_readCell_262 : decode cX9_readCell 262 = .ok (.iinc 5 1, 3) := by decide +kernel
theorem dX9_readCell_265 : decode cX9_readCell 265 = .ok (.goto (-179), 3) := by decide +kernel
theorem dX9_readCell_268 : decode cX9_readCell 268 = .ok (.return_, 1) := by decide +kernel
theorem dX9_isLetter_0 : decode cX9_isLetter 0 = .ok (.iload_n 0, 1) := by decide +kernel
theorem dX9_isLetter_1 : decode cX9_isLetter 1 = .ok (.bipush 97, 2) := by decide +kernel
theorem dX9_isLetter_3 : decode cX9_isLetter 3 = .ok (.if_icmp .lt 9, 3) := by decide +kernel
theorem dX9_isLetter_6 : decode cX9_isLetter 6 = .ok (.iload_n 0, 1) := by decide +kernel
theorem dX9_isLetter_7 : decode cX9_isLetter 7 = .ok (.bipush 122, 2) := by decide +kernel
theorem dX9_isLetter_9 : decode cX9_isLetter 9 = .ok (.if_icmp .le 15, 3) := by decide +kernel
theorem dX9_isLetter_12 : decode cX9_isLetter 12 = .ok (.iload_n 0, 1) := by decide +kernel
theorem dX9_isLetter_13 : decode cX9_isLetter 13 = .ok (.bipush 65, 2) := by decide +kernel
theorem dX9_isLetter_15 : decode cX9_isLetter 15 = .ok (.if_icmp .lt 13, 3) := by decide +kernel
theorem dX9_isLetter_18 : decode cX9_isLetter 18 = .ok (.iload_n 0, 1) := by decide +kernel
theorem dX9_isLetter_19 : decode cX9_isLetter 19 = .ok (.bipush 90, 2) := by decide +kernel
theorem dX9_isLetter_21 : decode cX9_isLetter 21 = .ok (.if_icmp .gt 7, 3) := by decide +kernel
theorem dX9_isLetter_24 : decode cX9_isLetter 24 = .ok (.iconst 1, 1) := by decide +kernel
theorem dX9_isLetter_25 : decode cX9_isLetter 25 = .ok (.goto 4, 3) := by decide +kernel
theorem dX9_isLetter_28 : decode cX9_isLetter 28 = .ok (.iconst 0, 1) := by decide +kernel
theorem dX9_isLetter_29 : decode cX9_isLetter 29 = .ok (.ireturn, 1) := by decide +kernel
set_option maxRecDepth 20000 in
theorem ggX9_readName_X9_readCell : GoodIn wsX9_readName wsX9_readCell := goodIn_r _ [10, 1, 2, 11, 12, 3, 13, 14, 4, 5, 15, 16, 17, 9, 18, 19, 20, 21, 22, 23, 24, 25, 26, 27, 28, 29, 30, 31, 32, 33, 34, 35, 36, 37, 38, 39, 40, 41, 42, 43, 44, 45, 46, 47, 48, 49, 50, 51, 52, 53, 54, 55, 56, 57, 58, 59, 60, 61, 62, 63, 64, 65, 66, 67, 68, 69, 70, 74, 75, 76, 77, 78, 79, 80, 81, 82, 83, 84, 85, 86, 87, 88, 89, 90, 91, 92, 93, 94, 95, 96, 97, 98, 99, 100, 101, 102, 103, 104, 105, 106, 107, 108, 109, 110, 111, 112, 113, 114, 115, 116, 117, 118, 119, 120, 121, 122, 123, 124, 125, 126, 127, 128, 129, 130, 131, 132, 133, 134, 135, 136, 137, 138, 139, 140, 141, 142] (by decide +kernel) (by decide +kernel)
set_option maxRecDepth 20000 in
theorem gX9_readName_X9_readCell : GoodIn wsX9_readName (wsV RX9 206 RX9 yX9_readCell wsX9_readCell) := goodIn_app (goodIn_of _ (by decide +kernel)) ggX9_readName_X9_readCell
set_option maxRecDepth 20000 in
theorem ggX9_readName_X9_failField : GoodIn wsX9_readName wsX9_failField := goodIn_r _ [49, 13, 1, 20, 21, 22, 9, 23, 14, 24, 25, 26, 27, 28, 29, 30, 31, 32, 33, 34, 35, 36, 37, 38, 39, 40, 41, 42, 43, 44, 45, 50, 51, 52, 53, 11, 54, 55, 56, 57, 58, 59, 60, 61, 62, 63, 64, 65, 66, 67, 68, 69, 70, 74, 75, 76, 77, 78, 79, 80, 81, 82, 83, 84, 85, 86, 87, 88, 89, 90, 91, 92, 93, 94, 95, 96, 97, 98, 99, 100, 101, 102, 103, 104, 105, 106, 107, 108, 109, 110, 111, 112, 113, 114, 115, 116, 117, 118, 119, 120, 121, 122, 123, 124, 125, 126, 127, 128, 129, 130, 131, 132, 133, 134, 135, 136, 137, 138, 139, 140, 141, 142] (by decide +kernel) (by decide +kernel)
set_option maxRecDepth 20000 in
theorem gX9_readName_X9_failField : GoodIn wsX9_readName (wsV RX9 203 RX9 yX9_failField wsX9_failField) := goodIn_app (goodIn_of _ (by decide +kernel)) ggX9_readName_X9_failField
set_option maxRecDepth 20000 in
theorem ggX9_readName_X9_isLetter : GoodIn wsX9_readName wsX9_isLetter := goodIn_r _ [73] (by decide +kernel) (by decide +kernel)
set_option maxRecDepth 20000 in
theorem gX9_readName_X9_isLetter : GoodIn wsX9_readName (va_wsS RX9 209 yX9_isLetter wsX9_isLetter) := goodIn_app (goodIn_of _ (by decide +kernel)) ggX9_readName_X9_isLetter
theorem dX9_readName_0 : decode cX9_readName 0 = .ok (.aload_n 0, 1) := by decide +kernel
theorem dX9_readName_1 : decode cX9_readName 1 = .ok (.iload_n 1, 1) := by decide +kernel
theorem dX9_readName_2 : decode cX9_readName 2 = .ok (.invokevirtual 206, 3) := by decide +kernel
theorem dX9_readName_5 : decode cX9_readName 5 = .ok (.aload_n 0, 1) := by decide +kernel
theorem dX9_readName_6 : decode cX9_readName 6 = .ok (.getfield 184, 3) := by decide +kernel
theorem dX9_readName_9 : decode cX9_readName 9 = .ok (.ifCond .ne 24, 3) := by decide +kernel
theorem dX9_readName_12 : decode cX9_readName 12 = .ok (.aload_n 0, 1) := by decide +kernel
theorem dX9_readName_13 : decode cX9_readName 13 = .ok (.getfield 191, 3) := by decide +kernel
theorem dX9_readName_16 : decode cX9_readName 16 = .ok (.ifCond .ne 17, 3) := by decide +kernel
theorem dX9_readName_19 : decode cX9_readName 19 = .ok (.aload_n 0, 1) := by decide +kernel
theorem dX9_readName_20 : decode cX9_readName 20 = .ok (.iconst 2, 1) := by decide +kernel
theorem dX9_readName_21 : decode cX9_readName 21 = .ok (.aload_n 0, 1) := by decide +kernel
theorem dX9_readName_22 : decode cX9_readName 22 = .ok (.getfield 200, 3) := by decide +kernel
theorem dX9_readName_25 : decode cX9_readName 25 = .ok (.iconst (-1), 1) := by decide +kernel
theorem dX9_readName_26 : decode cX9_readName 26 = .ok (.invokevirtual 203, 3) := by decide +kernel
theorem dX9_readName_29 : decode cX9_readName 29 = .ok (.istore_n 2, 1) := by decide +kernel
theorem dX9_readName_30 : decode cX9_readName 30 = .ok (.goto 87, 3) := by decide +kernel
theorem dX9_readName_33 : decode cX9_readName 33 = .ok (.aload_n 0, 1) := by decide +kernel
theorem dX9_readName_34 : decode cX9_readName 34 = .ok (.getfield 184, 3) := by decide +kernel
theorem dX9_readName_37 : decode cX9_readName 37 = .ok (.ifCond .ne 80, 3) := by decide +kernel
theorem dX9_readName_40 : decode cX9_readName 40 = .ok (.iconst 0, 1) := by decide +kernel
theorem dX9_readName_41 : decode cX9_readName 41 = .ok (.istore_n 2, 1) := by decide +kernel
theorem dX9_readName_42 : decode cX9_readName 42 = .ok (.iload_n 2, 1) := by decide +kernel
theorem dX9_readName_43 : decode cX9_readName 43 = .ok (.aload_n 0, 1) := by decide +kernel
theorem dX9_readName_44 : decode cX9_readName 44 = .ok (.getfield 191, 3) := by decide +kernel
theorem dX9_readName_47 : decode cX9_readName 47 = .ok (.if_icmp .ge 49, 3) := by decide +kernel
theorem dX9_readName_50 : decode cX9_readName 50 = .ok (.iload_n 2, 1) := by decide +kernel
theorem dX9_readName_51 : decode cX9_readName 51 = .ok (.bipush 30, 2) := by decide +kernel
theorem dX9_readName_53 : decode cX9_readName 53 = .ok (.if_icmp .ge 43, 3) := by decide +kernel
theorem dX9_readName_56 : decode cX9_readName 56 = .ok (.aload_n 0, 1) := by decide +kernel
theorem dX9_readName_57 : decode cX9_readName 57 = .ok (.getfield 74, 3) := by decide +kernel
theorem dX9_readName_60 : decode cX9_readName 60 = .ok (.iload_n 2, 1) := by decide +kernel
theorem dX9_readName_61 : decode cX9_readName 61 = .ok (.iaload, 1) := by decide +kernel
theorem dX9_readName_62 : decode cX9_readName 62 = .ok (.invokestatic 209, 3) := by decide +kernel
theorem dX9_readName_65 : decode cX9_readName 65 = .ok (.ifCond .ne 25, 3) := by decide +kernel
theorem dX9_readName_68 : decode cX9_readName 68 = .ok (.aload_n 0, 1) := by decide +kernel
theorem dX9_readName_69 : decode cX9_readName 69 = .ok (.getfield 74, 3) := by decide +kernel
theorem dX9_readName_72 : decode cX9_readName 72 = .ok (.iload_n 2, 1) := by decide +kernel
theorem dX9_readName_73 : decode cX9_readName 73 = .ok (.iaload, 1) := by decide +kernel
theorem dX9_readName_74 : decode cX9_readName 74 = .ok (.bipush 32, 2) := by decide +kernel
theorem dX9_readName_76 : decode cX9_readName 76 = .ok (.if_icmp .eq 14, 3) := by decide +kernel
theorem dX9_readName_79 : decode cX9_readName 79 = .ok (.aload_n 0, 1) := by decide +kernel
theorem dX9_readName_80 : decode cX9_readName 80 = .ok (.getfield 74, 3) := by decide +kernel
theorem dX9_readName_83 : decode cX9_readName 83 = .ok (.iload_n 2, 1) := by decide +kernel
theorem dX9_readName_84 : decode cX9_readName 84 = .ok (.iaload, 1) := by decide +kernel
theorem dX9_readName_85 : decode cX9_readName 85 = .ok (.bipush 45, 2) := by decide +kernel
theorem dX9_readName_87 : decode cX9_readName 87 = .ok (.if_icmp .ne 9, 3) := by decide +kernel
theorem dX9_readName_90 : decode cX9_readName 90 = .ok (.iinc 2 1, 3) := by decide +kernel
theorem dX9_readName_93 : decode cX9_readName 93 = .ok (.goto (-51), 3) := by decide +kernel
theorem dX9_readName_96 : decode cX9_readName 96 = .ok (.iload_n 2, 1) := by decide +kernel
theorem dX9_readName_97 : decode cX9_readName 97 = .ok (.aload_n 0, 1) := by decide +kernel
theorem dX9_readName_98 : decode cX9_readName 98 = .ok (.getfield 191, 3) := by decide +kernel
theorem dX9_readName_101 : decode cX9_readName 101 = .ok (.if_icmp .ge 16, 3) := by decide +kernel
theorem dX9_readName_104 : decode cX9_readName 104 = .ok (.aload_n 0, 1) := by decide +kernel
theorem dX9_readName_105 : decode cX9_readName 105 = .ok (.iconst 3, 1) := by decide +kernel
theorem dX9_readName_106 : decode cX9_readName 106 = .ok (.aload_n 0, 1) := by decide +kernel
theorem dX9_readName_107 : decode cX9_readName 107 = .ok (.getfield 77, 3) := by decide +kernel
theorem dX9_readName_110 : decode cX9_readName 110 = .ok (.iload_n 2, 1) := by decide +kernel
theorem dX9_readName_111 : decode cX9_readName 111 = .ok (.iaload, 1) := by decide +kernel
theorem dX9_readName_112 : decode cX9_readName 112 = .ok (.iconst (-1), 1) := by decide +kernel
theorem dX9_readName_113 : decode cX9_readName 113 = .ok (.invokevirtual 203, 3) := by decide +kernel
theorem dX9_readName_116 : decode cX9_readName 116 = .ok (.istore_n 3, 1) := by decide +kernel
theorem dX9_readName_117 : decode cX9_readName 117 = .ok (.aload_n 0, 1) := by decide +kernel
theorem dX9_readName_118 : decode cX9_readName 118 = .ok (.aload_n 0, 1) := by decide +kernel
theorem dX9_readName_119 : decode cX9_readName 119 = .ok (.getfield 184, 3) := by decide +kernel
theorem dX9_readName_122 : decode cX9_readName 122 = .ok (.ifCond .eq 7, 3) := by decide +kernel
theorem dX9_readName_125 : decode cX9_readName 125 = .ok (.iconst 0, 1) := by decide +kernel
theorem dX9_readName_126 : decode cX9_readName 126 = .ok (.goto 21, 3) := by decide +kernel
theorem dX9_readName_129 : decode cX9_readName 129 = .ok (.aload_n 0, 1) := by decide +kernel
theorem dX9_readName_130 : decode cX9_readName 130 = .ok (.getfield 191, 3) := by decide +kernel
theorem dX9_readName_133 : decode cX9_readName 133 = .ok (.bipush 30, 2) := by decide +kernel
theorem dX9_readName_135 : decode cX9_readName 135 = .ok (.if_icmp .le 8, 3) := by decide +kernel
theorem dX9_readName_138 : decode cX9_readName 138 = .ok (.bipush 30, 2) := by decide +kernel
theorem dX9_readName_140 : decode cX9_readName 140 = .ok (.goto 7, 3) := by decide +kernel
theorem dX9_readName_143 : decode cX9_readName 143 = .ok (.aload_n 0, 1) := by decide +kernel
theorem dX9_readName_144 : decode cX9_readName 144 = .ok (.getfield 191, 3) := by decide +kernel
theorem dX9_readName_147 : decode cX9_readName 147 = .ok (.putfield 191, 3) := by decide +kernel
theorem dX9_readName_150 : decode cX9_readName 150 = .ok (.return_, 1) := by decide +kernel
theorem dX9_isDigit_0 : decode cX9_isDigit 0 = .ok (.iload_n 0, 1) := by decide +kernel
theorem dX9_isDigit_1 : decode cX9_isDigit 1 = .ok (.bipush 48, 2) := by decide +kernel
theorem dX9_isDigit_3 : decode cX9_isDigit 3 = .ok (.if_icmp .lt 13, 3) := by decide +kernel
theorem dX9_isDigit_6 : decode cX9_isDigit 6 = .ok (.iload_n 0, 1) := by decide +kernel
theorem dX9_isDigit_7 : decode cX9_isDigit 7 = .ok (.bipush 57, 2) := by decide +kernel
theorem dX9_isDigit_9 : decode cX9_isDigit 9 = .ok (.if_icmp .gt 7, 3) := by decide +kernel
theorem dX9_isDigit_12 : decode cX9_isDigit 12 = .ok (.iconst 1, 1) := by decide +kernel
theorem dX9_isDigit_13 : decode cX9_isDigit 13 = .ok (.goto 4, 3) := by decide +kernel
theorem dX9_isDigit_16 : decode cX9_isDigit 16 = .ok (.iconst 0, 1) := by decide +kernel
theorem dX9_isDigit_17 : decode cX9_isDigit 17 = .ok (.ireturn, 1) := by decide +kernel
set_option maxRecDepth 20000 in
theorem ggX9_readNumber_X9_readCell : GoodIn wsX9_readNumber wsX9_readCell := goodIn_r _ [11, 2, 3, 12, 13, 5, 14, 6, 4, 15, 16, 17, 18, 10, 19, 20, 21, 22, 23, 24, 25, 26, 27, 28, 29, 30, 31, 32, 33, 34, 35, 36, 37, 38, 39, 40, 41, 42, 43, 44, 45, 46, 47, 48, 49, 50, 51, 52, 53, 54, 55, 56, 57, 58, 59, 60, 61, 62, 63, 64, 65, 66, 67, 68, 69, 70, 71, 75, 76, 77, 78, 79, 80, 81, 82, 83, 84, 85, 86, 87, 88, 89, 90, 91, 92, 93, 94, 95, 96, 97, 98, 99, 100, 101, 102, 103, 104, 105, 106, 107, 108, 109, 110, 111, 112, 113, 114, 115, 116, 117, 118, 119, 120, 121, 122, 123, 124, 125, 126, 127, 128, 129, 130, 131, 132, 133, 134, 135, 136, 137, 138, 139, 140, 141, 142, 143] (by decide +kernel) (by decide +kernel)
set_option maxRecDepth 20000 in
theorem gX9_readNumber_X9_readCell : GoodIn wsX9_readNumber (wsV RX9 206 RX9 yX9_readCell wsX9_readCell) := goodIn_app (goodIn_of _ (by decide +kernel)) ggX9_readNumber_X9_readCell
set_option maxRecDepth 20000 in
theorem ggX9_readNumber_X9_isDigit : GoodIn wsX9_readNumber wsX9_isDigit := goodIn_r _ [74] (by decide +kernel) (by decide +kernel)
set_option maxRecDepth 20000 in
theorem gX9_readNumber_X9_isDigit : GoodIn wsX9_readNumber (va_wsS RX9 215 yX9_isDigit wsX9_isDigit) := goodIn_app (goodIn_of _ (by decide +kernel)) ggX9_readNumber_X9_isDigit
set_option maxRecDepth 20000 in
theorem ggX9_readNumber_X9_failField : GoodIn wsX9_readNumber wsX9_failField := goodIn_r _ [50, 14, 2, 21, 22, 23, 10, 24, 6, 25, 26, 27, 28, 29, 30, 31, 32, 33, 34, 35, 36, 37, 38, 39, 40, 41, 42, 43, 44, 45, 46, 51, 52, 53, 54, 12, 55, 56, 57, 58, 59, 60, 61, 62, 63, 64, 65, 66, 67, 68, 69, 70, 71, 75, 76, 77, 78, 79, 80, 81, 82, 83, 84, 85, 86, 87, 88, 89, 90, 91, 92, 93, 94, 95, 96, 97, 98, 99, 100, 101, 102, 103, 104, 105, 106, 107, 108, 109, 110, 111, 112, 113, 114, 115, 116, 117, 118, 119, 120, 121, 122, 123, 124, 125, 126, 127, 128, 129, 130, 131, 132, 133, 134, 135, 136, 137, 138, 139, 140, 141, 142, 143] (by decide +kernel) (by decide +kernel)
set_option maxRecDepth 20000 in
theorem gX9_readNumber_X9_failField : GoodIn wsX9_readNumber (wsV RX9 203 RX9 yX9_failField wsX9_failField) := goodIn_app (goodIn_of _ (by decide +kernel)) ggX9_readNumber_X9_failField
theorem dX9_readNumber_0 : decode cX9_readNumber 0 = .ok (.aload_n 0, 1) := by decide +kernel
theorem dX9_readNumber_1 : decode cX9_readNumber 1 = .ok (.iload_n 1, 1) := by decide +kernel
theorem dX9_readNumber_2 : decode cX9_readNumber 2 = .ok (.invokevirtual 206, 3) := by decide +kernel
theorem dX9_readNumber_5 : decode cX9_readNumber 5 = .ok (.aload_n 0, 1) := by decide +kernel
theorem dX9_readNumber_6 : decode cX9_readNumber 6 = .ok (.iconst (-1), 1) := by decide +kernel
theorem dX9_readNumber_7 : decode cX9_readNumber 7 = .ok (.putfield 212, 3) := by decide +kernel
theorem dX9_readNumber_10 : decode cX9_readNumber 10 = .ok (.aload_n 0, 1) := by decide +kernel
theorem dX9_readNumber_11 : decode cX9_readNumber 11 = .ok (.getfield 184, 3) := by decide +kernel
theorem dX9_readNumber_14 : decode cX9_readNumber 14 = .ok (.ifCond .eq 4, 3) := by decide +kernel
theorem dX9_readNumber_17 : decode cX9_readNumber 17 = .ok (.return_, 1) := by decide +kernel
theorem dX9_readNumber_18 : decode cX9_readNumber 18 = .ok (.iconst 0, 1) := by decide +kernel
theorem dX9_readNumber_19 : decode cX9_readNumber 19 = .ok (.istore_n 3, 1) := by decide +kernel
theorem dX9_readNumber_20 : decode cX9_readNumber 20 = .ok (.iconst 0, 1) := by decide +kernel
theorem dX9_readNumber_21 : decode cX9_readNumber 21 = .ok (.istore 4, 2) := by decide +kernel
theorem dX9_readNumber_23 : decode cX9_readNumber 23 = .ok (.iload_n 3, 1) := by decide +kernel
theorem dX9_readNumber_24 : decode cX9_readNumber 24 = .ok (.aload_n 0, 1) := by decide +kernel
theorem dX9_readNumber_25 : decode cX9_readNumber 25 = .ok (.getfield 191, 3) := by decide +kernel
theorem dX9_readNumber_28 : decode cX9_readNumber 28 = .ok (.if_icmp .ge 44, 3) := by decide +kernel
theorem dX9_readNumber_31 : decode cX9_readNumber 31 = .ok (.aload_n 0, 1) := by decide +kernel
theorem dX9_readNumber_32 : decode cX9_readNumber 32 = .ok (.getfield 74, 3) := by decide +kernel
theorem dX9_readNumber_35 : decode cX9_readNumber 35 = .ok (.iload_n 3, 1) := by decide +kernel
theorem dX9_readNumber_36 : decode cX9_readNumber 36 = .ok (.iaload, 1) := by decide +kernel
theorem dX9_readNumber_37 : decode cX9_readNumber 37 = .ok (.invokestatic 215, 3) := by decide +kernel
theorem dX9_readNumber_40 : decode cX9_readNumber 40 = .ok (.ifCond .eq 32, 3) := by decide +kernel
theorem dX9_readNumber_43 : decode cX9_readNumber 43 = .ok (.iload_n 3, 1) := by decide +kernel
theorem dX9_readNumber_44 : decode cX9_readNumber 44 = .ok (.bipush 6, 2) := by decide +kernel
theorem dX9_readNumber_46 : decode cX9_readNumber 46 = .ok (.if_icmp .ge 26, 3) := by decide +kernel
theorem dX9_readNumber_49 : decode cX9_readNumber 49 = .ok (.bipush 10, 2) := by decide +kernel
theorem dX9_readNumber_51 : decode cX9_readNumber 51 = .ok (.iload 4, 2) := by decide +kernel
theorem dX9_readNumber_53 : decode cX9_readNumber 53 = .ok (.imul, 1) := by decide +kernel
theorem dX9_readNumber_54 : decode cX9_readNumber 54 = .ok (.aload_n 0, 1) := by decide +kernel
theorem dX9_readNumber_55 : decode cX9_readNumber 55 = .ok (.getfield 74, 3) := by decide +kernel
theorem dX9_readNumber_58 : decode cX9_readNumber 58 = .ok (.iload_n 3, 1) := by decide +kernel
theorem dX9_readNumber_59 : decode cX9_readNumber 59 = .ok (.iaload, 1) := by decide +kernel
theorem dX9_readNumber_60 : decode cX9_readNumber 60 = .ok (.iadd, 1) := by decide +kernel
theorem dX9_readNumber_61 : decode cX9_readNumber 61 = .ok (.bipush 48, 2) := by decide +kernel
theorem dX9_readNumber_63 : decode cX9_readNumber 63 = .ok (.isub, 1) := by decide +kernel
theorem dX9_readNumber_64 : decode cX9_readNumber 64 = .ok (.istore 4, 2) := by decide +kernel
theorem dX9_readNumber_66 : decode cX9_readNumber 66 = .ok (.iinc 3 1, 3) := by decide +kernel
theorem dX9_readNumber_69 : decode cX9_readNumber 69 = .ok (.goto (-46), 3) := by decide +kernel
theorem dX9_readNumber_72 : decode cX9_readNumber 72 = .ok (.aload_n 0, 1) := by decide +kernel
theorem dX9_readNumber_73 : decode cX9_readNumber 73 = .ok (.getfield 191, 3) := by decide +kernel
theorem dX9_readNumber_76 : decode cX9_readNumber 76 = .ok (.ifCond .eq 11, 3) := by decide +kernel
theorem dX9_readNumber_79 : decode cX9_readNumber 79 = .ok (.iload_n 3, 1) := by decide +kernel
theorem dX9_readNumber_80 : decode cX9_readNumber 80 = .ok (.aload_n 0, 1) := by decide +kernel
theorem dX9_readNumber_81 : decode cX9_readNumber 81 = .ok (.getfield 191, 3) := by decide +kernel
theorem dX9_readNumber_84 : decode cX9_readNumber 84 = .ok (.if_icmp .ge 45, 3) := by decide +kernel
theorem dX9_readNumber_87 : decode cX9_readNumber 87 = .ok (.aload_n 0, 1) := by decide +kernel
theorem dX9_readNumber_88 : decode cX9_readNumber 88 = .ok (.iconst 4, 1) := by decide +kernel
theorem dX9_readNumber_89 : decode cX9_readNumber 89 = .ok (.aload_n 0, 1) := by decide +kernel
theorem dX9_readNumber_90 : decode cX9_readNumber 90 = .ok (.getfield 200, 3) := by decide +kernel
theorem dX9_readNumber_93 : decode cX9_readNumber 93 = .ok (.iconst (-1), 1) := by decide +kernel
theorem dX9_readNumber_94 : decode cX9_readNumber 94 = .ok (.invokevirtual 203, 3) := by decide +kernel
theorem dX9_readNumber_97 : decode cX9_readNumber 97 = .ok (.istore 5, 2) := by decide +kernel
theorem dX9_readNumber_99 : decode cX9_readNumber 99 = .ok (.aload_n 0, 1) := by decide +kernel
theorem dX9_readNumber_100 : decode cX9_readNumber 100 = .ok (.iload 5, 2) := by decide +kernel
theorem dX9_readNumber_102 : decode cX9_readNumber 102 = .ok (.iconst 1, 1) := by decide +kernel
theorem dX9_readNumber_103 : decode cX9_readNumber 103 = .ok (.if_icmp .ne 8, 3) := by decide +kernel
theorem dX9_readNumber_106 : decode cX9_readNumber 106 = .ok (.iload 4, 2) := by decide +kernel
theorem dX9_readNumber_108 : decode cX9_readNumber 108 = .ok (.goto 17, 3) := by decide +kernel
theorem dX9_readNumber_111 : decode cX9_readNumber 111 = .ok (.iload 5, 2) := by decide +kernel
theorem dX9_readNumber_113 : decode cX9_readNumber 113 = .ok (.iconst 2, 1) := by decide +kernel
theorem dX9_readNumber_114 : decode cX9_readNumber 114 = .ok (.if_icmp .ne 10, 3) := by decide +kernel
theorem dX9_readNumber_117 : decode cX9_readNumber 117 = .ok (.aload_n 0, 1) := by decide +kernel
theorem dX9_readNumber_118 : decode cX9_readNumber 118 = .ok (.getfield 128, 3) := by decide +kernel
theorem dX9_readNumber_121 : decode cX9_readNumber 121 = .ok (.goto 4, 3) := by decide +kernel
theorem dX9_readNumber_124 : decode cX9_readNumber 124 = .ok (.iconst (-1), 1) := by decide +kernel
theorem dX9_readNumber_125 : decode cX9_readNumber 125 = .ok (.putfield 212, 3) := by decide +kernel
theorem dX9_readNumber_128 : decode cX9_readNumber 128 = .ok (.return_, 1) := by decide +kernel
theorem dX9_readNumber_129 : decode cX9_readNumber 129 = .ok (.aload_n 0, 1) := by decide +kernel
theorem dX9_readNumber_130 : decode cX9_readNumber 130 = .ok (.iload 4, 2) := by decide +kernel
theorem dX9_readNumber_132 : decode cX9_readNumber 132 = .ok (.putfield 212, 3) := by decide +kernel
theorem dX9_readNumber_135 : decode cX9_readNumber 135 = .ok (.iload 4, 2) := by decide +kernel
theorem dX9_readNumber_137 : decode cX9_readNumber 137 = .ok (.iload_n 2, 1) := by decide +kernel
theorem dX9_readNumber_138 : decode cX9_readNumber 138 = .ok (.if_icmp .le 44, 3) := by decide +kernel
theorem dX9_readNumber_141 : decode cX9_readNumber 141 = .ok (.aload_n 0, 1) := by decide +kernel
theorem dX9_readNumber_142 : decode cX9_readNumber 142 = .ok (.iconst 5, 1) := by decide +kernel
theorem dX9_readNumber_143 : decode cX9_readNumber 143 = .ok (.aload_n 0, 1) := by decide +kernel
theorem dX9_readNumber_144 : decode cX9_readNumber 144 = .ok (.getfield 200, 3) := by decide +kernel
theorem dX9_readNumber_147 : decode cX9_readNumber 147 = .ok (.iconst (-1), 1) := by decide +kernel
theorem dX9_readNumber_148 : decode cX9_readNumber 148 = .ok (.invokevirtual 203, 3) := by decide +kernel
theorem dX9_readNumber_151 : decode cX9_readNumber 151 = .ok (.istore 5, 2) := by decide +kernel
theorem dX9_readNumber_153 : decode cX9_readNumber 153 = .ok (.aload_n 0, 1) := by decide +kernel
theorem dX9_readNumber_154 : decode cX9_readNumber 154 = .ok (.iload 5, 2) := by decide +kernel
theorem dX9_readNumber_156 : decode cX9_readNumber 156 = .ok (.iconst 1, 1) := by decide +kernel
theorem dX9_readNumber_157 : decode cX9_readNumber 157 = .ok (.if_icmp .ne 8, 3) := by decide +kernel
theorem dX9_readNumber_160 : decode cX9_readNumber 160 = .ok (.iload 4, 2) := by decide +kernel
theorem dX9_readNumber_162 : decode cX9_readNumber 162 = .ok (.goto 17, 3) := by decide +kernel
theorem dX9_readNumber_165 : decode cX9_readNumber 165 = .ok (.iload 5, 2) := by decide +kernel
theorem dX9_readNumber_167 : decode cX9_readNumber 167 = .ok (.iconst 2, 1) := by decide +kernel
theorem dX9_readNumber_168 : decode cX9_readNumber 168 = .ok (.if_icmp .ne 10, 3) := by decide +kernel
theorem dX9_readNumber_171 : decode cX9_readNumber 171 = .ok (.aload_n 0, 1) := by decide +kernel
theorem dX9_readNumber_172 : decode cX9_readNumber 172 = .ok (.getfield 128, 3) := by decide +kernel
theorem dX9_readNumber_175 : decode cX9_readNumber 175 = .ok (.goto 4, 3) := by decide +kernel
theorem dX9_readNumber_178 : decode cX9_readNumber 178 = .ok (.iconst (-1), 1) := by decide +kernel
theorem dX9_readNumber_179 : decode cX9_readNumber 179 = .ok (.putfield 212, 3) := by decide +kernel
theorem dX9_readNumber_182 : decode cX9_readNumber 182 = .ok (.return_, 1) := by decide +kernel
set_option maxRecDepth 20000 in
theorem ggX9_readSex_X9_readCell : GoodIn wsX9_readSex wsX9_readCell := goodIn_r _ [11, 2, 3, 12, 13, 5, 14, 6, 4, 15, 16, 17, 18, 10, 19, 20, 21, 22, 23, 24, 25, 26, 27, 28, 29, 30, 31, 32, 33, 34, 35, 36, 37, 38, 39, 40, 41, 42, 43, 44, 45, 46, 47, 48, 49, 50, 51, 52, 53, 54, 55, 56, 57, 58, 59, 60, 61, 62, 63, 64, 65, 66, 67, 68, 69, 70, 71, 72, 73, 74, 75, 76, 77, 78, 79, 80, 81, 82, 83, 84, 85, 86, 87, 88, 89, 90, 91, 92, 93, 94, 95, 96, 97, 98, 99, 100, 101, 102, 103, 104, 105, 106, 107, 108, 109, 110, 111, 112, 113, 114, 115, 116, 117, 118, 119, 120, 121, 122, 123, 124, 125, 126, 127, 128, 129, 130, 131, 132, 133, 134, 135, 136, 137, 138, 139, 140] (by decide +kernel) (by decide +kernel)
set_option maxRecDepth 20000 in
theorem gX9_readSex_X9_readCell : GoodIn wsX9_readSex (wsV RX9 206 RX9 yX9_readCell wsX9_readCell) := goodIn_app (goodIn_of _ (by decide +kernel)) ggX9_readSex_X9_readCell
set_option maxRecDepth 20000 in
theorem ggX9_readSex_X9_failField : GoodIn wsX9_readSex wsX9_failField := goodIn_r _ [50, 14, 2, 21, 22, 23, 10, 24, 6, 25, 26, 27, 28, 29, 30, 31, 32, 33, 34, 35, 36, 37, 38, 39, 40, 41, 42, 43, 44, 45, 46, 51, 52, 53, 54, 12, 55, 56, 57, 58, 59, 60, 61, 62, 63, 64, 65, 66, 67, 68, 69, 70, 71, 72, 73, 74, 75, 76, 77, 78, 79, 80, 81, 82, 83, 84, 85, 86, 87, 88, 89, 90, 91, 92, 93, 94, 95, 96, 97, 98, 99, 100, 101, 102, 103, 104, 105, 106, 107, 108, 109, 110, 111, 112, 113, 114, 115, 116, 117, 118, 119, 120, 121, 122, 123, 124, 125, 126, 127, 128, 129, 130, 131, 132, 133, 134, 135, 136, 137, 138, 139, 140] (by decide +kernel) (by decide +kernel)
set_option maxRecDepth 20000 in
theorem gX9_readSex_X9_failField : GoodIn wsX9_readSex (wsV RX9 203 RX9 yX9_failField wsX9_failField) := goodIn_app (goodIn_of _ (by decide +kernel)) ggX9_readSex_X9_failField
theorem dX9_readSex_0 : decode cX9_readSex 0 = .ok (.aload_n 0, 1) := by decide +kernel
theorem dX9_readSex_1 : decode cX9_readSex 1 = .ok (.iload_n 1, 1) := by decide +kernel
theorem dX9_readSex_2 : decode cX9_readSex 2 = .ok (.invokevirtual 206, 3) := by decide +kernel
theorem dX9_readSex_5 : decode cX9_readSex 5 = .ok (.aload_n 0, 1) := by decide +kernel
theorem dX9_readSex_6 : decode cX9_readSex 6 = .ok (.iconst (-1), 1) := by decide +kernel
theorem dX9_readSex_7 : decode cX9_readSex 7 = .ok (.putfield 212, 3) := by decide +kernel
theorem dX9_readSex_10 : decode cX9_readSex 10 = .ok (.aload_n 0, 1) := by decide +kernel
theorem dX9_readSex_11 : decode cX9_readSex 11 = .ok (.getfield 184, 3) := by decide +kernel
theorem dX9_readSex_14 : decode cX9_readSex 14 = .ok (.ifCond .eq 4, 3) := by decide +kernel
theorem dX9_readSex_17 : decode cX9_readSex 17 = .ok (.return_, 1) := by decide +kernel
theorem dX9_readSex_18 : decode cX9_readSex 18 = .ok (.aload_n 0, 1) := by decide +kernel
theorem dX9_readSex_19 : decode cX9_readSex 19 = .ok (.getfield 191, 3) := by decide +kernel
theorem dX9_readSex_22 : decode cX9_readSex 22 = .ok (.iconst 1, 1) := by decide +kernel
theorem dX9_readSex_23 : decode cX9_readSex 23 = .ok (.if_icmp .ne 48, 3) := by decide +kernel
theorem dX9_readSex_26 : decode cX9_readSex 26 = .ok (.aload_n 0, 1) := by decide +kernel
theorem dX9_readSex_27 : decode cX9_readSex 27 = .ok (.getfield 74, 3) := by decide +kernel
theorem dX9_readSex_30 : decode cX9_readSex 30 = .ok (.iconst 0, 1) := by decide +kernel
theorem dX9_readSex_31 : decode cX9_readSex 31 = .ok (.iaload, 1) := by decide +kernel
theorem dX9_readSex_32 : decode cX9_readSex 32 = .ok (.bipush 109, 2) := by decide +kernel
theorem dX9_readSex_34 : decode cX9_readSex 34 = .ok (.if_icmp .eq 14, 3) := by decide +kernel
theorem dX9_readSex_37 : decode cX9_readSex 37 = .ok (.aload_n 0, 1) := by decide +kernel
theorem dX9_readSex_38 : decode cX9_readSex 38 = .ok (.getfield 74, 3) := by decide +kernel
theorem dX9_readSex_41 : decode cX9_readSex 41 = .ok (.iconst 0, 1) := by decide +kernel
theorem dX9_readSex_42 : decode cX9_readSex 42 = .ok (.iaload, 1) := by decide +kernel
theorem dX9_readSex_43 : decode cX9_readSex 43 = .ok (.bipush 102, 2) := by decide +kernel
theorem dX9_readSex_45 : decode cX9_readSex 45 = .ok (.if_icmp .ne 26, 3) := by decide +kernel
theorem dX9_readSex_48 : decode cX9_readSex 48 = .ok (.aload_n 0, 1) := by decide +kernel
theorem dX9_readSex_49 : decode cX9_readSex 49 = .ok (.aload_n 0, 1) := by decide +kernel
theorem dX9_readSex_50 : decode cX9_readSex 50 = .ok (.getfield 74, 3) := by decide +kernel
theorem dX9_readSex_53 : decode cX9_readSex 53 = .ok (.iconst 0, 1) := by decide +kernel
theorem dX9_readSex_54 : decode cX9_readSex 54 = .ok (.iaload, 1) := by decide +kernel
theorem dX9_readSex_55 : decode cX9_readSex 55 = .ok (.bipush 109, 2) := by decide +kernel
theorem dX9_readSex_57 : decode cX9_readSex 57 = .ok (.if_icmp .ne 7, 3) := by decide +kernel
theorem dX9_readSex_60 : decode cX9_readSex 60 = .ok (.iconst 0, 1) := by decide +kernel
theorem dX9_readSex_61 : decode cX9_readSex 61 = .ok (.goto 4, 3) := by decide +kernel
theorem dX9_readSex_64 : decode cX9_readSex 64 = .ok (.iconst 1, 1) := by decide +kernel
theorem dX9_readSex_65 : decode cX9_readSex 65 = .ok (.putfield 212, 3) := by decide +kernel
theorem dX9_readSex_68 : decode cX9_readSex 68 = .ok (.goto 47, 3) := by decide +kernel
theorem dX9_readSex_71 : decode cX9_readSex 71 = .ok (.aload_n 0, 1) := by decide +kernel
theorem dX9_readSex_72 : decode cX9_readSex 72 = .ok (.bipush 6, 2) := by decide +kernel
theorem dX9_readSex_74 : decode cX9_readSex 74 = .ok (.aload_n 0, 1) := by decide +kernel
theorem dX9_readSex_75 : decode cX9_readSex 75 = .ok (.getfield 200, 3) := by decide +kernel
theorem dX9_readSex_78 : decode cX9_readSex 78 = .ok (.iconst (-1), 1) := by decide +kernel
theorem dX9_readSex_79 : decode cX9_readSex 79 = .ok (.invokevirtual 203, 3) := by decide +kernel
theorem dX9_readSex_82 : decode cX9_readSex 82 = .ok (.istore_n 2, 1) := by decide +kernel
theorem dX9_readSex_83 : decode cX9_readSex 83 = .ok (.aload_n 0, 1) := by decide +kernel
theorem dX9_readSex_84 : decode cX9_readSex 84 = .ok (.iload_n 2, 1) := by decide +kernel
theorem dX9_readSex_85 : decode cX9_readSex 85 = .ok (.iconst 2, 1) := by decide +kernel
theorem dX9_readSex_86 : decode cX9_readSex 86 = .ok (.if_icmp .ne 25, 3) := by decide +kernel
theorem dX9_readSex_89 : decode cX9_readSex 89 = .ok (.aload_n 0, 1) := by decide +kernel
theorem dX9_readSex_90 : decode cX9_readSex 90 = .ok (.getfield 128, 3) := by decide +kernel
theorem dX9_readSex_93 : decode cX9_readSex 93 = .ok (.ifCond .eq 11, 3) := by decide +kernel
theorem dX9_readSex_96 : decode cX9_readSex 96 = .ok (.aload_n 0, 1) := by decide +kernel
theorem dX9_readSex_97 : decode cX9_readSex 97 = .ok (.getfield 128, 3) := by decide +kernel
theorem dX9_readSex_100 : decode cX9_readSex 100 = .ok (.iconst 1, 1) := by decide +kernel
theorem dX9_readSex_101 : decode cX9_readSex 101 = .ok (.if_icmp .ne 10, 3) := by decide +kernel
theorem dX9_readSex_104 : decode cX9_readSex 104 = .ok (.aload_n 0, 1) := by decide +kernel
theorem dX9_readSex_105 : decode cX9_readSex 105 = .ok (.getfield 128, 3) := by decide +kernel
theorem dX9_readSex_108 : decode cX9_readSex 108 = .ok (.goto 4, 3) := by decide +kernel
theorem dX9_readSex_111 : decode cX9_readSex 111 = .ok (.iconst (-1), 1) := by decide +kernel
theorem dX9_readSex_112 : decode cX9_readSex 112 = .ok (.putfield 212, 3) := by decide +kernel
theorem dX9_readSex_115 : decode cX9_readSex 115 = .ok (.return_, 1) := by decide +kernel
set_option maxRecDepth 20000 in
theorem ggX9_readTrade_X9_readCell : GoodIn wsX9_readTrade wsX9_readCell := goodIn_r _ [11, 2, 3, 12, 13, 5, 14, 6, 4, 15, 16, 17, 18, 10, 19, 20, 21, 22, 23, 24, 25, 26, 27, 28, 29, 30, 31, 32, 33, 34, 35, 36, 37, 38, 39, 40, 41, 42, 43, 44, 45, 46, 47, 48, 49, 50, 51, 52, 53, 54, 55, 56, 57, 58, 59, 60, 61, 62, 63, 64, 65, 66, 67, 68, 69, 70, 71, 75, 76, 77, 78, 79, 80, 81, 82, 83, 84, 85, 86, 87, 88, 89, 90, 91, 92, 93, 94, 95, 96, 97, 98, 99, 100, 101, 102, 103, 104, 105, 106, 107, 108, 109, 110, 111, 112, 113, 114, 115, 116, 117, 118, 119, 120, 121, 122, 123, 124, 125, 126, 127, 128, 129, 130, 131, 132, 133, 134, 135, 136, 137, 138, 139, 140, 141, 142, 143] (by decide +kernel) (by decide +kernel)
set_option maxRecDepth 20000 in
theorem gX9_readTrade_X9_readCell : GoodIn wsX9_readTrade (wsV RX9 206 RX9 yX9_readCell wsX9_readCell) := goodIn_app (goodIn_of _ (by decide +kernel)) ggX9_readTrade_X9_readCell
set_option maxRecDepth 20000 in
theorem ggX9_readTrade_X9_isDigit : GoodIn wsX9_readTrade wsX9_isDigit := goodIn_r _ [74] (by decide +kernel) (by decide +kernel)
set_option maxRecDepth 20000 in
theorem gX9_readTrade_X9_isDigit : GoodIn wsX9_readTrade (va_wsS RX9 215 yX9_isDigit wsX9_isDigit) := goodIn_app (goodIn_of _ (by decide +kernel)) ggX9_readTrade_X9_isDigit
set_option maxRecDepth 20000 in
theorem ggX9_readTrade_X9_failField : GoodIn wsX9_readTrade wsX9_failField := goodIn_r _ [50, 14, 2, 21, 22, 23, 10, 24, 6, 25, 26, 27, 28, 29, 30, 31, 32, 33, 34, 35, 36, 37, 38, 39, 40, 41, 42, 43, 44, 45, 46, 51, 52, 53, 54, 12, 55, 56, 57, 58, 59, 60, 61, 62, 63, 64, 65, 66, 67, 68, 69, 70, 71, 75, 76, 77, 78, 79, 80, 81, 82, 83, 84, 85, 86, 87, 88, 89, 90, 91, 92, 93, 94, 95, 96, 97, 98, 99, 100, 101, 102, 103, 104, 105, 106, 107, 108, 109, 110, 111, 112, 113, 114, 115, 116, 117, 118, 119, 120, 121, 122, 123, 124, 125, 126, 127, 128, 129, 130, 131, 132, 133, 134, 135, 136, 137, 138, 139, 140, 141, 142, 143] (by decide +kernel) (by decide +kernel)
set_option maxRecDepth 20000 in
theorem gX9_readTrade_X9_failField : GoodIn wsX9_readTrade (wsV RX9 203 RX9 yX9_failField wsX9_failField) := goodIn_app (goodIn_of _ (by decide +kernel)) ggX9_readTrade_X9_failField
theorem dX9_readTrade_0 : decode cX9_readTrade 0 = .ok (.aload_n 0, 1) := by decide +kernel
theorem dX9_readTrade_1 : decode cX9_readTrade 1 = .ok (.iload_n 1, 1) := by decide +kernel
theorem dX9_readTrade_2 : decode cX9_readTrade 2 = .ok (.invokevirtual 206, 3) := by decide +kernel
theorem dX9_readTrade_5 : decode cX9_readTrade 5 = .ok (.aload_n 0, 1) := by decide +kernel
theorem dX9_readTrade_6 : decode cX9_readTrade 6 = .ok (.iconst (-1), 1) := by decide +kernel
theorem dX9_readTrade_7 : decode cX9_readTrade 7 = .ok (.putfield 212, 3) := by decide +kernel
theorem dX9_readTrade_10 : decode cX9_readTrade 10 = .ok (.aload_n 0, 1) := by decide +kernel
theorem dX9_readTrade_11 : decode cX9_readTrade 11 = .ok (.getfield 184, 3) := by decide +kernel
theorem dX9_readTrade_14 : decode cX9_readTrade 14 = .ok (.ifCond .eq 4, 3) := by decide +kernel
theorem dX9_readTrade_17 : decode cX9_readTrade 17 = .ok (.return_, 1) := by decide +kernel
theorem dX9_readTrade_18 : decode cX9_readTrade 18 = .ok (.aload_n 0, 1) := by decide +kernel
theorem dX9_readTrade_19 : decode cX9_readTrade 19 = .ok (.getfield 191, 3) := by decide +kernel
theorem dX9_readTrade_22 : decode cX9_readTrade 22 = .ok (.ifCond .ne 11, 3) := by decide +kernel
theorem dX9_readTrade_25 : decode cX9_readTrade 25 = .ok (.aload_n 0, 1) := by decide +kernel
theorem dX9_readTrade_26 : decode cX9_readTrade 26 = .ok (.iconst 0, 1) := by decide +kernel
theorem dX9_readTrade_27 : decode cX9_readTrade 27 = .ok (.putfield 212, 3) := by decide +kernel
theorem dX9_readTrade_30 : decode cX9_readTrade 30 = .ok (.goto 68, 3) := by decide +kernel
theorem dX9_readTrade_33 : decode cX9_readTrade 33 = .ok (.aload_n 0, 1) := by decide +kernel
theorem dX9_readTrade_34 : decode cX9_readTrade 34 = .ok (.getfield 191, 3) := by decide +kernel
theorem dX9_readTrade_37 : decode cX9_readTrade 37 = .ok (.iconst 1, 1) := by decide +kernel
theorem dX9_readTrade_38 : decode cX9_readTrade 38 = .ok (.if_icmp .ne 31, 3) := by decide +kernel
theorem dX9_readTrade_41 : decode cX9_readTrade 41 = .ok (.aload_n 0, 1) := by decide +kernel
theorem dX9_readTrade_42 : decode cX9_readTrade 42 = .ok (.getfield 74, 3) := by decide +kernel
theorem dX9_readTrade_45 : decode cX9_readTrade 45 = .ok (.iconst 0, 1) := by decide +kernel
theorem dX9_readTrade_46 : decode cX9_readTrade 46 = .ok (.iaload, 1) := by decide +kernel
theorem dX9_readTrade_47 : decode cX9_readTrade 47 = .ok (.invokestatic 215, 3) := by decide +kernel
theorem dX9_readTrade_50 : decode cX9_readTrade 50 = .ok (.ifCond .eq 19, 3) := by decide +kernel
theorem dX9_readTrade_53 : decode cX9_readTrade 53 = .ok (.aload_n 0, 1) := by decide +kernel
theorem dX9_readTrade_54 : decode cX9_readTrade 54 = .ok (.aload_n 0, 1) := by decide +kernel
theorem dX9_readTrade_55 : decode cX9_readTrade 55 = .ok (.getfield 74, 3) := by decide +kernel
theorem dX9_readTrade_58 : decode cX9_readTrade 58 = .ok (.iconst 0, 1) := by decide +kernel
theorem dX9_readTrade_59 : decode cX9_readTrade 59 = .ok (.iaload, 1) := by decide +kernel
theorem dX9_readTrade_60 : decode cX9_readTrade 60 = .ok (.bipush 48, 2) := by decide +kernel
theorem dX9_readTrade_62 : decode cX9_readTrade 62 = .ok (.isub, 1) := by decide +kernel
theorem dX9_readTrade_63 : decode cX9_readTrade 63 = .ok (.putfield 212, 3) := by decide +kernel
theorem dX9_readTrade_66 : decode cX9_readTrade 66 = .ok (.goto 32, 3) := by decide +kernel
theorem dX9_readTrade_69 : decode cX9_readTrade 69 = .ok (.aload_n 0, 1) := by decide +kernel
theorem dX9_readTrade_70 : decode cX9_readTrade 70 = .ok (.bipush 7, 2) := by decide +kernel
theorem dX9_readTrade_72 : decode cX9_readTrade 72 = .ok (.aload_n 0, 1) := by decide +kernel
theorem dX9_readTrade_73 : decode cX9_readTrade 73 = .ok (.getfield 200, 3) := by decide +kernel
theorem dX9_readTrade_76 : decode cX9_readTrade 76 = .ok (.iconst (-1), 1) := by decide +kernel
theorem dX9_readTrade_77 : decode cX9_readTrade 77 = .ok (.invokevirtual 203, 3) := by decide +kernel
theorem dX9_readTrade_80 : decode cX9_readTrade 80 = .ok (.istore_n 2, 1) := by decide +kernel
theorem dX9_readTrade_81 : decode cX9_readTrade 81 = .ok (.aload_n 0, 1) := by decide +kernel
theorem dX9_readTrade_82 : decode cX9_readTrade 82 = .ok (.iload_n 2, 1) := by decide +kernel
theorem dX9_readTrade_83 : decode cX9_readTrade 83 = .ok (.iconst 2, 1) := by decide +kernel
theorem dX9_readTrade_84 : decode cX9_readTrade 84 = .ok (.if_icmp .ne 10, 3) := by decide +kernel
theorem dX9_readTrade_87 : decode cX9_readTrade 87 = .ok (.aload_n 0, 1) := by decide +kernel
theorem dX9_readTrade_88 : decode cX9_readTrade 88 = .ok (.getfield 128, 3) := by decide +kernel
theorem dX9_readTrade_91 : decode cX9_readTrade 91 = .ok (.goto 4, 3) := by decide +kernel
theorem dX9_readTrade_94 : decode cX9_readTrade 94 = .ok (.iconst (-1), 1) := by decide +kernel
theorem dX9_readTrade_95 : decode cX9_readTrade 95 = .ok (.putfield 212, 3) := by decide +kernel
theorem dX9_readTrade_98 : decode cX9_readTrade 98 = .ok (.return_, 1) := by decide +kernel
set_option maxRecDepth 20000 in
theorem ggX9_isLine_X9_at : GoodIn wsX9_isLine wsX9_at := goodIn_r _ [10, 11, 59, 60, 61, 62, 63, 64, 65, 66, 67, 68, 69, 70, 71, 72, 73, 74, 75, 76, 77, 78, 79, 80, 81, 82, 83, 84, 85, 86, 87, 88, 89, 90, 91, 92, 93, 94, 95, 96, 97, 98, 99, 100, 101, 102, 103, 104, 105, 106, 107, 108, 109, 110, 111, 112, 113, 114, 115, 116, 117, 118, 119, 120, 121, 122, 123, 124, 125, 126, 127] (by decide +kernel) (by decide +kernel)
set_option maxRecDepth 20000 in
theorem gX9_isLine_X9_at : GoodIn wsX9_isLine (wsV RX9 197 RX9 yX9_at wsX9_at) := goodIn_app (goodIn_of _ (by decide +kernel)) ggX9_isLine_X9_at
set_option maxRecDepth 20000 in
theorem ggX9_isLine_X9_failLine : GoodIn wsX9_isLine wsX9_failLine := goodIn_r _ [15, 3, 16, 1, 17, 18, 19, 9, 20, 21, 22, 23, 24, 4, 25, 26, 27, 28, 29, 30, 31, 32, 33, 34, 35, 36, 37, 38, 39, 40, 41, 42, 43, 44, 45, 46, 47, 48, 49, 50, 51, 52, 53, 54, 55, 56, 57, 58, 59, 60, 61, 62, 63, 64, 65, 66, 67, 68, 69, 70, 71, 72, 73, 74, 75, 76, 77, 78, 79, 80, 81, 82, 83, 84, 85, 86, 87, 88, 89, 90, 91, 92, 93, 94, 95, 96, 97, 98, 99, 100, 101, 102, 103, 104, 105, 106, 107, 108, 109, 110, 111, 112, 113, 114, 115, 116, 117, 118, 119, 120, 121, 122, 123, 124, 125, 126, 127] (by decide +kernel) (by decide +kernel)
set_option maxRecDepth 20000 in
theorem gX9_isLine_X9_failLine : GoodIn wsX9_isLine (wsV RX9 187 RX9 yX9_failLine wsX9_failLine) := goodIn_app (goodIn_of _ (by decide +kernel)) ggX9_isLine_X9_failLine
set_option maxRecDepth 20000 in
theorem ggX9_isLine_X9_failSheet : GoodIn wsX9_isLine wsX9_failSheet := goodIn_r _ [57, 58, 16, 17, 18, 19, 9, 20, 21, 22, 23, 24, 4, 25, 26, 27, 28, 29, 30, 31, 32, 33, 34, 35, 36, 37, 38, 39, 40, 41, 42, 59, 60, 61, 62, 63, 64, 65, 66, 67, 68, 69, 70, 71, 72, 73, 74, 75, 76, 77, 78, 79, 80, 81, 82, 83, 84, 85, 86, 87, 88, 89, 90, 91, 92, 93, 94, 95, 96, 97, 98, 99, 100, 101, 102, 103, 104, 105, 106, 107, 108, 109, 110, 111, 112, 113, 114, 115, 116, 117, 118, 119, 120, 121, 122, 123, 124, 125, 126, 127] (by decide +kernel) (by decide +kernel)
set_option maxRecDepth 20000 in
theorem gX9_isLine_X9_failSheet : GoodIn wsX9_isLine (wsV RX9 167 RX9 yX9_failSheet wsX9_failSheet) := goodIn_app (goodIn_of _ (by decide +kernel)) ggX9_isLine_X9_failSheet
theorem dX9_isLine_0 : decode cX9_isLine 0 = .ok (.aload_n 0, 1) := by decide +kernel
theorem dX9_isLine_1 : decode cX9_isLine 1 = .ok (.iconst 0, 1) := by decide +kernel
theorem dX9_isLine_2 : decode cX9_isLine 2 = .ok (.putfield 177, 3) := by decide +kernel
theorem dX9_isLine_5 : decode cX9_isLine 5 = .ok (.iload_n 1, 1) := by decide +kernel
theorem dX9_isLine_6 : decode cX9_isLine 6 = .ok (.bipush 72, 2) := by decide +kernel
theorem dX9_isLine_8 : decode cX9_isLine 8 = .ok (.if_icmp .eq 15, 3) := by decide +kernel
theorem dX9_isLine_11 : decode cX9_isLine 11 = .ok (.iload_n 1, 1) := by decide +kernel
theorem dX9_isLine_12 : decode cX9_isLine 12 = .ok (.bipush 80, 2) := by decide +kernel
theorem dX9_isLine_14 : decode cX9_isLine 14 = .ok (.if_icmp .eq 9, 3) := by decide +kernel
theorem dX9_isLine_17 : decode cX9_isLine 17 = .ok (.iload_n 1, 1) := by decide +kernel
theorem dX9_isLine_18 : decode cX9_isLine 18 = .ok (.bipush 83, 2) := by decide +kernel
theorem dX9_isLine_20 : decode cX9_isLine 20 = .ok (.if_icmp .ne 31, 3) := by decide +kernel
theorem dX9_isLine_23 : decode cX9_isLine 23 = .ok (.aload_n 0, 1) := by decide +kernel
theorem dX9_isLine_24 : decode cX9_isLine 24 = .ok (.getfield 194, 3) := by decide +kernel
theorem dX9_isLine_27 : decode cX9_isLine 27 = .ok (.aload_n 0, 1) := by decide +kernel
theorem dX9_isLine_28 : decode cX9_isLine 28 = .ok (.getfield 171, 3) := by decide +kernel
theorem dX9_isLine_31 : decode cX9_isLine 31 = .ok (.iconst 1, 1) := by decide +kernel
theorem dX9_isLine_32 : decode cX9_isLine 32 = .ok (.iadd, 1) := by decide +kernel
theorem dX9_isLine_33 : decode cX9_isLine 33 = .ok (.if_icmp .le 27, 3) := by decide +kernel
theorem dX9_isLine_36 : decode cX9_isLine 36 = .ok (.aload_n 0, 1) := by decide +kernel
theorem dX9_isLine_37 : decode cX9_isLine 37 = .ok (.aload_n 0, 1) := by decide +kernel
theorem dX9_isLine_38 : decode cX9_isLine 38 = .ok (.getfield 171, 3) := by decide +kernel
theorem dX9_isLine_41 : decode cX9_isLine 41 = .ok (.iconst 1, 1) := by decide +kernel
theorem dX9_isLine_42 : decode cX9_isLine 42 = .ok (.iadd, 1) := by decide +kernel
theorem dX9_isLine_43 : decode cX9_isLine 43 = .ok (.invokevirtual 197, 3) := by decide +kernel
theorem dX9_isLine_46 : decode cX9_isLine 46 = .ok (.bipush 124, 2) := by decide +kernel
theorem dX9_isLine_48 : decode cX9_isLine 48 = .ok (.if_icmp .eq 12, 3) := by decide +kernel
theorem dX9_isLine_51 : decode cX9_isLine 51 = .ok (.aload_n 0, 1) := by decide +kernel
theorem dX9_isLine_52 : decode cX9_isLine 52 = .ok (.bipush 9, 2) := by decide +kernel
theorem dX9_isLine_54 : decode cX9_isLine 54 = .ok (.iconst (-1), 1) := by decide +kernel
theorem dX9_isLine_55 : decode cX9_isLine 55 = .ok (.invokevirtual 187, 3) := by decide +kernel
theorem dX9_isLine_58 : decode cX9_isLine 58 = .ok (.iconst 0, 1) := by decide +kernel
theorem dX9_isLine_59 : decode cX9_isLine 59 = .ok (.ireturn, 1) := by decide +kernel
theorem dX9_isLine_60 : decode cX9_isLine 60 = .ok (.iload_n 1, 1) := by decide +kernel
theorem dX9_isLine_61 : decode cX9_isLine 61 = .ok (.bipush 80, 2) := by decide +kernel
theorem dX9_isLine_63 : decode cX9_isLine 63 = .ok (.if_icmp .ne 23, 3) := by decide +kernel
theorem dX9_isLine_66 : decode cX9_isLine 66 = .ok (.aload_n 0, 1) := by decide +kernel
theorem dX9_isLine_67 : decode cX9_isLine 67 = .ok (.getfield 141, 3) := by decide +kernel
theorem dX9_isLine_70 : decode cX9_isLine 70 = .ok (.ifCond .ne 16, 3) := by decide +kernel
theorem dX9_isLine_73 : decode cX9_isLine 73 = .ok (.aload_n 0, 1) := by decide +kernel
theorem dX9_isLine_74 : decode cX9_isLine 74 = .ok (.bipush 19, 2) := by decide +kernel
theorem dX9_isLine_76 : decode cX9_isLine 76 = .ok (.aload_n 0, 1) := by decide +kernel
theorem dX9_isLine_77 : decode cX9_isLine 77 = .ok (.getfield 171, 3) := by decide +kernel
theorem dX9_isLine_80 : decode cX9_isLine 80 = .ok (.iconst (-1), 1) := by decide +kernel
theorem dX9_isLine_81 : decode cX9_isLine 81 = .ok (.invokevirtual 167, 3) := by decide +kernel
theorem dX9_isLine_84 : decode cX9_isLine 84 = .ok (.iconst 0, 1) := by decide +kernel
theorem dX9_isLine_85 : decode cX9_isLine 85 = .ok (.ireturn, 1) := by decide +kernel
theorem dX9_isLine_86 : decode cX9_isLine 86 = .ok (.aload_n 0, 1) := by decide +kernel
theorem dX9_isLine_87 : decode cX9_isLine 87 = .ok (.iconst 1, 1) := by decide +kernel
theorem dX9_isLine_88 : decode cX9_isLine 88 = .ok (.putfield 218, 3) := by decide +kernel
theorem dX9_isLine_91 : decode cX9_isLine 91 = .ok (.aload_n 0, 1) := by decide +kernel
theorem dX9_isLine_92 : decode cX9_isLine 92 = .ok (.getfield 171, 3) := by decide +kernel
theorem dX9_isLine_95 : decode cX9_isLine 95 = .ok (.istore_n 3, 1) := by decide +kernel
theorem dX9_isLine_96 : decode cX9_isLine 96 = .ok (.iload_n 3, 1) := by decide +kernel
theorem dX9_isLine_97 : decode cX9_isLine 97 = .ok (.aload_n 0, 1) := by decide +kernel
theorem dX9_isLine_98 : decode cX9_isLine 98 = .ok (.getfield 194, 3) := by decide +kernel
theorem dX9_isLine_101 : decode cX9_isLine 101 = .ok (.if_icmp .ge 33, 3) := by decide +kernel
theorem dX9_isLine_104 : decode cX9_isLine 104 = .ok (.aload_n 0, 1) := by decide +kernel
theorem dX9_isLine_105 : decode cX9_isLine 105 = .ok (.dup, 1) := by decide +kernel
theorem dX9_isLine_106 : decode cX9_isLine 106 = .ok (.getfield 218, 3) := by decide +kernel
theorem dX9_isLine_109 : decode cX9_isLine 109 = .ok (.aload_n 0, 1) := by decide +kernel
theorem dX9_isLine_110 : decode cX9_isLine 110 = .ok (.iload_n 3, 1) := by decide +kernel
theorem dX9_isLine_111 : decode cX9_isLine 111 = .ok (.invokevirtual 197, 3) := by decide +kernel
theorem dX9_isLine_114 : decode cX9_isLine 114 = .ok (.bipush 124, 2) := by decide +kernel
theorem dX9_isLine_116 : decode cX9_isLine 116 = .ok (.if_icmp .ne 7, 3) := by decide +kernel
theorem dX9_isLine_119 : decode cX9_isLine 119 = .ok (.iconst 1, 1) := by decide +kernel
theorem dX9_isLine_120 : decode cX9_isLine 120 = .ok (.goto 4, 3) := by decide +kernel
theorem dX9_isLine_123 : decode cX9_isLine 123 = .ok (.iconst 0, 1) := by decide +kernel
theorem dX9_isLine_124 : decode cX9_isLine 124 = .ok (.iadd, 1) := by decide +kernel
theorem dX9_isLine_125 : decode cX9_isLine 125 = .ok (.putfield 218, 3) := by decide +kernel
theorem dX9_isLine_128 : decode cX9_isLine 128 = .ok (.iinc 3 1, 3) := by decide +kernel
theorem dX9_isLine_131 : decode cX9_isLine 131 = .ok (.goto (-35), 3) := by decide +kernel
theorem dX9_isLine_134 : decode cX9_isLine 134 = .ok (.aload_n 0, 1) := by decide +kernel
theorem dX9_isLine_135 : decode cX9_isLine 135 = .ok (.getfield 218, 3) := by decide +kernel
theorem dX9_isLine_138 : decode cX9_isLine 138 = .ok (.iload_n 2, 1) := by decide +kernel
theorem dX9_isLine_139 : decode cX9_isLine 139 = .ok (.if_icmp .eq 23, 3) := by decide +kernel
theorem dX9_isLine_142 : decode cX9_isLine 142 = .ok (.aload_n 0, 1) := by decide +kernel
theorem dX9_isLine_143 : decode cX9_isLine 143 = .ok (.aload_n 0, 1) := by decide +kernel
theorem dX9_isLine_144 : decode cX9_isLine 144 = .ok (.getfield 218, 3) := by decide +kernel
theorem dX9_isLine_147 : decode cX9_isLine 147 = .ok (.iload_n 2, 1) := by decide +kernel
theorem dX9_isLine_148 : decode cX9_isLine 148 = .ok (.if_icmp .ge 8, 3) := by decide +kernel
theorem dX9_isLine_151 : decode cX9_isLine 151 = .ok (.bipush 10, 2) := by decide +kernel
theorem dX9_isLine_153 : decode cX9_isLine 153 = .ok (.goto 5, 3) := by decide +kernel
theorem dX9_isLine_156 : decode cX9_isLine 156 = .ok (.bipush 11, 2) := by decide +kernel
theorem dX9_isLine_158 : decode cX9_isLine 158 = .ok (.iconst (-1), 1) := by decide +kernel
theorem dX9_isLine_159 : decode cX9_isLine 159 = .ok (.invokevirtual 187, 3) := by decide +kernel
theorem dX9_isLine_162 : decode cX9_isLine 162 = .ok (.aload_n 0, 1) := by decide +kernel
theorem dX9_isLine_163 : decode cX9_isLine 163 = .ok (.getfield 177, 3) := by decide +kernel
theorem dX9_isLine_166 : decode cX9_isLine 166 = .ok (.ifCond .ne 7, 3) := by decide +kernel
theorem dX9_isLine_169 : decode cX9_isLine 169 = .ok (.iconst 1, 1) := by decide +kernel
theorem dX9_isLine_170 : decode cX9_isLine 170 = .ok (.goto 4, 3) := by decide +kernel
theorem dX9_isLine_173 : decode cX9_isLine 173 = .ok (.iconst 0, 1) := by decide +kernel
theorem dX9_isLine_174 : decode cX9_isLine 174 = .ok (.ireturn, 1) := by decide +kernel
set_option maxRecDepth 20000 in
theorem ggX9_readHouse_X9_isLine : GoodIn wsX9_readHouse wsX9_isLine := goodIn_r _ [9, 4, 10, 11, 12, 13, 14, 15, 16, 8, 17, 18, 19, 20, 21, 22, 23, 24, 25, 26, 27, 28, 29, 30, 31, 32, 33, 34, 35, 36, 37, 38, 39, 40, 41, 42, 43, 44, 45, 46, 47, 48, 49, 50, 51, 52, 53, 54, 55, 56, 57, 58, 59, 60, 61, 62, 63, 64, 65, 86, 87, 88, 89, 90, 91, 92, 93, 94, 95, 96, 97, 98, 99, 100, 101, 102, 103, 104, 105, 106, 107, 108, 109, 110, 111, 112, 113, 114, 115, 116, 117, 118, 119, 120, 121, 122, 123, 124, 125, 126, 127, 128, 129, 130, 131, 132, 133, 134, 135, 136, 137, 138, 139, 140, 141, 142, 143, 144, 145, 146, 147, 148, 149, 150, 151, 152, 153, 154] (by decide +kernel) (by decide +kernel)
set_option maxRecDepth 20000 in
theorem gX9_readHouse_X9_isLine : GoodIn wsX9_readHouse (wsV RX9 227 RX9 yX9_isLine wsX9_isLine) := goodIn_app (goodIn_of _ (by decide +kernel)) ggX9_readHouse_X9_isLine
set_option maxRecDepth 20000 in
theorem ggX9_readHouse_X9_readNumber : GoodIn wsX9_readHouse wsX9_readNumber := goodIn_r _ [69, 3, 70, 71, 72, 73, 28, 74, 75, 76, 8, 77, 11, 10, 23, 78, 14, 15, 16, 17, 18, 24, 25, 26, 27, 29, 30, 31, 12, 32, 33, 34, 35, 36, 37, 38, 39, 40, 41, 42, 43, 44, 45, 46, 47, 48, 49, 79, 80, 81, 82, 19, 20, 21, 22, 4, 50, 51, 52, 53, 54, 55, 56, 57, 58, 59, 60, 61, 62, 63, 64, 65, 83, 84, 85, 86, 87, 88, 89, 90, 91, 92, 93, 94, 95, 96, 97, 98, 99, 100, 101, 102, 103, 104, 105, 106, 107, 108, 109, 110, 111, 112, 113, 114, 115, 116, 117, 118, 119, 120, 121, 122, 123, 124, 125, 126, 127, 128, 129, 130, 131, 132, 133, 134, 135, 136, 137, 138, 139, 140, 141, 142, 143, 144, 145, 146, 147, 148, 149, 150, 151, 152, 153, 154] (by decide +kernel) (by decide +kernel)
set_option maxRecDepth 20000 in
theorem gX9_readHouse_X9_readNumber : GoodIn wsX9_readHouse (wsV RX9 231 RX9 yX9_readNumber wsX9_readNumber) := goodIn_app (goodIn_of _ (by decide +kernel)) ggX9_readHouse_X9_readNumber
theorem dX9_readHouse_0 : decode cX9_readHouse 0 = .ok (.aload_n 0, 1) := by decide +kernel
theorem dX9_readHouse_1 : decode cX9_readHouse 1 = .ok (.iconst (-1), 1) := by decide +kernel
theorem dX9_readHouse_2 : decode cX9_readHouse 2 = .ok (.putfield 221, 3) := by decide +kernel
theorem dX9_readHouse_5 : decode cX9_readHouse 5 = .ok (.aload_n 0, 1) := by decide +kernel
theorem dX9_readHouse_6 : decode cX9_readHouse 6 = .ok (.iconst (-1), 1) := by decide +kernel
theorem dX9_readHouse_7 : decode cX9_readHouse 7 = .ok (.putfield 224, 3) := by decide +kernel
theorem dX9_readHouse_10 : decode cX9_readHouse 10 = .ok (.aload_n 0, 1) := by decide +kernel
theorem dX9_readHouse_11 : decode cX9_readHouse 11 = .ok (.bipush 72, 2) := by decide +kernel
theorem dX9_readHouse_13 : decode cX9_readHouse 13 = .ok (.iconst 3, 1) := by decide +kernel
theorem dX9_readHouse_14 : decode cX9_readHouse 14 = .ok (.invokevirtual 227, 3) := by decide +kernel
theorem dX9_readHouse_17 : decode cX9_readHouse 17 = .ok (.ifCond .ne 4, 3) := by decide +kernel
theorem dX9_readHouse_20 : decode cX9_readHouse 20 = .ok (.return_, 1) := by decide +kernel
theorem dX9_readHouse_21 : decode cX9_readHouse 21 = .ok (.aload_n 0, 1) := by decide +kernel
theorem dX9_readHouse_22 : decode cX9_readHouse 22 = .ok (.iconst 1, 1) := by decide +kernel
theorem dX9_readHouse_23 : decode cX9_readHouse 23 = .ok (.sipush 9999, 3) := by decide +kernel
theorem dX9_readHouse_26 : decode cX9_readHouse 26 = .ok (.invokevirtual 231, 3) := by decide +kernel
theorem dX9_readHouse_29 : decode cX9_readHouse 29 = .ok (.aload_n 0, 1) := by decide +kernel
theorem dX9_readHouse_30 : decode cX9_readHouse 30 = .ok (.getfield 212, 3) := by decide +kernel
theorem dX9_readHouse_33 : decode cX9_readHouse 33 = .ok (.istore_n 1, 1) := by decide +kernel
theorem dX9_readHouse_34 : decode cX9_readHouse 34 = .ok (.aload_n 0, 1) := by decide +kernel
theorem dX9_readHouse_35 : decode cX9_readHouse 35 = .ok (.getfield 177, 3) := by decide +kernel
theorem dX9_readHouse_38 : decode cX9_readHouse 38 = .ok (.ifCond .eq 4, 3) := by decide +kernel
theorem dX9_readHouse_41 : decode cX9_readHouse 41 = .ok (.return_, 1) := by decide +kernel
theorem dX9_readHouse_42 : decode cX9_readHouse 42 = .ok (.aload_n 0, 1) := by decide +kernel
theorem dX9_readHouse_43 : decode cX9_readHouse 43 = .ok (.iconst 2, 1) := by decide +kernel
theorem dX9_readHouse_44 : decode cX9_readHouse 44 = .ok (.bipush 99, 2) := by decide +kernel
theorem dX9_readHouse_46 : decode cX9_readHouse 46 = .ok (.invokevirtual 231, 3) := by decide +kernel
theorem dX9_readHouse_49 : decode cX9_readHouse 49 = .ok (.aload_n 0, 1) := by decide +kernel
theorem dX9_readHouse_50 : decode cX9_readHouse 50 = .ok (.getfield 177, 3) := by decide +kernel
theorem dX9_readHouse_53 : decode cX9_readHouse 53 = .ok (.ifCond .ne 16, 3) := by decide +kernel
theorem dX9_readHouse_56 : decode cX9_readHouse 56 = .ok (.aload_n 0, 1) := by decide +kernel
theorem dX9_readHouse_57 : decode cX9_readHouse 57 = .ok (.iload_n 1, 1) := by decide +kernel
theorem dX9_readHouse_58 : decode cX9_readHouse 58 = .ok (.putfield 221, 3) := by decide +kernel
theorem dX9_readHouse_61 : decode cX9_readHouse 61 = .ok (.aload_n 0, 1) := by decide +kernel
theorem dX9_readHouse_62 : decode cX9_readHouse 62 = .ok (.aload_n 0, 1) := by decide +kernel
theorem dX9_readHouse_63 : decode cX9_readHouse 63 = .ok (.getfield 212, 3) := by decide +kernel
theorem dX9_readHouse_66 : decode cX9_readHouse 66 = .ok (.putfield 224, 3) := by decide +kernel
theorem dX9_readHouse_69 : decode cX9_readHouse 69 = .ok (.return_, 1) := by decide +kernel
set_option maxRecDepth 20000 in
theorem ggX9_readSums_X9_isLine : GoodIn wsX9_readSums wsX9_isLine := goodIn_r _ [9, 1, 10, 4, 11, 12, 13, 14, 15, 8, 16, 17, 18, 19, 20, 21, 22, 23, 24, 25, 26, 27, 28, 29, 30, 31, 32, 33, 34, 35, 36, 37, 38, 39, 40, 41, 42, 43, 44, 45, 46, 47, 48, 49, 50, 51, 52, 53, 54, 55, 56, 57, 58, 59, 60, 61, 62, 63, 64, 85, 86, 87, 88, 89, 90, 91, 92, 93, 94, 95, 96, 97, 98, 99, 100, 101, 102, 103, 104, 105, 106, 107, 108, 109, 110, 111, 112, 113, 114, 115, 116, 117, 118, 119, 120, 121, 122, 123, 124, 125, 126, 127, 128, 129, 130, 131, 132, 133, 134, 135, 136, 137, 138, 139, 140, 141, 142, 143, 144, 145, 146, 147, 148, 149, 150, 151, 152, 153] (by decide +kernel) (by decide +kernel)
set_option maxRecDepth 20000 in
theorem gX9_readSums_X9_isLine : GoodIn wsX9_readSums (wsV RX9 227 RX9 yX9_isLine wsX9_isLine) := goodIn_app (goodIn_of _ (by decide +kernel)) ggX9_readSums_X9_isLine
set_option maxRecDepth 20000 in
theorem ggX9_readSums_X9_readNumber : GoodIn wsX9_readSums wsX9_readNumber := goodIn_r _ [68, 2, 69, 70, 71, 72, 27, 73, 74, 75, 8, 76, 4, 10, 22, 77, 13, 14, 15, 16, 17, 23, 24, 25, 26, 28, 29, 30, 11, 31, 32, 33, 34, 35, 36, 37, 38, 39, 40, 41, 42, 43, 44, 45, 46, 47, 48, 78, 79, 80, 81, 18, 19, 20, 21, 1, 49, 50, 51, 52, 53, 54, 55, 56, 57, 58, 59, 60, 61, 62, 63, 64, 82, 83, 84, 85, 86, 87, 88, 89, 90, 91, 92, 93, 94, 95, 96, 97, 98, 99, 100, 101, 102, 103, 104, 105, 106, 107, 108, 109, 110, 111, 112, 113, 114, 115, 116, 117, 118, 119, 120, 121, 122, 123, 124, 125, 126, 127, 128, 129, 130, 131, 132, 133, 134, 135, 136, 137, 138, 139, 140, 141, 142, 143, 144, 145, 146, 147, 148, 149, 150, 151, 152, 153] (by decide +kernel) (by decide +kernel)
set_option maxRecDepth 20000 in
theorem gX9_readSums_X9_readNumber : GoodIn wsX9_readSums (wsV RX9 231 RX9 yX9_readNumber wsX9_readNumber) := goodIn_app (goodIn_of _ (by decide +kernel)) ggX9_readSums_X9_readNumber
set_option maxRecDepth 20000 in
theorem ggX9_readSums_X9_failSheet : GoodIn wsX9_readSums wsX9_failSheet := goodIn_r _ [63, 64, 22, 23, 24, 25, 8, 26, 27, 28, 29, 30, 11, 31, 32, 33, 34, 35, 36, 37, 38, 39, 40, 41, 42, 43, 44, 45, 46, 47, 48, 85, 86, 87, 88, 89, 90, 91, 92, 93, 94, 95, 96, 97, 98, 99, 100, 101, 102, 103, 104, 105, 106, 107, 108, 109, 110, 111, 112, 113, 114, 115, 116, 117, 118, 119, 120, 121, 122, 123, 124, 125, 126, 127, 128, 129, 130, 131, 132, 133, 134, 135, 136, 137, 138, 139, 140, 141, 142, 143, 144, 145, 146, 147, 148, 149, 150, 151, 152, 153] (by decide +kernel) (by decide +kernel)
set_option maxRecDepth 20000 in
theorem gX9_readSums_X9_failSheet : GoodIn wsX9_readSums (wsV RX9 167 RX9 yX9_failSheet wsX9_failSheet) := goodIn_app (goodIn_of _ (by decide +kernel)) ggX9_readSums_X9_failSheet
theorem dX9_readSums_0 : decode cX9_readSums 0 = .ok (.aload_n 0, 1) := by decide +kernel
theorem dX9_readSums_1 : decode cX9_readSums 1 = .ok (.bipush 83, 2) := by decide +kernel
theorem dX9_readSums_3 : decode cX9_readSums 3 = .ok (.iconst 2, 1) := by decide +kernel
theorem dX9_readSums_4 : decode cX9_readSums 4 = .ok (.invokevirtual 227, 3) := by decide +kernel
theorem dX9_readSums_7 : decode cX9_readSums 7 = .ok (.ifCond .ne 4, 3) := by decide +kernel
theorem dX9_readSums_10 : decode cX9_readSums 10 = .ok (.return_, 1) := by decide +kernel
theorem dX9_readSums_11 : decode cX9_readSums 11 = .ok (.aload_n 0, 1) := by decide +kernel
theorem dX9_readSums_12 : decode cX9_readSums 12 = .ok (.iconst 1, 1) := by decide +kernel
theorem dX9_readSums_13 : decode cX9_readSums 13 = .ok (.bipush 99, 2) := by decide +kernel
theorem dX9_readSums_15 : decode cX9_readSums 15 = .ok (.invokevirtual 231, 3) := by decide +kernel
theorem dX9_readSums_18 : decode cX9_readSums 18 = .ok (.aload_n 0, 1) := by decide +kernel
theorem dX9_readSums_19 : decode cX9_readSums 19 = .ok (.getfield 177, 3) := by decide +kernel
theorem dX9_readSums_22 : decode cX9_readSums 22 = .ok (.ifCond .ne 32, 3) := by decide +kernel
theorem dX9_readSums_25 : decode cX9_readSums 25 = .ok (.aload_n 0, 1) := by decide +kernel
theorem dX9_readSums_26 : decode cX9_readSums 26 = .ok (.getfield 212, 3) := by decide +kernel
theorem dX9_readSums_29 : decode cX9_readSums 29 = .ok (.ifCond .lt 25, 3) := by decide +kernel
theorem dX9_readSums_32 : decode cX9_readSums 32 = .ok (.aload_n 0, 1) := by decide +kernel
theorem dX9_readSums_33 : decode cX9_readSums 33 = .ok (.getfield 212, 3) := by decide +kernel
theorem dX9_readSums_36 : decode cX9_readSums 36 = .ok (.aload_n 0, 1) := by decide +kernel
theorem dX9_readSums_37 : decode cX9_readSums 37 = .ok (.getfield 234, 3) := by decide +kernel
theorem dX9_readSums_40 : decode cX9_readSums 40 = .ok (.if_icmp .eq 14, 3) := by decide +kernel
theorem dX9_readSums_43 : decode cX9_readSums 43 = .ok (.aload_n 0, 1) := by decide +kernel
theorem dX9_readSums_44 : decode cX9_readSums 44 = .ok (.bipush 20, 2) := by decide +kernel
theorem dX9_readSums_46 : decode cX9_readSums 46 = .ok (.aload_n 0, 1) := by decide +kernel
theorem dX9_readSums_47 : decode cX9_readSums 47 = .ok (.getfield 171, 3) := by decide +kernel
theorem dX9_readSums_50 : decode cX9_readSums 50 = .ok (.iconst (-1), 1) := by decide +kernel
theorem dX9_readSums_51 : decode cX9_readSums 51 = .ok (.invokevirtual 167, 3) := by decide +kernel
theorem dX9_readSums_54 : decode cX9_readSums 54 = .ok (.return_, 1) := by decide +kernel
set_option maxRecDepth 20000 in
theorem ggX9_readPerson_X9_isLine : GoodIn wsX9_readPerson wsX9_isLine := goodIn_r _ [20, 1, 21, 8, 22, 23, 24, 25, 26, 19, 27, 28, 29, 30, 31, 32, 9, 33, 34, 35, 36, 37, 38, 39, 40, 41, 42, 43, 44, 45, 46, 47, 48, 49, 50, 51, 52, 53, 54, 55, 56, 57, 58, 59, 60, 61, 62, 63, 64, 65, 66, 67, 68, 69, 70, 71, 72, 73, 74, 113, 114, 115, 116, 117, 118, 119, 120, 121, 122, 123, 124, 125, 126, 127, 128, 129, 130, 131, 132, 133, 134, 135, 136, 137, 138, 139, 140, 141, 142, 143, 144, 145, 146, 147, 148, 149, 150, 151, 152, 153, 154, 155, 156, 157, 158, 159, 160, 161, 162, 163, 164, 165, 166, 167, 168, 169, 170, 171, 172, 173, 174, 175, 176, 177, 178, 179, 180, 181] (by decide +kernel) (by decide +kernel)
set_option maxRecDepth 20000 in
theorem gX9_readPerson_X9_isLine : GoodIn wsX9_readPerson (wsV RX9 227 RX9 yX9_isLine wsX9_isLine) := goodIn_app (goodIn_of _ (by decide +kernel)) ggX9_readPerson_X9_isLine
set_option maxRecDepth 20000 in
theorem ggX9_readPerson_X9_readName : GoodIn wsX9_readPerson wsX9_readName := goodIn_r _ [78, 79, 2, 80, 5, 81, 82, 83, 84, 19, 85, 8, 21, 9, 37, 24, 25, 26, 27, 28, 33, 34, 35, 36, 38, 39, 40, 22, 41, 42, 43, 44, 45, 46, 47, 48, 49, 50, 51, 52, 53, 54, 55, 56, 57, 58, 86, 87, 88, 89, 29, 30, 31, 32, 1, 59, 60, 61, 62, 63, 64, 65, 66, 67, 68, 69, 70, 71, 72, 73, 74, 90, 91, 92, 113, 114, 115, 116, 117, 118, 119, 120, 121, 122, 123, 124, 125, 126, 127, 128, 129, 130, 131, 132, 133, 134, 135, 136, 137, 138, 139, 140, 141, 142, 143, 144, 145, 146, 147, 148, 149, 150, 151, 152, 153, 154, 155, 156, 157, 158, 159, 160, 161, 162, 163, 164, 165, 166, 167, 168, 169, 170, 171, 172, 173, 174, 175, 176, 177, 178, 179, 180, 181] (by decide +kernel) (by decide +kernel)
set_option maxRecDepth 20000 in
theorem gX9_readPerson_X9_readName : GoodIn wsX9_readPerson (wsV RX9 237 RX9 yX9_readName wsX9_readName) := goodIn_app (goodIn_of _ (by decide +kernel)) ggX9_readPerson_X9_readName
set_option maxRecDepth 20000 in
theorem ggX9_readPerson_X9_readSex : GoodIn wsX9_readPerson wsX9_readSex := goodIn_r _ [96, 7, 79, 2, 5, 80, 37, 82, 83, 84, 19, 85, 8, 21, 9, 81, 24, 25, 26, 27, 28, 33, 34, 35, 36, 38, 39, 40, 22, 41, 42, 43, 44, 45, 46, 47, 48, 49, 50, 51, 52, 53, 54, 55, 56, 57, 58, 86, 87, 88, 89, 29, 30, 31, 32, 1, 59, 60, 61, 62, 63, 64, 65, 66, 67, 68, 69, 70, 71, 72, 73, 74, 113, 114, 115, 116, 117, 118, 119, 120, 121, 122, 123, 124, 125, 126, 127, 128, 129, 130, 131, 132, 133, 134, 135, 136, 137, 138, 139, 140, 141, 142, 143, 144, 145, 146, 147, 148, 149, 150, 151, 152, 153, 154, 155, 156, 157, 158, 159, 160, 161, 162, 163, 164, 165, 166, 167, 168, 169, 170, 171, 172, 173, 174, 175, 176, 177, 178, 179, 180, 181] (by decide +kernel) (by decide +kernel)
set_option maxRecDepth 20000 in
theorem gX9_readPerson_X9_readSex : GoodIn wsX9_readPerson (wsV RX9 243 RX9 yX9_readSex wsX9_readSex) := goodIn_app (goodIn_of _ (by decide +kernel)) ggX9_readPerson_X9_readSex
set_option maxRecDepth 20000 in
theorem ggX9_readPerson_X9_readNumber : GoodIn wsX9_readPerson wsX9_readNumber := goodIn_r _ [100, 7, 79, 2, 5, 80, 37, 82, 83, 84, 19, 85, 8, 21, 9, 81, 24, 25, 26, 27, 28, 33, 34, 35, 36, 38, 39, 40, 22, 41, 42, 43, 44, 45, 46, 47, 48, 49, 50, 51, 52, 53, 54, 55, 56, 57, 58, 86, 87, 88, 89, 29, 30, 31, 32, 1, 59, 60, 61, 62, 63, 64, 65, 66, 67, 68, 69, 70, 71, 72, 73, 74, 101, 102, 103, 113, 114, 115, 116, 117, 118, 119, 120, 121, 122, 123, 124, 125, 126, 127, 128, 129, 130, 131, 132, 133, 134, 135, 136, 137, 138, 139, 140, 141, 142, 143, 144, 145, 146, 147, 148, 149, 150, 151, 152, 153, 154, 155, 156, 157, 158, 159, 160, 161, 162, 163, 164, 165, 166, 167, 168, 169, 170, 171, 172, 173, 174, 175, 176, 177, 178, 179, 180, 181] (by decide +kernel) (by decide +kernel)
set_option maxRecDepth 20000 in
theorem gX9_readPerson_X9_readNumber : GoodIn wsX9_readPerson (wsV RX9 231 RX9 yX9_readNumber wsX9_readNumber) := goodIn_app (goodIn_of _ (by decide +kernel)) ggX9_readPerson_X9_readNumber
set_option maxRecDepth 20000 in
theorem ggX9_readPerson_X9_readTrade : GoodIn wsX9_readPerson wsX9_readTrade := goodIn_r _ [107, 7, 79, 2, 5, 80, 37, 82, 83, 84, 19, 85, 8, 21, 9, 81, 24, 25, 26, 27, 28, 33, 34, 35, 36, 38, 39, 40, 22, 41, 42, 43, 44, 45, 46, 47, 48, 49, 50, 51, 52, 53, 54, 55, 56, 57, 58, 86, 87, 88, 89, 29, 30, 31, 32, 1, 59, 60, 61, 62, 63, 64, 65, 66, 67, 68, 69, 70, 71, 72, 73, 74, 101, 102, 103, 113, 114, 115, 116, 117, 118, 119, 120, 121, 122, 123, 124, 125, 126, 127, 128, 129, 130, 131, 132, 133, 134, 135, 136, 137, 138, 139, 140, 141, 142, 143, 144, 145, 146, 147, 148, 149, 150, 151, 152, 153, 154, 155, 156, 157, 158, 159, 160, 161, 162, 163, 164, 165, 166, 167, 168, 169, 170, 171, 172, 173, 174, 175, 176, 177, 178, 179, 180, 181] (by decide +kernel) (by decide +kernel)
set_option maxRecDepth 20000 in
theorem gX9_readPerson_X9_readTrade : GoodIn wsX9_readPerson (wsV RX9 246 RX9 yX9_readTrade wsX9_readTrade) := goodIn_app (goodIn_of _ (by decide +kernel)) ggX9_readPerson_X9_readTrade
set_option maxRecDepth 20000 in
theorem ggX9_readPerson_X9_failLine : GoodIn wsX9_readPerson wsX9_failLine := goodIn_r _ [32, 8, 9, 1, 33, 34, 35, 19, 36, 37, 38, 39, 40, 22, 41, 42, 43, 44, 45, 46, 47, 48, 49, 50, 51, 52, 53, 54, 55, 56, 57, 58, 59, 60, 61, 62, 63, 64, 65, 66, 67, 68, 69, 70, 71, 72, 73, 74, 113, 114, 115, 116, 117, 118, 119, 120, 121, 122, 123, 124, 125, 126, 127, 128, 129, 130, 131, 132, 133, 134, 135, 136, 137, 138, 139, 140, 141, 142, 143, 144, 145, 146, 147, 148, 149, 150, 151, 152, 153, 154, 155, 156, 157, 158, 159, 160, 161, 162, 163, 164, 165, 166, 167, 168, 169, 170, 171, 172, 173, 174, 175, 176, 177, 178, 179, 180, 181] (by decide +kernel) (by decide +kernel)
set_option maxRecDepth 20000 in
theorem gX9_readPerson_X9_failLine : GoodIn wsX9_readPerson (wsV RX9 187 RX9 yX9_failLine wsX9_failLine) := goodIn_app (goodIn_of _ (by decide +kernel)) ggX9_readPerson_X9_failLine
set_option maxRecDepth 20000 in
theorem ggX9_readPerson_X9_isTwice : GoodIn wsX9_readPerson wsX9_isTwice := goodIn_r _ [111, 112, 11, 6, 12, 15, 3, 14, 4, 113, 114, 115, 116, 117, 118, 119, 120, 121, 122, 123, 124, 125, 126, 127, 128, 129, 130, 131, 132, 133, 134, 135, 136, 137, 138, 139, 140, 141, 142, 143, 144, 145, 146, 147, 148, 149, 150, 151, 152, 153, 154, 155, 156, 157, 158, 159, 160, 161, 162, 163, 164, 165, 166, 167, 168, 169, 170, 171, 172, 173, 174, 175, 176, 177, 178, 179, 180, 181] (by decide +kernel) (by decide +kernel)
set_option maxRecDepth 20000 in
theorem gX9_readPerson_X9_isTwice : GoodIn wsX9_readPerson (wsV RX9 249 RX9 yX9_isTwice wsX9_isTwice) := goodIn_app (goodIn_of _ (by decide +kernel)) ggX9_readPerson_X9_isTwice
set_option maxRecDepth 20000 in
theorem ggX9_readPerson_X9_fail : GoodIn wsX9_readPerson wsX9_fail := goodIn_r _ [36, 9, 37, 38, 39, 40, 22, 41, 42, 43, 44, 45, 46, 47, 48, 49, 50, 51, 19, 52, 53, 54, 55, 113, 114, 115, 116, 117, 118, 119, 120, 121, 122, 123, 124, 125, 126, 127, 128, 129, 130, 131, 132, 133, 134, 135, 136, 137, 138, 139, 140, 141, 142, 143, 144, 145, 146, 147, 148, 149, 150, 151, 152, 153, 154, 155, 156, 157, 158, 159, 160, 161, 162, 163, 164, 165, 166, 167, 168, 169, 170, 171, 172, 173, 174, 175, 176, 177, 178, 179, 180, 181] (by decide +kernel) (by decide +kernel)
set_option maxRecDepth 20000 in
theorem gX9_readPerson_X9_fail : GoodIn wsX9_readPerson (wsV RX9 147 RX9 yX9_fail wsX9_fail) := goodIn_app (goodIn_of _ (by decide +kernel)) ggX9_readPerson_X9_fail
set_option maxRecDepth 20000 in
theorem ggX9_readPerson_X9_goesOn : GoodIn wsX9_readPerson wsX9_goesOn := goodIn_r _ [58] (by decide +kernel) (by decide +kernel)
set_option maxRecDepth 20000 in
theorem gX9_readPerson_X9_goesOn : GoodIn wsX9_readPerson (va_wsS RX9 154 yX9_goesOn wsX9_goesOn) := goodIn_app (goodIn_of _ (by decide +kernel)) ggX9_readPerson_X9_goesOn
set_option maxRecDepth 20000 in
theorem ggX9_readPerson_X9_failHouse : GoodIn wsX9_readPerson wsX9_failHouse := goodIn_r _ [66, 9, 67, 68, 69, 33, 34, 35, 19, 36, 37, 38, 39, 40, 22, 41, 42, 43, 44, 45, 46, 47, 48, 49, 50, 51, 52, 53, 54, 55, 56, 57, 58, 70, 71, 72, 73, 74, 113, 114, 115, 116, 117, 118, 119, 120, 121, 122, 123, 124, 125, 126, 127, 128, 129, 130, 131, 132, 133, 134, 135, 136, 137, 138, 139, 140, 141, 142, 143, 144, 145, 146, 147, 148, 149, 150, 151, 152, 153, 154, 155, 156, 157, 158, 159, 160, 161, 162, 163, 164, 165, 166, 167, 168, 169, 170, 171, 172, 173, 174, 175, 176, 177, 178, 179, 180, 181] (by decide +kernel) (by decide +kernel)
set_option maxRecDepth 20000 in
theorem gX9_readPerson_X9_failHouse : GoodIn wsX9_readPerson (wsV RX9 174 RX9 yX9_failHouse wsX9_failHouse) := goodIn_app (goodIn_of _ (by decide +kernel)) ggX9_readPerson_X9_failHouse
theorem dX9_readPerson_0 : decode cX9_readPerson 0 = .ok (.aload_n 0, 1) := by decide +kernel
theorem dX9_readPerson_1 : decode cX9_readPerson 1 = .ok (.iload_n 1, 1) := by decide +kernel
theorem dX9_readPerson_2 : decode cX9_readPerson 2 = .ok (.iconst 5, 1) := by decide +kernel
theorem dX9_readPerson_3 : decode cX9_readPerson 3 = .ok (.invokevirtual 227, 3) := by decide +kernel
theorem dX9_readPerson_6 : decode cX9_readPerson 6 = .ok (.ifCond .ne 4, 3) := by decide +kernel
theorem dX9_readPerson_9 : decode cX9_readPerson 9 = .ok (.return_, 1) := by decide +kernel
theorem dX9_readPerson_10 : decode cX9_readPerson 10 = .ok (.aload_n 0, 1) := by decide +kernel
theorem dX9_readPerson_11 : decode cX9_readPerson 11 = .ok (.iconst 1, 1) := by decide +kernel
theorem dX9_readPerson_12 : decode cX9_readPerson 12 = .ok (.invokevirtual 237, 3) := by decide +kernel
theorem dX9_readPerson_15 : decode cX9_readPerson 15 = .ok (.aload_n 0, 1) := by decide +kernel
theorem dX9_readPerson_16 : decode cX9_readPerson 16 = .ok (.getfield 177, 3) := by decide +kernel
theorem dX9_readPerson_19 : decode cX9_readPerson 19 = .ok (.ifCond .eq 4, 3) := by decide +kernel
theorem dX9_readPerson_22 : decode cX9_readPerson 22 = .ok (.return_, 1) := by decide +kernel
theorem dX9_readPerson_23 : decode cX9_readPerson 23 = .ok (.aload_n 0, 1) := by decide +kernel
theorem dX9_readPerson_24 : decode cX9_readPerson 24 = .ok (.getfield 191, 3) := by decide +kernel
theorem dX9_readPerson_27 : decode cX9_readPerson 27 = .ok (.istore_n 2, 1) := by decide +kernel
theorem dX9_readPerson_28 : decode cX9_readPerson 28 = .ok (.iconst 0, 1) := by decide +kernel
theorem dX9_readPerson_29 : decode cX9_readPerson 29 = .ok (.istore_n 3, 1) := by decide +kernel
theorem dX9_readPerson_30 : decode cX9_readPerson 30 = .ok (.iload_n 3, 1) := by decide +kernel
theorem dX9_readPerson_31 : decode cX9_readPerson 31 = .ok (.iload_n 2, 1) := by decide +kernel
theorem dX9_readPerson_32 : decode cX9_readPerson 32 = .ok (.if_icmp .ge 27, 3) := by decide +kernel
theorem dX9_readPerson_35 : decode cX9_readPerson 35 = .ok (.aload_n 0, 1) := by decide +kernel
theorem dX9_readPerson_36 : decode cX9_readPerson 36 = .ok (.getfield 47, 3) := by decide +kernel
theorem dX9_readPerson_39 : decode cX9_readPerson 39 = .ok (.aload_n 0, 1) := by decide +kernel
theorem dX9_readPerson_40 : decode cX9_readPerson 40 = .ok (.getfield 240, 3) := by decide +kernel
theorem dX9_readPerson_43 : decode cX9_readPerson 43 = .ok (.iload_n 3, 1) := by decide +kernel
theorem dX9_readPerson_44 : decode cX9_readPerson 44 = .ok (.iadd, 1) := by decide +kernel
theorem dX9_readPerson_45 : decode cX9_readPerson 45 = .ok (.aload_n 0, 1) := by decide +kernel
theorem dX9_readPerson_46 : decode cX9_readPerson 46 = .ok (.getfield 74, 3) := by decide +kernel
theorem dX9_readPerson_49 : decode cX9_readPerson 49 = .ok (.iload_n 3, 1) := by decide +kernel
theorem dX9_readPerson_50 : decode cX9_readPerson 50 = .ok (.iaload, 1) := by decide +kernel
theorem dX9_readPerson_51 : decode cX9_readPerson 51 = .ok (.i2b, 1) := by decide +kernel
theorem dX9_readPerson_52 : decode cX9_readPerson 52 = .ok (.bastore, 1) := by decide +kernel
theorem dX9_readPerson_53 : decode cX9_readPerson 53 = .ok (.iinc 3 1, 3) := by decide +kernel
theorem dX9_readPerson_56 : decode cX9_readPerson 56 = .ok (.goto (-26), 3) := by decide +kernel
theorem dX9_readPerson_59 : decode cX9_readPerson 59 = .ok (.iconst 0, 1) := by decide +kernel
theorem dX9_readPerson_60 : decode cX9_readPerson 60 = .ok (.istore_n 3, 1) := by decide +kernel
theorem dX9_readPerson_61 : decode cX9_readPerson 61 = .ok (.iload_n 3, 1) := by decide +kernel
theorem dX9_readPerson_62 : decode cX9_readPerson 62 = .ok (.iconst 3, 1) := by decide +kernel
theorem dX9_readPerson_63 : decode cX9_readPerson 63 = .ok (.if_icmp .ge 58, 3) := by decide +kernel
theorem dX9_readPerson_66 : decode cX9_readPerson 66 = .ok (.aload_n 0, 1) := by decide +kernel
theorem dX9_readPerson_67 : decode cX9_readPerson 67 = .ok (.getfield 177, 3) := by decide +kernel
theorem dX9_readPerson_70 : decode cX9_readPerson 70 = .ok (.ifCond .ne 51, 3) := by decide +kernel
theorem dX9_readPerson_73 : decode cX9_readPerson 73 = .ok (.iload_n 3, 1) := by decide +kernel
theorem dX9_readPerson_74 : decode cX9_readPerson 74 = .ok (.ifCond .ne 11, 3) := by decide +kernel
theorem dX9_readPerson_77 : decode cX9_readPerson 77 = .ok (.aload_n 0, 1) := by decide +kernel
theorem dX9_readPerson_78 : decode cX9_readPerson 78 = .ok (.iconst 2, 1) := by decide +kernel
theorem dX9_readPerson_79 : decode cX9_readPerson 79 = .ok (.invokevirtual 243, 3) := by decide +kernel
theorem dX9_readPerson_82 : decode cX9_readPerson 82 = .ok (.goto 23, 3) := by decide +kernel
theorem dX9_readPerson_85 : decode cX9_readPerson 85 = .ok (.iload_n 3, 1) := by decide +kernel
theorem dX9_readPerson_86 : decode cX9_readPerson 86 = .ok (.iconst 1, 1) := by decide +kernel
theorem dX9_readPerson_87 : decode cX9_readPerson 87 = .ok (.if_icmp .ne 13, 3) := by decide +kernel
theorem dX9_readPerson_90 : decode cX9_readPerson 90 = .ok (.aload_n 0, 1) := by decide +kernel
theorem dX9_readPerson_91 : decode cX9_readPerson 91 = .ok (.iconst 3, 1) := by decide +kernel
theorem dX9_readPerson_92 : decode cX9_readPerson 92 = .ok (.bipush 120, 2) := by decide +kernel
theorem dX9_readPerson_94 : decode cX9_readPerson 94 = .ok (.invokevirtual 231, 3) := by decide +kernel
theorem dX9_readPerson_97 : decode cX9_readPerson 97 = .ok (.goto 8, 3) := by decide +kernel
theorem dX9_readPerson_100 : decode cX9_readPerson 100 = .ok (.aload_n 0, 1) := by decide +kernel
theorem dX9_readPerson_101 : decode cX9_readPerson 101 = .ok (.iconst 4, 1) := by decide +kernel
theorem dX9_readPerson_102 : decode cX9_readPerson 102 = .ok (.invokevirtual 246, 3) := by decide +kernel
theorem dX9_readPerson_105 : decode cX9_readPerson 105 = .ok (.aload_n 0, 1) := by decide +kernel
theorem dX9_readPerson_106 : decode cX9_readPerson 106 = .ok (.getfield 80, 3) := by decide +kernel
theorem dX9_readPerson_109 : decode cX9_readPerson 109 = .ok (.iload_n 3, 1) := by decide +kernel
theorem dX9_readPerson_110 : decode cX9_readPerson 110 = .ok (.aload_n 0, 1) := by decide +kernel
theorem dX9_readPerson_111 : decode cX9_readPerson 111 = .ok (.getfield 212, 3) := by decide +kernel
theorem dX9_readPerson_114 : decode cX9_readPerson 114 = .ok (.iastore, 1) := by decide +kernel
theorem dX9_readPerson_115 : decode cX9_readPerson 115 = .ok (.iinc 3 1, 3) := by decide +kernel
theorem dX9_readPerson_118 : decode cX9_readPerson 118 = .ok (.goto (-57), 3) := by decide +kernel
theorem dX9_readPerson_121 : decode cX9_readPerson 121 = .ok (.aload_n 0, 1) := by decide +kernel
theorem dX9_readPerson_122 : decode cX9_readPerson 122 = .ok (.getfield 177, 3) := by decide +kernel
theorem dX9_readPerson_125 : decode cX9_readPerson 125 = .ok (.ifCond .ne 39, 3) := by decide +kernel
theorem dX9_readPerson_128 : decode cX9_readPerson 128 = .ok (.aload_n 0, 1) := by decide +kernel
theorem dX9_readPerson_129 : decode cX9_readPerson 129 = .ok (.getfield 80, 3) := by decide +kernel
theorem dX9_readPerson_132 : decode cX9_readPerson 132 = .ok (.iconst 1, 1) := by decide +kernel
theorem dX9_readPerson_133 : decode cX9_readPerson 133 = .ok (.iaload, 1) := by decide +kernel
theorem dX9_readPerson_134 : decode cX9_readPerson 134 = .ok (.ifCond .lt 30, 3) := by decide +kernel
theorem dX9_readPerson_137 : decode cX9_readPerson 137 = .ok (.aload_n 0, 1) := by decide +kernel
theorem dX9_readPerson_138 : decode cX9_readPerson 138 = .ok (.getfield 80, 3) := by decide +kernel
theorem dX9_readPerson_141 : decode cX9_readPerson 141 = .ok (.iconst 1, 1) := by decide +kernel
theorem dX9_readPerson_142 : decode cX9_readPerson 142 = .ok (.iaload, 1) := by decide +kernel
theorem dX9_readPerson_143 : decode cX9_readPerson 143 = .ok (.bipush 10, 2) := by decide +kernel
theorem dX9_readPerson_145 : decode cX9_readPerson 145 = .ok (.if_icmp .ge 19, 3) := by decide +kernel
theorem dX9_readPerson_148 : decode cX9_readPerson 148 = .ok (.aload_n 0, 1) := by decide +kernel
theorem dX9_readPerson_149 : decode cX9_readPerson 149 = .ok (.getfield 80, 3) := by decide +kernel
theorem dX9_readPerson_152 : decode cX9_readPerson 152 = .ok (.iconst 2, 1) := by decide +kernel
theorem dX9_readPerson_153 : decode cX9_readPerson 153 = .ok (.iaload, 1) := by decide +kernel
theorem dX9_readPerson_154 : decode cX9_readPerson 154 = .ok (.ifCond .le 10, 3) := by decide +kernel
theorem dX9_readPerson_157 : decode cX9_readPerson 157 = .ok (.aload_n 0, 1) := by decide +kernel
theorem dX9_readPerson_158 : decode cX9_readPerson 158 = .ok (.bipush 12, 2) := by decide +kernel
theorem dX9_readPerson_160 : decode cX9_readPerson 160 = .ok (.iconst (-1), 1) := by decide +kernel
theorem dX9_readPerson_161 : decode cX9_readPerson 161 = .ok (.invokevirtual 187, 3) := by decide +kernel
theorem dX9_readPerson_164 : decode cX9_readPerson 164 = .ok (.aload_n 0, 1) := by decide +kernel
theorem dX9_readPerson_165 : decode cX9_readPerson 165 = .ok (.getfield 177, 3) := by decide +kernel
theorem dX9_readPerson_168 : decode cX9_readPerson 168 = .ok (.ifCond .eq 4, 3) := by decide +kernel
theorem dX9_readPerson_171 : decode cX9_readPerson 171 = .ok (.return_, 1) := by decide +kernel
theorem dX9_readPerson_172 : decode cX9_readPerson 172 = .ok (.aload_n 0, 1) := by decide +kernel
theorem dX9_readPerson_173 : decode cX9_readPerson 173 = .ok (.iload_n 2, 1) := by decide +kernel
theorem dX9_readPerson_174 : decode cX9_readPerson 174 = .ok (.invokevirtual 249, 3) := by decide +kernel
theorem dX9_readPerson_177 : decode cX9_readPerson 177 = .ok (.ifCond .eq 56, 3) := by decide +kernel
theorem dX9_readPerson_180 : decode cX9_readPerson 180 = .ok (.aload_n 0, 1) := by decide +kernel
theorem dX9_readPerson_181 : decode cX9_readPerson 181 = .ok (.bipush 17, 2) := by decide +kernel
theorem dX9_readPerson_183 : decode cX9_readPerson 183 = .ok (.aload_n 0, 1) := by decide +kernel
theorem dX9_readPerson_184 : decode cX9_readPerson 184 = .ok (.getfield 171, 3) := by decide +kernel
theorem dX9_readPerson_187 : decode cX9_readPerson 187 = .ok (.iconst (-1), 1) := by decide +kernel
theorem dX9_readPerson_188 : decode cX9_readPerson 188 = .ok (.invokevirtual 147, 3) := by decide +kernel
theorem dX9_readPerson_191 : decode cX9_readPerson 191 = .ok (.istore_n 3, 1) := by decide +kernel
theorem dX9_readPerson_192 : decode cX9_readPerson 192 = .ok (.aload_n 0, 1) := by decide +kernel
theorem dX9_readPerson_193 : decode cX9_readPerson 193 = .ok (.getfield 125, 3) := by decide +kernel
theorem dX9_readPerson_196 : decode cX9_readPerson 196 = .ok (.ifCond .ne 7, 3) := by decide +kernel
theorem dX9_readPerson_199 : decode cX9_readPerson 199 = .ok (.iconst 1, 1) := by decide +kernel
theorem dX9_readPerson_200 : decode cX9_readPerson 200 = .ok (.goto 4, 3) := by decide +kernel
theorem dX9_readPerson_203 : decode cX9_readPerson 203 = .ok (.iconst 0, 1) := by decide +kernel
theorem dX9_readPerson_204 : decode cX9_readPerson 204 = .ok (.istore 4, 2) := by decide +kernel
theorem dX9_readPerson_206 : decode cX9_readPerson 206 = .ok (.aload_n 0, 1) := by decide +kernel
theorem dX9_readPerson_207 : decode cX9_readPerson 207 = .ok (.getfield 125, 3) := by decide +kernel
theorem dX9_readPerson_210 : decode cX9_readPerson 210 = .ok (.invokestatic 154, 3) := by decide +kernel
theorem dX9_readPerson_213 : decode cX9_readPerson 213 = .ok (.ifCond .ne 20, 3) := by decide +kernel
theorem dX9_readPerson_216 : decode cX9_readPerson 216 = .ok (.iload 4, 2) := by decide +kernel
theorem dX9_readPerson_218 : decode cX9_readPerson 218 = .ok (.ifCond .eq 14, 3) := by decide +kernel
theorem dX9_readPerson_221 : decode cX9_readPerson 221 = .ok (.aload_n 0, 1) := by decide +kernel
theorem dX9_readPerson_222 : decode cX9_readPerson 222 = .ok (.bipush 18, 2) := by decide +kernel
theorem dX9_readPerson_224 : decode cX9_readPerson 224 = .ok (.aload_n 0, 1) := by decide +kernel
theorem dX9_readPerson_225 : decode cX9_readPerson 225 = .ok (.getfield 171, 3) := by decide +kernel
theorem dX9_readPerson_228 : decode cX9_readPerson 228 = .ok (.iload_n 3, 1) := by decide +kernel
theorem dX9_readPerson_229 : decode cX9_readPerson 229 = .ok (.invokevirtual 174, 3) := by decide +kernel
theorem dX9_readPerson_232 : decode cX9_readPerson 232 = .ok (.return_, 1) := by decide +kernel
theorem dX9_readPerson_233 : decode cX9_readPerson 233 = .ok (.aload_n 0, 1) := by decide +kernel
theorem dX9_readPerson_234 : decode cX9_readPerson 234 = .ok (.getfield 32, 3) := by decide +kernel
theorem dX9_readPerson_237 : decode cX9_readPerson 237 = .ok (.aload_n 0, 1) := by decide +kernel
theorem dX9_readPerson_238 : decode cX9_readPerson 238 = .ok (.getfield 252, 3) := by decide +kernel
theorem dX9_readPerson_241 : decode cX9_readPerson 241 = .ok (.aload_n 0, 1) := by decide +kernel
theorem dX9_readPerson_242 : decode cX9_readPerson 242 = .ok (.getfield 80, 3) := by decide +kernel
theorem dX9_readPerson_245 : decode cX9_readPerson 245 = .ok (.iconst 0, 1) := by decide +kernel
theorem dX9_readPerson_246 : decode cX9_readPerson 246 = .ok (.iaload, 1) := by decide +kernel
theorem dX9_readPerson_247 : decode cX9_readPerson 247 = .ok (.iastore, 1) := by decide +kernel
theorem dX9_readPerson_248 : decode cX9_readPerson 248 = .ok (.aload_n 0, 1) := by decide +kernel
theorem dX9_readPerson_249 : decode cX9_readPerson 249 = .ok (.getfield 35, 3) := by decide +kernel
theorem dX9_readPerson_252 : decode cX9_readPerson 252 = .ok (.aload_n 0, 1) := by decide +kernel
theorem dX9_readPerson_253 : decode cX9_readPerson 253 = .ok (.getfield 252, 3) := by decide +kernel
theorem dX9_readPerson_256 : decode cX9_readPerson 256 = .ok (.aload_n 0, 1) := by decide +kernel
theorem dX9_readPerson_257 : decode cX9_readPerson 257 = .ok (.getfield 80, 3) := by decide +kernel
theorem dX9_readPerson_260 : decode cX9_readPerson 260 = .ok (.iconst 1, 1) := by decide +kernel
theorem dX9_readPerson_261 : decode cX9_readPerson 261 = .ok (.iaload, 1) := by decide +kernel
theorem dX9_readPerson_262 : decode cX9_readPerson 262 = .ok (.iastore, 1) := by decide +kernel
theorem dX9_readPerson_263 : decode cX9_readPerson 263 = .ok (.aload_n 0, 1) := by decide +kernel
theorem dX9_readPerson_264 : decode cX9_readPerson 264 = .ok (.getfield 38, 3) := by decide +kernel
theorem dX9_readPerson_267 : decode cX9_readPerson 267 = .ok (.aload_n 0, 1) := by decide +kernel
theorem dX9_readPerson_268 : decode cX9_readPerson 268 = .ok (.getfield 252, 3) := by decide +kernel
theorem dX9_readPerson_271 : decode cX9_readPerson 271 = .ok (.aload_n 0, 1) := by decide +kernel
theorem dX9_readPerson_272 : decode cX9_readPerson 272 = .ok (.getfield 80, 3) := by decide +kernel
theorem dX9_readPerson_275 : decode cX9_readPerson 275 = .ok (.iconst 2, 1) := by decide +kernel
theorem dX9_readPerson_276 : decode cX9_readPerson 276 = .ok (.iaload, 1) := by decide +kernel
theorem dX9_readPerson_277 : decode cX9_readPerson 277 = .ok (.iastore, 1) := by decide +kernel
theorem dX9_readPerson_278 : decode cX9_readPerson 278 = .ok (.aload_n 0, 1) := by decide +kernel
theorem dX9_readPerson_279 : decode cX9_readPerson 279 = .ok (.getfield 41, 3) := by decide +kernel
theorem dX9_readPerson_282 : decode cX9_readPerson 282 = .ok (.aload_n 0, 1) := by decide +kernel
theorem dX9_readPerson_283 : decode cX9_readPerson 283 = .ok (.getfield 252, 3) := by decide +kernel
theorem dX9_readPerson_286 : decode cX9_readPerson 286 = .ok (.aload_n 0, 1) := by decide +kernel
theorem dX9_readPerson_287 : decode cX9_readPerson 287 = .ok (.getfield 240, 3) := by decide +kernel
theorem dX9_readPerson_290 : decode cX9_readPerson 290 = .ok (.iastore, 1) := by decide +kernel
theorem dX9_readPerson_291 : decode cX9_readPerson 291 = .ok (.aload_n 0, 1) := by decide +kernel
theorem dX9_readPerson_292 : decode cX9_readPerson 292 = .ok (.getfield 44, 3) := by decide +kernel
theorem dX9_readPerson_295 : decode cX9_readPerson 295 = .ok (.aload_n 0, 1) := by decide +kernel
theorem dX9_readPerson_296 : decode cX9_readPerson 296 = .ok (.getfield 252, 3) := by decide +kernel
theorem dX9_readPerson_299 : decode cX9_readPerson 299 = .ok (.iload_n 2, 1) := by decide +kernel
theorem dX9_readPerson_300 : decode cX9_readPerson 300 = .ok (.iastore, 1) := by decide +kernel
theorem dX9_readPerson_301 : decode cX9_readPerson 301 = .ok (.aload_n 0, 1) := by decide +kernel
theorem dX9_readPerson_302 : decode cX9_readPerson 302 = .ok (.dup, 1) := by decide +kernel
theorem dX9_readPerson_303 : decode cX9_readPerson 303 = .ok (.getfield 240, 3) := by decide +kernel
theorem dX9_readPerson_306 : decode cX9_readPerson 306 = .ok (.iload_n 2, 1) := by decide +kernel
theorem dX9_readPerson_307 : decode cX9_readPerson 307 = .ok (.iadd, 1) := by decide +kernel
theorem dX9_readPerson_308 : decode cX9_readPerson 308 = .ok (.putfield 240, 3) := by decide +kernel
theorem dX9_readPerson_311 : decode cX9_readPerson 311 = .ok (.aload_n 0, 1) := by decide +kernel
theorem dX9_readPerson_312 : decode cX9_readPerson 312 = .ok (.dup, 1) := by decide +kernel
theorem dX9_readPerson_313 : decode cX9_readPerson 313 = .ok (.getfield 252, 3) := by decide +kernel
theorem dX9_readPerson_316 : decode cX9_readPerson 316 = .ok (.iconst 1, 1) := by decide +kernel
theorem dX9_readPerson_317 : decode cX9_readPerson 317 = .ok (.iadd, 1) := by decide +kernel
theorem dX9_readPerson_318 : decode cX9_readPerson 318 = .ok (.putfield 252, 3) := by decide +kernel
theorem dX9_readPerson_321 : decode cX9_readPerson 321 = .ok (.return_, 1) := by decide +kernel
theorem dX9_isTwice_0 : decode cX9_isTwice 0 = .ok (.iconst 0, 1) := by decide +kernel
theorem dX9_isTwice_1 : decode cX9_isTwice 1 = .ok (.istore_n 2, 1) := by decide +kernel
theorem dX9_isTwice_2 : decode cX9_isTwice 2 = .ok (.aload_n 0, 1) := by decide +kernel
theorem dX9_isTwice_3 : decode cX9_isTwice 3 = .ok (.getfield 255, 3) := by decide +kernel
theorem dX9_isTwice_6 : decode cX9_isTwice 6 = .ok (.istore_n 3, 1) := by decide +kernel
theorem dX9_isTwice_7 : decode cX9_isTwice 7 = .ok (.iload_n 3, 1) := by decide +kernel
theorem dX9_isTwice_8 : decode cX9_isTwice 8 = .ok (.aload_n 0, 1) := by decide +kernel
theorem dX9_isTwice_9 : decode cX9_isTwice 9 = .ok (.getfield 252, 3) := by decide +kernel
theorem dX9_isTwice_12 : decode cX9_isTwice 12 = .ok (.if_icmp .ge 125, 3) := by decide +kernel
theorem dX9_isTwice_15 : decode cX9_isTwice 15 = .ok (.iload_n 1, 1) := by decide +kernel
theorem dX9_isTwice_16 : decode cX9_isTwice 16 = .ok (.ifCond .le 121, 3) := by decide +kernel
theorem dX9_isTwice_19 : decode cX9_isTwice 19 = .ok (.aload_n 0, 1) := by decide +kernel
theorem dX9_isTwice_20 : decode cX9_isTwice 20 = .ok (.getfield 80, 3) := by decide +kernel
theorem dX9_isTwice_23 : decode cX9_isTwice 23 = .ok (.iconst 1, 1) := by decide +kernel
theorem dX9_isTwice_24 : decode cX9_isTwice 24 = .ok (.iaload, 1) := by decide +kernel
theorem dX9_isTwice_25 : decode cX9_isTwice 25 = .ok (.ifCond .lt 112, 3) := by decide +kernel
theorem dX9_isTwice_28 : decode cX9_isTwice 28 = .ok (.aload_n 0, 1) := by decide +kernel
theorem dX9_isTwice_29 : decode cX9_isTwice 29 = .ok (.getfield 35, 3) := by decide +kernel
theorem dX9_isTwice_32 : decode cX9_isTwice 32 = .ok (.iload_n 3, 1) := by decide +kernel
theorem dX9_isTwice_33 : decode cX9_isTwice 33 = .ok (.iaload, 1) := by decide +kernel
theorem dX9_isTwice_34 : decode cX9_isTwice 34 = .ok (.aload_n 0, 1) := by decide +kernel
theorem dX9_isTwice_35 : decode cX9_isTwice 35 = .ok (.getfield 80, 3) := by decide +kernel
theorem dX9_isTwice_38 : decode cX9_isTwice 38 = .ok (.iconst 1, 1) := by decide +kernel
theorem dX9_isTwice_39 : decode cX9_isTwice 39 = .ok (.iaload, 1) := by decide +kernel
theorem dX9_isTwice_40 : decode cX9_isTwice 40 = .ok (.if_icmp .ne 17, 3) := by decide +kernel
theorem dX9_isTwice_43 : decode cX9_isTwice 43 = .ok (.aload_n 0, 1) := by decide +kernel
theorem dX9_isTwice_44 : decode cX9_isTwice 44 = .ok (.getfield 44, 3) := by decide +kernel
theorem dX9_isTwice_47 : decode cX9_isTwice 47 = .ok (.iload_n 3, 1) := by decide +kernel
theorem dX9_isTwice_48 : decode cX9_isTwice 48 = .ok (.iaload, 1) := by decide +kernel
theorem dX9_isTwice_49 : decode cX9_isTwice 49 = .ok (.iload_n 1, 1) := by decide +kernel
theorem dX9_isTwice_50 : decode cX9_isTwice 50 = .ok (.if_icmp .ne 7, 3) := by decide +kernel
theorem dX9_isTwice_53 : decode cX9_isTwice 53 = .ok (.iconst 1, 1) := by decide +kernel
theorem dX9_isTwice_54 : decode cX9_isTwice 54 = .ok (.goto 4, 3) := by decide +kernel
theorem dX9_isTwice_57 : decode cX9_isTwice 57 = .ok (.iconst 0, 1) := by decide +kernel
theorem dX9_isTwice_58 : decode cX9_isTwice 58 = .ok (.istore 4, 2) := by decide +kernel
theorem dX9_isTwice_60 : decode cX9_isTwice 60 = .ok (.iconst 0, 1) := by decide +kernel
theorem dX9_isTwice_61 : decode cX9_isTwice 61 = .ok (.istore 5, 2) := by decide +kernel
theorem dX9_isTwice_63 : decode cX9_isTwice 63 = .ok (.iload 5, 2) := by decide +kernel
theorem dX9_isTwice_65 : decode cX9_isTwice 65 = .ok (.iload_n 1, 1) := by decide +kernel
theorem dX9_isTwice_66 : decode cX9_isTwice 66 = .ok (.if_icmp .ge 50, 3) := by decide +kernel
theorem dX9_isTwice_69 : decode cX9_isTwice 69 = .ok (.iload 4, 2) := by decide +kernel
theorem dX9_isTwice_71 : decode cX9_isTwice 71 = .ok (.ifCond .eq 45, 3) := by decide +kernel
theorem dX9_isTwice_74 : decode cX9_isTwice 74 = .ok (.aload_n 0, 1) := by decide +kernel
theorem dX9_isTwice_75 : decode cX9_isTwice 75 = .ok (.getfield 47, 3) := by decide +kernel
theorem dX9_isTwice_78 : decode cX9_isTwice 78 = .ok (.aload_n 0, 1) := by decide +kernel
theorem dX9_isTwice_79 : decode cX9_isTwice 79 = .ok (.getfield 41, 3) := by decide +kernel
theorem dX9_isTwice_82 : decode cX9_isTwice 82 = .ok (.iload_n 3, 1) := by decide +kernel
theorem dX9_isTwice_83 : decode cX9_isTwice 83 = .ok (.iaload, 1) := by decide +kernel
theorem dX9_isTwice_84 : decode cX9_isTwice 84 = .ok (.iload 5, 2) := by decide +kernel
theorem dX9_isTwice_86 : decode cX9_isTwice 86 = .ok (.iadd, 1) := by decide +kernel
theorem dX9_isTwice_87 : decode cX9_isTwice 87 = .ok (.baload, 1) := by decide +kernel
theorem dX9_isTwice_88 : decode cX9_isTwice 88 = .ok (.aload_n 0, 1) := by decide +kernel
theorem dX9_isTwice_89 : decode cX9_isTwice 89 = .ok (.getfield 47, 3) := by decide +kernel
theorem dX9_isTwice_92 : decode cX9_isTwice 92 = .ok (.aload_n 0, 1) := by decide +kernel
theorem dX9_isTwice_93 : decode cX9_isTwice 93 = .ok (.getfield 240, 3) := by decide +kernel
theorem dX9_isTwice_96 : decode cX9_isTwice 96 = .ok (.iload 5, 2) := by decide +kernel
theorem dX9_isTwice_98 : decode cX9_isTwice 98 = .ok (.iadd, 1) := by decide +kernel
theorem dX9_isTwice_99 : decode cX9_isTwice 99 = .ok (.baload, 1) := by decide +kernel
theorem dX9_isTwice_100 : decode cX9_isTwice 100 = .ok (.if_icmp .ne 7, 3) := by decide +kernel
theorem dX9_isTwice_103 : decode cX9_isTwice 103 = .ok (.iconst 1, 1) := by decide +kernel
theorem dX9_isTwice_104 : decode cX9_isTwice 104 = .ok (.goto 4, 3) := by decide +kernel
theorem dX9_isTwice_107 : decode cX9_isTwice 107 = .ok (.iconst 0, 1) := by decide +kernel
theorem dX9_isTwice_108 : decode cX9_isTwice 108 = .ok (.istore 4, 2) := by decide +kernel
theorem dX9_isTwice_110 : decode cX9_isTwice 110 = .ok (.iinc 5 1, 3) := by decide +kernel
theorem dX9_isTwice_113 : decode cX9_isTwice 113 = .ok (.goto (-50), 3) := by decide +kernel
theorem dX9_isTwice_116 : decode cX9_isTwice 116 = .ok (.iload_n 2, 1) := by decide +kernel
theorem dX9_isTwice_117 : decode cX9_isTwice 117 = .ok (.ifCond .ne 8, 3) := by decide +kernel
theorem dX9_isTwice_120 : decode cX9_isTwice 120 = .ok (.iload 4, 2) := by decide +kernel
theorem dX9_isTwice_122 : decode cX9_isTwice 122 = .ok (.ifCond .eq 7, 3) := by decide +kernel
theorem dX9_isTwice_125 : decode cX9_isTwice 125 = .ok (.iconst 1, 1) := by decide +kernel
theorem dX9_isTwice_126 : decode cX9_isTwice 126 = .ok (.goto 4, 3) := by decide +kernel
theorem dX9_isTwice_129 : decode cX9_isTwice 129 = .ok (.iconst 0, 1) := by decide +kernel
theorem dX9_isTwice_130 : decode cX9_isTwice 130 = .ok (.istore_n 2, 1) := by decide +kernel
theorem dX9_isTwice_131 : decode cX9_isTwice 131 = .ok (.iinc 3 1, 3) := by decide +kernel
theorem dX9_isTwice_134 : decode cX9_isTwice 134 = .ok (.goto (-127), 3) := by decide +kernel
theorem dX9_isTwice_137 : decode cX9_isTwice 137 = .ok (.iload_n 2, 1) := by decide +kernel
theorem dX9_isTwice_138 : decode cX9_isTwice 138 = .ok (.ireturn, 1) := by decide +kernel
theorem dX9_beginHouse_0 : decode cX9_beginHouse 0 = .ok (.aload_n 0, 1) := by decide +kernel
theorem dX9_beginHouse_1 : decode cX9_beginHouse 1 = .ok (.iconst 1, 1) := by decide +kernel
theorem dX9_beginHouse_2 : decode cX9_beginHouse 2 = .ok (.putfield 141, 3) := by decide +kernel
theorem dX9_beginHouse_5 : decode cX9_beginHouse 5 = .ok (.aload_n 0, 1) := by decide +kernel
theorem dX9_beginHouse_6 : decode cX9_beginHouse 6 = .ok (.iconst 0, 1) := by decide +kernel
theorem dX9_beginHouse_7 : decode cX9_beginHouse 7 = .ok (.putfield 158, 3) := by decide +kernel
theorem dX9_beginHouse_10 : decode cX9_beginHouse 10 = .ok (.aload_n 0, 1) := by decide +kernel
theorem dX9_beginHouse_11 : decode cX9_beginHouse 11 = .ok (.aload_n 0, 1) := by decide +kernel
theorem dX9_beginHouse_12 : decode cX9_beginHouse 12 = .ok (.getfield 171, 3) := by decide +kernel
theorem dX9_beginHouse_15 : decode cX9_beginHouse 15 = .ok (.putfield 164, 3) := by decide +kernel
theorem dX9_beginHouse_18 : decode cX9_beginHouse 18 = .ok (.aload_n 0, 1) := by decide +kernel
theorem dX9_beginHouse_19 : decode cX9_beginHouse 19 = .ok (.aload_n 0, 1) := by decide +kernel
theorem dX9_beginHouse_20 : decode cX9_beginHouse 20 = .ok (.getfield 252, 3) := by decide +kernel
theorem dX9_beginHouse_23 : decode cX9_beginHouse 23 = .ok (.putfield 255, 3) := by decide +kernel
theorem dX9_beginHouse_26 : decode cX9_beginHouse 26 = .ok (.iconst 0, 1) := by decide +kernel
theorem dX9_beginHouse_27 : decode cX9_beginHouse 27 = .ok (.istore_n 1, 1) := by decide +kernel
theorem dX9_beginHouse_28 : decode cX9_beginHouse 28 = .ok (.iload_n 1, 1) := by decide +kernel
theorem dX9_beginHouse_29 : decode cX9_beginHouse 29 = .ok (.bipush 6, 2) := by decide +kernel
theorem dX9_beginHouse_31 : decode cX9_beginHouse 31 = .ok (.if_icmp .ge 16, 3) := by decide +kernel
theorem dX9_beginHouse_34 : decode cX9_beginHouse 34 = .ok (.aload_n 0, 1) := by decide +kernel
theorem dX9_beginHouse_35 : decode cX9_beginHouse 35 = .ok (.getfield 68, 3) := by decide +kernel
theorem dX9_beginHouse_38 : decode cX9_beginHouse 38 = .ok (.iload_n 1, 1) := by decide +kernel
theorem dX9_beginHouse_39 : decode cX9_beginHouse 39 = .ok (.iconst (-1), 1) := by decide +kernel
theorem dX9_beginHouse_40 : decode cX9_beginHouse 40 = .ok (.iastore, 1) := by decide +kernel
theorem dX9_beginHouse_41 : decode cX9_beginHouse 41 = .ok (.iinc 1 1, 3) := by decide +kernel
theorem dX9_beginHouse_44 : decode cX9_beginHouse 44 = .ok (.goto (-16), 3) := by decide +kernel
theorem dX9_beginHouse_47 : decode cX9_beginHouse 47 = .ok (.return_, 1) := by decide +kernel
set_option maxRecDepth 20000 in
theorem ggX9_endHouse_X9_failHouse : GoodIn wsX9_endHouse wsX9_failHouse := goodIn_r _ [20, 21, 3, 22, 4, 23, 24, 25, 19, 26, 27, 28, 29, 30, 8, 31, 32, 33, 34, 35, 36, 37, 38, 39, 40, 41, 42, 43, 44, 45, 46, 47, 48, 49, 50, 51, 52, 53, 54, 55, 56, 57, 58, 59, 60, 61, 62, 63, 64, 65, 66, 67, 68, 69, 70, 71, 72, 73, 74, 75, 76, 77, 78, 79, 80, 81, 82, 83, 84, 85, 86, 87, 88, 89, 90, 91, 92, 93, 94, 95, 96, 97, 98, 99, 100, 101, 102, 103, 104, 105, 106, 107, 108, 109, 110, 111, 112, 113, 114, 115, 116, 117, 118, 119, 120, 121, 122] (by decide +kernel) (by decide +kernel)
set_option maxRecDepth 20000 in
theorem gX9_endHouse_X9_failHouse : GoodIn wsX9_endHouse (wsV RX9 174 RX9 yX9_failHouse wsX9_failHouse) := goodIn_app (goodIn_of _ (by decide +kernel)) ggX9_endHouse_X9_failHouse
theorem dX9_endHouse_0 : decode cX9_endHouse 0 = .ok (.aload_n 0, 1) := by decide +kernel
theorem dX9_endHouse_1 : decode cX9_endHouse 1 = .ok (.getfield 252, 3) := by decide +kernel
theorem dX9_endHouse_4 : decode cX9_endHouse 4 = .ok (.aload_n 0, 1) := by decide +kernel
theorem dX9_endHouse_5 : decode cX9_endHouse 5 = .ok (.getfield 255, 3) := by decide +kernel
theorem dX9_endHouse_8 : decode cX9_endHouse 8 = .ok (.isub, 1) := by decide +kernel
theorem dX9_endHouse_9 : decode cX9_endHouse 9 = .ok (.istore_n 1, 1) := by decide +kernel
theorem dX9_endHouse_10 : decode cX9_endHouse 10 = .ok (.aload_n 0, 1) := by decide +kernel
theorem dX9_endHouse_11 : decode cX9_endHouse 11 = .ok (.getfield 158, 3) := by decide +kernel
theorem dX9_endHouse_14 : decode cX9_endHouse 14 = .ok (.ifCond .ne 18, 3) := by decide +kernel
theorem dX9_endHouse_17 : decode cX9_endHouse 17 = .ok (.iload_n 1, 1) := by decide +kernel
theorem dX9_endHouse_18 : decode cX9_endHouse 18 = .ok (.ifCond .ne 14, 3) := by decide +kernel
theorem dX9_endHouse_21 : decode cX9_endHouse 21 = .ok (.aload_n 0, 1) := by decide +kernel
theorem dX9_endHouse_22 : decode cX9_endHouse 22 = .ok (.bipush 14, 2) := by decide +kernel
theorem dX9_endHouse_24 : decode cX9_endHouse 24 = .ok (.aload_n 0, 1) := by decide +kernel
theorem dX9_endHouse_25 : decode cX9_endHouse 25 = .ok (.getfield 164, 3) := by decide +kernel
theorem dX9_endHouse_28 : decode cX9_endHouse 28 = .ok (.iconst (-1), 1) := by decide +kernel
theorem dX9_endHouse_29 : decode cX9_endHouse 29 = .ok (.invokevirtual 174, 3) := by decide +kernel
theorem dX9_endHouse_32 : decode cX9_endHouse 32 = .ok (.aload_n 0, 1) := by decide +kernel
theorem dX9_endHouse_33 : decode cX9_endHouse 33 = .ok (.getfield 158, 3) := by decide +kernel
theorem dX9_endHouse_36 : decode cX9_endHouse 36 = .ok (.ifCond .ne 29, 3) := by decide +kernel
theorem dX9_endHouse_39 : decode cX9_endHouse 39 = .ok (.aload_n 0, 1) := by decide +kernel
theorem dX9_endHouse_40 : decode cX9_endHouse 40 = .ok (.getfield 224, 3) := by decide +kernel
theorem dX9_endHouse_43 : decode cX9_endHouse 43 = .ok (.ifCond .lt 22, 3) := by decide +kernel
theorem dX9_endHouse_46 : decode cX9_endHouse 46 = .ok (.aload_n 0, 1) := by decide +kernel
theorem dX9_endHouse_47 : decode cX9_endHouse 47 = .ok (.getfield 224, 3) := by decide +kernel
theorem dX9_endHouse_50 : decode cX9_endHouse 50 = .ok (.iload_n 1, 1) := by decide +kernel
theorem dX9_endHouse_51 : decode cX9_endHouse 51 = .ok (.if_icmp .eq 14, 3) := by decide +kernel
theorem dX9_endHouse_54 : decode cX9_endHouse 54 = .ok (.aload_n 0, 1) := by decide +kernel
theorem dX9_endHouse_55 : decode cX9_endHouse 55 = .ok (.bipush 15, 2) := by decide +kernel
theorem dX9_endHouse_57 : decode cX9_endHouse 57 = .ok (.aload_n 0, 1) := by decide +kernel
theorem dX9_endHouse_58 : decode cX9_endHouse 58 = .ok (.getfield 164, 3) := by decide +kernel
theorem dX9_endHouse_61 : decode cX9_endHouse 61 = .ok (.iconst (-1), 1) := by decide +kernel
theorem dX9_endHouse_62 : decode cX9_endHouse 62 = .ok (.invokevirtual 174, 3) := by decide +kernel
theorem dX9_endHouse_65 : decode cX9_endHouse 65 = .ok (.aload_n 0, 1) := by decide +kernel
theorem dX9_endHouse_66 : decode cX9_endHouse 66 = .ok (.getfield 158, 3) := by decide +kernel
theorem dX9_endHouse_69 : decode cX9_endHouse 69 = .ok (.ifCond .ne 32, 3) := by decide +kernel
theorem dX9_endHouse_72 : decode cX9_endHouse 72 = .ok (.aload_n 0, 1) := by decide +kernel
theorem dX9_endHouse_73 : decode cX9_endHouse 73 = .ok (.getfield 221, 3) := by decide +kernel
theorem dX9_endHouse_76 : decode cX9_endHouse 76 = .ok (.ifCond .lt 25, 3) := by decide +kernel
theorem dX9_endHouse_79 : decode cX9_endHouse 79 = .ok (.aload_n 0, 1) := by decide +kernel
theorem dX9_endHouse_80 : decode cX9_endHouse 80 = .ok (.getfield 221, 3) := by decide +kernel
theorem dX9_endHouse_83 : decode cX9_endHouse 83 = .ok (.aload_n 0, 1) := by decide +kernel
theorem dX9_endHouse_84 : decode cX9_endHouse 84 = .ok (.getfield 258, 3) := by decide +kernel
theorem dX9_endHouse_87 : decode cX9_endHouse 87 = .ok (.if_icmp .gt 14, 3) := by decide +kernel
theorem dX9_endHouse_90 : decode cX9_endHouse 90 = .ok (.aload_n 0, 1) := by decide +kernel
theorem dX9_endHouse_91 : decode cX9_endHouse 91 = .ok (.bipush 16, 2) := by decide +kernel
theorem dX9_endHouse_93 : decode cX9_endHouse 93 = .ok (.aload_n 0, 1) := by decide +kernel
theorem dX9_endHouse_94 : decode cX9_endHouse 94 = .ok (.getfield 164, 3) := by decide +kernel
theorem dX9_endHouse_97 : decode cX9_endHouse 97 = .ok (.iconst (-1), 1) := by decide +kernel
theorem dX9_endHouse_98 : decode cX9_endHouse 98 = .ok (.invokevirtual 174, 3) := by decide +kernel
theorem dX9_endHouse_101 : decode cX9_endHouse 101 = .ok (.aload_n 0, 1) := by decide +kernel
theorem dX9_endHouse_102 : decode cX9_endHouse 102 = .ok (.iconst 0, 1) := by decide +kernel
theorem dX9_endHouse_103 : decode cX9_endHouse 103 = .ok (.putfield 141, 3) := by decide +kernel
theorem dX9_endHouse_106 : decode cX9_endHouse 106 = .ok (.aload_n 0, 1) := by decide +kernel
theorem dX9_endHouse_107 : decode cX9_endHouse 107 = .ok (.getfield 158, 3) := by decide +kernel
theorem dX9_endHouse_110 : decode cX9_endHouse 110 = .ok (.ifCond .eq 43, 3) := by decide +kernel
theorem dX9_endHouse_113 : decode cX9_endHouse 113 = .ok (.aload_n 0, 1) := by decide +kernel
theorem dX9_endHouse_114 : decode cX9_endHouse 114 = .ok (.aload_n 0, 1) := by decide +kernel
theorem dX9_endHouse_115 : decode cX9_endHouse 115 = .ok (.getfield 252, 3) := by decide +kernel
theorem dX9_endHouse_118 : decode cX9_endHouse 118 = .ok (.aload_n 0, 1) := by decide +kernel
theorem dX9_endHouse_119 : decode cX9_endHouse 119 = .ok (.getfield 255, 3) := by decide +kernel
theorem dX9_endHouse_122 : decode cX9_endHouse 122 = .ok (.if_icmp .le 15, 3) := by decide +kernel
theorem dX9_endHouse_125 : decode cX9_endHouse 125 = .ok (.aload_n 0, 1) := by decide +kernel
theorem dX9_endHouse_126 : decode cX9_endHouse 126 = .ok (.getfield 41, 3) := by decide +kernel
theorem dX9_endHouse_129 : decode cX9_endHouse 129 = .ok (.aload_n 0, 1) := by decide +kernel
theorem dX9_endHouse_130 : decode cX9_endHouse 130 = .ok (.getfield 255, 3) := by decide +kernel
theorem dX9_endHouse_133 : decode cX9_endHouse 133 = .ok (.iaload, 1) := by decide +kernel
theorem dX9_endHouse_134 : decode cX9_endHouse 134 = .ok (.goto 7, 3) := by decide +kernel
theorem dX9_endHouse_137 : decode cX9_endHouse 137 = .ok (.aload_n 0, 1) := by decide +kernel
theorem dX9_endHouse_138 : decode cX9_endHouse 138 = .ok (.getfield 240, 3) := by decide +kernel
theorem dX9_endHouse_141 : decode cX9_endHouse 141 = .ok (.putfield 240, 3) := by decide +kernel
theorem dX9_endHouse_144 : decode cX9_endHouse 144 = .ok (.aload_n 0, 1) := by decide +kernel
