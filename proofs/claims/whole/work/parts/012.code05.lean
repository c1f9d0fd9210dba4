theorem dX6_lays_39 : decode cX6_lays 39 = .ok (.aload_n 0, 1) := by decide +kernel
theorem dX6_lays_40 : decode cX6_lays 40 = .ok (.getfield 22, 3) := by decide +kernel
theorem dX6_lays_43 : decode cX6_lays 43 = .ok (.iconst 1, 1) := by decide +kernel
theorem dX6_lays_44 : decode cX6_lays 44 = .ok (.iaload, 1) := by decide +kernel
theorem dX6_lays_45 : decode cX6_lays 45 = .ok (.if_icmp .ge 78, 3) := by decide +kernel
theorem dX6_lays_48 : decode cX6_lays 48 = .ok (.aload_n 0, 1) := by decide +kernel
theorem dX6_lays_49 : decode cX6_lays 49 = .ok (.getfield 42, 3) := by decide +kernel
theorem dX6_lays_52 : decode cX6_lays 52 = .ok (.bipush 20, 2) := by decide +kernel
theorem dX6_lays_54 : decode cX6_lays 54 = .ok (.aload_n 0, 1) := by decide +kernel
theorem dX6_lays_55 : decode cX6_lays 55 = .ok (.getfield 22, 3) := by decide +kernel
theorem dX6_lays_58 : decode cX6_lays 58 = .ok (.bipush 19, 2) := by decide +kernel
theorem dX6_lays_60 : decode cX6_lays 60 = .ok (.iload 4, 2) := by decide +kernel
theorem dX6_lays_62 : decode cX6_lays 62 = .ok (.iadd, 1) := by decide +kernel
theorem dX6_lays_63 : decode cX6_lays 63 = .ok (.iaload, 1) := by decide +kernel
theorem dX6_lays_64 : decode cX6_lays 64 = .ok (.imul, 1) := by decide +kernel
theorem dX6_lays_65 : decode cX6_lays 65 = .ok (.aload_n 0, 1) := by decide +kernel
theorem dX6_lays_66 : decode cX6_lays 66 = .ok (.getfield 22, 3) := by decide +kernel
theorem dX6_lays_69 : decode cX6_lays 69 = .ok (.bipush 31, 2) := by decide +kernel
theorem dX6_lays_71 : decode cX6_lays 71 = .ok (.iload 4, 2) := by decide +kernel
theorem dX6_lays_73 : decode cX6_lays 73 = .ok (.iadd, 1) := by decide +kernel
theorem dX6_lays_74 : decode cX6_lays 74 = .ok (.iaload, 1) := by decide +kernel
theorem dX6_lays_75 : decode cX6_lays 75 = .ok (.iadd, 1) := by decide +kernel
theorem dX6_lays_76 : decode cX6_lays 76 = .ok (.dup2, 1) := by decide +kernel
theorem dX6_lays_77 : decode cX6_lays 77 = .ok (.iaload, 1) := by decide +kernel
theorem dX6_lays_78 : decode cX6_lays 78 = .ok (.aload_n 0, 1) := by decide +kernel
theorem dX6_lays_79 : decode cX6_lays 79 = .ok (.getfield 22, 3) := by decide +kernel
theorem dX6_lays_82 : decode cX6_lays 82 = .ok (.bipush 43, 2) := by decide +kernel
theorem dX6_lays_84 : decode cX6_lays 84 = .ok (.iload 4, 2) := by decide +kernel
theorem dX6_lays_86 : decode cX6_lays 86 = .ok (.iadd, 1) := by decide +kernel
theorem dX6_lays_87 : decode cX6_lays 87 = .ok (.iaload, 1) := by decide +kernel
theorem dX6_lays_88 : decode cX6_lays 88 = .ok (.iload_n 1, 1) := by decide +kernel
theorem dX6_lays_89 : decode cX6_lays 89 = .ok (.if_icmp .ne 25, 3) := by decide +kernel
theorem dX6_lays_92 : decode cX6_lays 92 = .ok (.iload_n 2, 1) := by decide +kernel
theorem dX6_lays_93 : decode cX6_lays 93 = .ok (.iload 4, 2) := by decide +kernel
theorem dX6_lays_95 : decode cX6_lays 95 = .ok (.invokestatic 115, 3) := by decide +kernel
theorem dX6_lays_98 : decode cX6_lays 98 = .ok (.ifCond .eq 16, 3) := by decide +kernel
theorem dX6_lays_101 : decode cX6_lays 101 = .ok (.aload_n 0, 1) := by decide +kernel
theorem dX6_lays_102 : decode cX6_lays 102 = .ok (.getfield 22, 3) := by decide +kernel
theorem dX6_lays_105 : decode cX6_lays 105 = .ok (.bipush 55, 2) := by decide +kernel
theorem dX6_lays_107 : decode cX6_lays 107 = .ok (.iload 4, 2) := by decide +kernel
theorem dX6_lays_109 : decode cX6_lays 109 = .ok (.iadd, 1) := by decide +kernel
theorem dX6_lays_110 : decode cX6_lays 110 = .ok (.iaload, 1) := by decide +kernel
theorem dX6_lays_111 : decode cX6_lays 111 = .ok (.goto 4, 3) := by decide +kernel
theorem dX6_lays_114 : decode cX6_lays 114 = .ok (.iconst 0, 1) := by decide +kernel
theorem dX6_lays_115 : decode cX6_lays 115 = .ok (.iadd, 1) := by decide +kernel
theorem dX6_lays_116 : decode cX6_lays 116 = .ok (.iastore, 1) := by decide +kernel
theorem dX6_lays_117 : decode cX6_lays 117 = .ok (.iinc 4 1, 3) := by decide +kernel
theorem dX6_lays_120 : decode cX6_lays 120 = .ok (.goto (-83), 3) := by decide +kernel
theorem dX6_lays_123 : decode cX6_lays 123 = .ok (.aload_n 0, 1) := by decide +kernel
theorem dX6_lays_124 : decode cX6_lays 124 = .ok (.getfield 22, 3) := by decide +kernel
theorem dX6_lays_127 : decode cX6_lays 127 = .ok (.iconst 4, 1) := by decide +kernel
theorem dX6_lays_128 : decode cX6_lays 128 = .ok (.iload_n 1, 1) := by decide +kernel
theorem dX6_lays_129 : decode cX6_lays 129 = .ok (.iadd, 1) := by decide +kernel
theorem dX6_lays_130 : decode cX6_lays 130 = .ok (.iaload, 1) := by decide +kernel
theorem dX6_lays_131 : decode cX6_lays 131 = .ok (.istore 4, 2) := by decide +kernel
theorem dX6_lays_133 : decode cX6_lays 133 = .ok (.iconst 0, 1) := by decide +kernel
theorem dX6_lays_134 : decode cX6_lays 134 = .ok (.istore 5, 2) := by decide +kernel
theorem dX6_lays_136 : decode cX6_lays 136 = .ok (.iload 5, 2) := by decide +kernel
theorem dX6_lays_138 : decode cX6_lays 138 = .ok (.bipush 20, 2) := by decide +kernel
theorem dX6_lays_140 : decode cX6_lays 140 = .ok (.if_icmp .ge 104, 3) := by decide +kernel
theorem dX6_lays_143 : decode cX6_lays 143 = .ok (.iload 5, 2) := by decide +kernel
theorem dX6_lays_145 : decode cX6_lays 145 = .ok (.ifCond .le 23, 3) := by decide +kernel
theorem dX6_lays_148 : decode cX6_lays 148 = .ok (.iload 4, 2) := by decide +kernel
theorem dX6_lays_150 : decode cX6_lays 150 = .ok (.iconst 2, 1) := by decide +kernel
theorem dX6_lays_151 : decode cX6_lays 151 = .ok (.invokestatic 119, 3) := by decide +kernel
theorem dX6_lays_154 : decode cX6_lays 154 = .ok (.ifCond .eq 10, 3) := by decide +kernel
theorem dX6_lays_157 : decode cX6_lays 157 = .ok (.iload 5, 2) := by decide +kernel
theorem dX6_lays_159 : decode cX6_lays 159 = .ok (.iconst 2, 1) := by decide +kernel
theorem dX6_lays_160 : decode cX6_lays 160 = .ok (.irem, 1) := by decide +kernel
theorem dX6_lays_161 : decode cX6_lays 161 = .ok (.ifCond .ne 7, 3) := by decide +kernel
theorem dX6_lays_164 : decode cX6_lays 164 = .ok (.iconst 1, 1) := by decide +kernel
theorem dX6_lays_165 : decode cX6_lays 165 = .ok (.goto 4, 3) := by decide +kernel
theorem dX6_lays_168 : decode cX6_lays 168 = .ok (.iconst 0, 1) := by decide +kernel
theorem dX6_lays_169 : decode cX6_lays 169 = .ok (.istore 6, 2) := by decide +kernel
theorem dX6_lays_171 : decode cX6_lays 171 = .ok (.iload 5, 2) := by decide +kernel
theorem dX6_lays_173 : decode cX6_lays 173 = .ok (.ifCond .ne 15, 3) := by decide +kernel
theorem dX6_lays_176 : decode cX6_lays 176 = .ok (.aload_n 0, 1) := by decide +kernel
theorem dX6_lays_177 : decode cX6_lays 177 = .ok (.getfield 22, 3) := by decide +kernel
theorem dX6_lays_180 : decode cX6_lays 180 = .ok (.bipush 9, 2) := by decide +kernel
theorem dX6_lays_182 : decode cX6_lays 182 = .ok (.iload_n 1, 1) := by decide +kernel
theorem dX6_lays_183 : decode cX6_lays 183 = .ok (.iadd, 1) := by decide +kernel
theorem dX6_lays_184 : decode cX6_lays 184 = .ok (.iaload, 1) := by decide +kernel
theorem dX6_lays_185 : decode cX6_lays 185 = .ok (.goto 31, 3) := by decide +kernel
theorem dX6_lays_188 : decode cX6_lays 188 = .ok (.aload_n 0, 1) := by decide +kernel
theorem dX6_lays_189 : decode cX6_lays 189 = .ok (.getfield 45, 3) := by decide +kernel
theorem dX6_lays_192 : decode cX6_lays 192 = .ok (.iload 5, 2) := by decide +kernel
theorem dX6_lays_194 : decode cX6_lays 194 = .ok (.iconst 1, 1) := by decide +kernel
theorem dX6_lays_195 : decode cX6_lays 195 = .ok (.isub, 1) := by decide +kernel
theorem dX6_lays_196 : decode cX6_lays 196 = .ok (.iaload, 1) := by decide +kernel
theorem dX6_lays_197 : decode cX6_lays 197 = .ok (.iload 6, 2) := by decide +kernel
theorem dX6_lays_199 : decode cX6_lays 199 = .ok (.ifCond .eq 15, 3) := by decide +kernel
theorem dX6_lays_202 : decode cX6_lays 202 = .ok (.aload_n 0, 1) := by decide +kernel
theorem dX6_lays_203 : decode cX6_lays 203 = .ok (.getfield 22, 3) := by decide +kernel
theorem dX6_lays_206 : decode cX6_lays 206 = .ok (.bipush 14, 2) := by decide +kernel
theorem dX6_lays_208 : decode cX6_lays 208 = .ok (.iload_n 1, 1) := by decide +kernel
theorem dX6_lays_209 : decode cX6_lays 209 = .ok (.iadd, 1) := by decide +kernel
theorem dX6_lays_210 : decode cX6_lays 210 = .ok (.iaload, 1) := by decide +kernel
theorem dX6_lays_211 : decode cX6_lays 211 = .ok (.goto 4, 3) := by decide +kernel
theorem dX6_lays_214 : decode cX6_lays 214 = .ok (.iconst 0, 1) := by decide +kernel
theorem dX6_lays_215 : decode cX6_lays 215 = .ok (.iadd, 1) := by decide +kernel
theorem dX6_lays_216 : decode cX6_lays 216 = .ok (.istore 7, 2) := by decide +kernel
theorem dX6_lays_218 : decode cX6_lays 218 = .ok (.aload_n 0, 1) := by decide +kernel
theorem dX6_lays_219 : decode cX6_lays 219 = .ok (.getfield 45, 3) := by decide +kernel
theorem dX6_lays_222 : decode cX6_lays 222 = .ok (.iload 5, 2) := by decide +kernel
theorem dX6_lays_224 : decode cX6_lays 224 = .ok (.iload 7, 2) := by decide +kernel
theorem dX6_lays_226 : decode cX6_lays 226 = .ok (.aload_n 0, 1) := by decide +kernel
theorem dX6_lays_227 : decode cX6_lays 227 = .ok (.getfield 42, 3) := by decide +kernel
theorem dX6_lays_230 : decode cX6_lays 230 = .ok (.iload 5, 2) := by decide +kernel
theorem dX6_lays_232 : decode cX6_lays 232 = .ok (.iaload, 1) := by decide +kernel
theorem dX6_lays_233 : decode cX6_lays 233 = .ok (.iadd, 1) := by decide +kernel
theorem dX6_lays_234 : decode cX6_lays 234 = .ok (.bipush 10, 2) := by decide +kernel
theorem dX6_lays_236 : decode cX6_lays 236 = .ok (.irem, 1) := by decide +kernel
theorem dX6_lays_237 : decode cX6_lays 237 = .ok (.iastore, 1) := by decide +kernel
theorem dX6_lays_238 : decode cX6_lays 238 = .ok (.iinc 5 1, 3) := by decide +kernel
theorem dX6_lays_241 : decode cX6_lays 241 = .ok (.goto (-105), 3) := by decide +kernel
theorem dX6_lays_244 : decode cX6_lays 244 = .ok (.iconst 1, 1) := by decide +kernel
theorem dX6_lays_245 : decode cX6_lays 245 = .ok (.istore 5, 2) := by decide +kernel
theorem dX6_lays_247 : decode cX6_lays 247 = .ok (.iload 5, 2) := by decide +kernel
theorem dX6_lays_249 : decode cX6_lays 249 = .ok (.iconst 5, 1) := by decide +kernel
theorem dX6_lays_250 : decode cX6_lays 250 = .ok (.if_icmp .ge 82, 3) := by decide +kernel
theorem dX6_lays_253 : decode cX6_lays 253 = .ok (.iconst 0, 1) := by decide +kernel
theorem dX6_lays_254 : decode cX6_lays 254 = .ok (.istore 6, 2) := by decide +kernel
theorem dX6_lays_256 : decode cX6_lays 256 = .ok (.iload 6, 2) := by decide +kernel
theorem dX6_lays_258 : decode cX6_lays 258 = .ok (.bipush 20, 2) := by decide +kernel
theorem dX6_lays_260 : decode cX6_lays 260 = .ok (.if_icmp .ge 66, 3) := by decide +kernel
theorem dX6_lays_263 : decode cX6_lays 263 = .ok (.bipush 20, 2) := by decide +kernel
theorem dX6_lays_265 : decode cX6_lays 265 = .ok (.iload 5, 2) := by decide +kernel
theorem dX6_lays_267 : decode cX6_lays 267 = .ok (.imul, 1) := by decide +kernel
theorem dX6_lays_268 : decode cX6_lays 268 = .ok (.iload 6, 2) := by decide +kernel
theorem dX6_lays_270 : decode cX6_lays 270 = .ok (.iadd, 1) := by decide +kernel
theorem dX6_lays_271 : decode cX6_lays 271 = .ok (.istore 7, 2) := by decide +kernel
theorem dX6_lays_273 : decode cX6_lays 273 = .ok (.aload_n 0, 1) := by decide +kernel
theorem dX6_lays_274 : decode cX6_lays 274 = .ok (.getfield 45, 3) := by decide +kernel
theorem dX6_lays_277 : decode cX6_lays 277 = .ok (.iload 7, 2) := by decide +kernel
theorem dX6_lays_279 : decode cX6_lays 279 = .ok (.iload 6, 2) := by decide +kernel
theorem dX6_lays_281 : decode cX6_lays 281 = .ok (.iload 5, 2) := by decide +kernel
theorem dX6_lays_283 : decode cX6_lays 283 = .ok (.if_icmp .ge 8, 3) := by decide +kernel
theorem dX6_lays_286 : decode cX6_lays 286 = .ok (.bipush (-9), 2) := by decide +kernel
theorem dX6_lays_288 : decode cX6_lays 288 = .ok (.goto 31, 3) := by decide +kernel
theorem dX6_lays_291 : decode cX6_lays 291 = .ok (.iload 4, 2) := by decide +kernel
theorem dX6_lays_293 : decode cX6_lays 293 = .ok (.aload_n 0, 1) := by decide +kernel
theorem dX6_lays_294 : decode cX6_lays 294 = .ok (.getfield 45, 3) := by decide +kernel
theorem dX6_lays_297 : decode cX6_lays 297 = .ok (.iload 7, 2) := by decide +kernel
theorem dX6_lays_299 : decode cX6_lays 299 = .ok (.bipush 21, 2) := by decide +kernel
theorem dX6_lays_301 : decode cX6_lays 301 = .ok (.isub, 1) := by decide +kernel
theorem dX6_lays_302 : decode cX6_lays 302 = .ok (.iaload, 1) := by decide +kernel
theorem dX6_lays_303 : decode cX6_lays 303 = .ok (.iload 6, 2) := by decide +kernel
theorem dX6_lays_305 : decode cX6_lays 305 = .ok (.invokestatic 122, 3) := by decide +kernel
theorem dX6_lays_308 : decode cX6_lays 308 = .ok (.aload_n 0, 1) := by decide +kernel
theorem dX6_lays_309 : decode cX6_lays 309 = .ok (.getfield 42, 3) := by decide +kernel
theorem dX6_lays_312 : decode cX6_lays 312 = .ok (.iload 7, 2) := by decide +kernel
theorem dX6_lays_314 : decode cX6_lays 314 = .ok (.iaload, 1) := by decide +kernel
theorem dX6_lays_315 : decode cX6_lays 315 = .ok (.iadd, 1) := by decide +kernel
theorem dX6_lays_316 : decode cX6_lays 316 = .ok (.bipush 10, 2) := by decide +kernel
theorem dX6_lays_318 : decode cX6_lays 318 = .ok (.irem, 1) := by decide +kernel
theorem dX6_lays_319 : decode cX6_lays 319 = .ok (.iastore, 1) := by decide +kernel
theorem dX6_lays_320 : decode cX6_lays 320 = .ok (.iinc 6 1, 3) := by decide +kernel
theorem dX6_lays_323 : decode cX6_lays 323 = .ok (.goto (-67), 3) := by decide +kernel
theorem dX6_lays_326 : decode cX6_lays 326 = .ok (.iinc 5 1, 3) := by decide +kernel
theorem dX6_lays_329 : decode cX6_lays 329 = .ok (.goto (-82), 3) := by decide +kernel
theorem dX6_lays_332 : decode cX6_lays 332 = .ok (.return_, 1) := by decide +kernel
theorem dX6_beyond_0 : decode cX6_beyond 0 = .ok (.iload_n 0, 1) := by decide +kernel
theorem dX6_beyond_1 : decode cX6_beyond 1 = .ok (.tableswitch 68 1 5 #[35, 68, 53, 39, 58], 35) := by decide +kernel
theorem dX6_beyond_36 : decode cX6_beyond 36 = .ok (.iload_n 1, 1) := by decide +kernel
theorem dX6_beyond_37 : decode cX6_beyond 37 = .ok (.iconst 1, 1) := by decide +kernel
theorem dX6_beyond_38 : decode cX6_beyond 38 = .ok (.iadd, 1) := by decide +kernel
theorem dX6_beyond_39 : decode cX6_beyond 39 = .ok (.ireturn, 1) := by decide +kernel
theorem dX6_beyond_40 : decode cX6_beyond 40 = .ok (.iload_n 1, 1) := by decide +kernel
theorem dX6_beyond_41 : decode cX6_beyond 41 = .ok (.iload_n 2, 1) := by decide +kernel
theorem dX6_beyond_42 : decode cX6_beyond 42 = .ok (.iconst 3, 1) := by decide +kernel
theorem dX6_beyond_43 : decode cX6_beyond 43 = .ok (.irem, 1) := by decide +kernel
theorem dX6_beyond_44 : decode cX6_beyond 44 = .ok (.ifCond .ne 7, 3) := by decide +kernel
theorem dX6_beyond_47 : decode cX6_beyond 47 = .ok (.iconst 2, 1) := by decide +kernel
theorem dX6_beyond_48 : decode cX6_beyond 48 = .ok (.goto 4, 3) := by decide +kernel
theorem dX6_beyond_51 : decode cX6_beyond 51 = .ok (.iconst 1, 1) := by decide +kernel
theorem dX6_beyond_52 : decode cX6_beyond 52 = .ok (.iadd, 1) := by decide +kernel
theorem dX6_beyond_53 : decode cX6_beyond 53 = .ok (.ireturn, 1) := by decide +kernel
theorem dX6_beyond_54 : decode cX6_beyond 54 = .ok (.bipush 9, 2) := by decide +kernel
theorem dX6_beyond_56 : decode cX6_beyond 56 = .ok (.iload_n 1, 1) := by decide +kernel
theorem dX6_beyond_57 : decode cX6_beyond 57 = .ok (.isub, 1) := by decide +kernel
theorem dX6_beyond_58 : decode cX6_beyond 58 = .ok (.ireturn, 1) := by decide +kernel
theorem dX6_beyond_59 : decode cX6_beyond 59 = .ok (.iload_n 1, 1) := by decide +kernel
theorem dX6_beyond_60 : decode cX6_beyond 60 = .ok (.ifCond .ne 7, 3) := by decide +kernel
theorem dX6_beyond_63 : decode cX6_beyond 63 = .ok (.iconst 5, 1) := by decide +kernel
theorem dX6_beyond_64 : decode cX6_beyond 64 = .ok (.goto 4, 3) := by decide +kernel
theorem dX6_beyond_67 : decode cX6_beyond 67 = .ok (.iload_n 1, 1) := by decide +kernel
theorem dX6_beyond_68 : decode cX6_beyond 68 = .ok (.ireturn, 1) := by decide +kernel
theorem dX6_beyond_69 : decode cX6_beyond 69 = .ok (.iload_n 1, 1) := by decide +kernel
theorem dX6_beyond_70 : decode cX6_beyond 70 = .ok (.ireturn, 1) := by decide +kernel
theorem dX6_live_0 : decode cX6_live 0 = .ok (.iconst 0, 1) := by decide +kernel
theorem dX6_live_1 : decode cX6_live 1 = .ok (.istore_n 1, 1) := by decide +kernel
theorem dX6_live_2 : decode cX6_live 2 = .ok (.iconst 0, 1) := by decide +kernel
theorem dX6_live_3 : decode cX6_live 3 = .ok (.istore_n 2, 1) := by decide +kernel
theorem dX6_live_4 : decode cX6_live 4 = .ok (.iload_n 2, 1) := by decide +kernel
theorem dX6_live_5 : decode cX6_live 5 = .ok (.aload_n 0, 1) := by decide +kernel
theorem dX6_live_6 : decode cX6_live 6 = .ok (.getfield 22, 3) := by decide +kernel
theorem dX6_live_9 : decode cX6_live 9 = .ok (.iconst 1, 1) := by decide +kernel
theorem dX6_live_10 : decode cX6_live 10 = .ok (.iaload, 1) := by decide +kernel
theorem dX6_live_11 : decode cX6_live 11 = .ok (.if_icmp .ge 31, 3) := by decide +kernel
theorem dX6_live_14 : decode cX6_live 14 = .ok (.iload_n 1, 1) := by decide +kernel
theorem dX6_live_15 : decode cX6_live 15 = .ok (.aload_n 0, 1) := by decide +kernel
theorem dX6_live_16 : decode cX6_live 16 = .ok (.getfield 22, 3) := by decide +kernel
theorem dX6_live_19 : decode cX6_live 19 = .ok (.bipush 67, 2) := by decide +kernel
theorem dX6_live_21 : decode cX6_live 21 = .ok (.iload_n 2, 1) := by decide +kernel
theorem dX6_live_22 : decode cX6_live 22 = .ok (.iadd, 1) := by decide +kernel
theorem dX6_live_23 : decode cX6_live 23 = .ok (.iaload, 1) := by decide +kernel
theorem dX6_live_24 : decode cX6_live 24 = .ok (.ifCond .ne 9, 3) := by decide +kernel
theorem dX6_live_27 : decode cX6_live 27 = .ok (.iconst 1, 1) := by decide +kernel
theorem dX6_live_28 : decode cX6_live 28 = .ok (.iload_n 2, 1) := by decide +kernel
theorem dX6_live_29 : decode cX6_live 29 = .ok (.ishl, 1) := by decide +kernel
theorem dX6_live_30 : decode cX6_live 30 = .ok (.goto 4, 3) := by decide +kernel
theorem dX6_live_33 : decode cX6_live 33 = .ok (.iconst 0, 1) := by decide +kernel
theorem dX6_live_34 : decode cX6_live 34 = .ok (.ior, 1) := by decide +kernel
theorem dX6_live_35 : decode cX6_live 35 = .ok (.istore_n 1, 1) := by decide +kernel
theorem dX6_live_36 : decode cX6_live 36 = .ok (.iinc 2 1, 3) := by decide +kernel
theorem dX6_live_39 : decode cX6_live 39 = .ok (.goto (-35), 3) := by decide +kernel
theorem dX6_live_42 : decode cX6_live 42 = .ok (.iload_n 1, 1) := by decide +kernel
theorem dX6_live_43 : decode cX6_live 43 = .ok (.ireturn, 1) := by decide +kernel
set_option maxRecDepth 20000 in
theorem ggX6_layNow_X6_live : GoodIn wsX6_layNow wsX6_live := goodIn_r _ [5, 6, 22, 23, 24, 25, 26, 27, 28, 29, 30, 31, 32, 33, 34, 35, 36, 37, 38, 39] (by decide +kernel) (by decide +kernel)
set_option maxRecDepth 20000 in
theorem gX6_layNow_X6_live : GoodIn wsX6_layNow (wsV RX6 126 RX6 yX6_live wsX6_live) := goodIn_app (goodIn_of _ (by decide +kernel)) ggX6_layNow_X6_live
set_option maxRecDepth 20000 in
theorem ggX6_layNow_X6_lays : GoodIn wsX6_layNow wsX6_lays := goodIn_r _ [10, 11, 6, 12, 13, 14, 4, 15, 16, 17, 18, 19, 20, 21, 22, 23, 24, 25, 26, 27, 28, 29, 30, 31, 32, 33, 34, 35, 36, 37, 38, 39] (by decide +kernel) (by decide +kernel)
set_option maxRecDepth 20000 in
theorem gX6_layNow_X6_lays : GoodIn wsX6_layNow (wsV RX6 130 RX6 yX6_lays wsX6_lays) := goodIn_app (goodIn_of _ (by decide +kernel)) ggX6_layNow_X6_lays
theorem dX6_layNow_0 : decode cX6_layNow 0 = .ok (.aload_n 0, 1) := by decide +kernel
theorem dX6_layNow_1 : decode cX6_layNow 1 = .ok (.iload_n 1, 1) := by decide +kernel
theorem dX6_layNow_2 : decode cX6_layNow 2 = .ok (.aload_n 0, 1) := by decide +kernel
theorem dX6_layNow_3 : decode cX6_layNow 3 = .ok (.invokevirtual 126, 3) := by decide +kernel
theorem dX6_layNow_6 : decode cX6_layNow 6 = .ok (.iconst (-1), 1) := by decide +kernel
theorem dX6_layNow_7 : decode cX6_layNow 7 = .ok (.invokevirtual 130, 3) := by decide +kernel
theorem dX6_layNow_10 : decode cX6_layNow 10 = .ok (.return_, 1) := by decide +kernel
set_option maxRecDepth 20000 in
theorem ggX6_doing_X6_layNow : GoodIn wsX6_doing wsX6_layNow := goodIn_r _ [6, 7, 8, 9, 5, 10, 11, 12, 13, 14, 15, 16, 1, 17, 18, 19, 20, 21, 22, 23, 24, 25, 26, 27, 28, 29, 30, 31, 32, 33, 34, 35, 36, 37, 38, 39, 40, 41, 42, 43] (by decide +kernel) (by decide +kernel)
set_option maxRecDepth 20000 in
theorem gX6_doing_X6_layNow : GoodIn wsX6_doing (wsV RX6 134 RX6 yX6_layNow wsX6_layNow) := goodIn_app (goodIn_of _ (by decide +kernel)) ggX6_doing_X6_layNow
theorem dX6_doing_0 : decode cX6_doing 0 = .ok (.aload_n 0, 1) := by decide +kernel
theorem dX6_doing_1 : decode cX6_doing 1 = .ok (.iload_n 1, 1) := by decide +kernel
theorem dX6_doing_2 : decode cX6_doing 2 = .ok (.invokevirtual 134, 3) := by decide +kernel
theorem dX6_doing_5 : decode cX6_doing 5 = .ok (.aload_n 0, 1) := by decide +kernel
theorem dX6_doing_6 : decode cX6_doing 6 = .ok (.getfield 45, 3) := by decide +kernel
theorem dX6_doing_9 : decode cX6_doing 9 = .ok (.bipush 20, 2) := by decide +kernel
theorem dX6_doing_11 : decode cX6_doing 11 = .ok (.iload_n 2, 1) := by decide +kernel
theorem dX6_doing_12 : decode cX6_doing 12 = .ok (.imul, 1) := by decide +kernel
theorem dX6_doing_13 : decode cX6_doing 13 = .ok (.iload_n 3, 1) := by decide +kernel
theorem dX6_doing_14 : decode cX6_doing 14 = .ok (.iadd, 1) := by decide +kernel
theorem dX6_doing_15 : decode cX6_doing 15 = .ok (.iaload, 1) := by decide +kernel
theorem dX6_doing_16 : decode cX6_doing 16 = .ok (.ireturn, 1) := by decide +kernel
set_option maxRecDepth 20000 in
theorem ggX6_told_X6_doing : GoodIn wsX6_told wsX6_doing := goodIn_r _ [6, 7, 8, 9, 10, 5, 11, 12, 13, 14, 15, 1, 16, 17, 18, 19, 20, 21, 22, 23, 24, 25, 26, 27, 28, 29, 30, 31, 32, 33, 34, 35, 36, 37, 38, 39, 40, 41, 42, 43, 44, 45, 46, 47] (by decide +kernel) (by decide +kernel)
set_option maxRecDepth 20000 in
theorem gX6_told_X6_doing : GoodIn wsX6_told (wsV RX6 138 RX6 yX6_doing wsX6_doing) := goodIn_app (goodIn_of _ (by decide +kernel)) ggX6_told_X6_doing
theorem dX6_told_0 : decode cX6_told 0 = .ok (.iload_n 2, 1) := by decide +kernel
theorem dX6_told_1 : decode cX6_told 1 = .ok (.iconst 3, 1) := by decide +kernel
theorem dX6_told_2 : decode cX6_told 2 = .ok (.if_icmp .ge 18, 3) := by decide +kernel
theorem dX6_told_5 : decode cX6_told 5 = .ok (.aload_n 0, 1) := by decide +kernel
theorem dX6_told_6 : decode cX6_told 6 = .ok (.getfield 22, 3) := by decide +kernel
theorem dX6_told_9 : decode cX6_told 9 = .ok (.iconst 4, 1) := by decide +kernel
theorem dX6_told_10 : decode cX6_told 10 = .ok (.iconst 5, 1) := by decide +kernel
theorem dX6_told_11 : decode cX6_told 11 = .ok (.iload_n 2, 1) := by decide +kernel
theorem dX6_told_12 : decode cX6_told 12 = .ok (.imul, 1) := by decide +kernel
theorem dX6_told_13 : decode cX6_told 13 = .ok (.iadd, 1) := by decide +kernel
theorem dX6_told_14 : decode cX6_told 14 = .ok (.iload_n 1, 1) := by decide +kernel
theorem dX6_told_15 : decode cX6_told 15 = .ok (.iadd, 1) := by decide +kernel
theorem dX6_told_16 : decode cX6_told 16 = .ok (.iaload, 1) := by decide +kernel
theorem dX6_told_17 : decode cX6_told 17 = .ok (.goto 24, 3) := by decide +kernel
theorem dX6_told_20 : decode cX6_told 20 = .ok (.aload_n 0, 1) := by decide +kernel
theorem dX6_told_21 : decode cX6_told 21 = .ok (.iload_n 1, 1) := by decide +kernel
theorem dX6_told_22 : decode cX6_told 22 = .ok (.iload_n 2, 1) := by decide +kernel
theorem dX6_told_23 : decode cX6_told 23 = .ok (.iconst 3, 1) := by decide +kernel
theorem dX6_told_24 : decode cX6_told 24 = .ok (.if_icmp .ne 7, 3) := by decide +kernel
theorem dX6_told_27 : decode cX6_told 27 = .ok (.iconst 0, 1) := by decide +kernel
theorem dX6_told_28 : decode cX6_told 28 = .ok (.goto 4, 3) := by decide +kernel
theorem dX6_told_31 : decode cX6_told 31 = .ok (.iconst 4, 1) := by decide +kernel
theorem dX6_told_32 : decode cX6_told 32 = .ok (.aload_n 0, 1) := by decide +kernel
theorem dX6_told_33 : decode cX6_told 33 = .ok (.getfield 22, 3) := by decide +kernel
theorem dX6_told_36 : decode cX6_told 36 = .ok (.iconst 2, 1) := by decide +kernel
theorem dX6_told_37 : decode cX6_told 37 = .ok (.iaload, 1) := by decide +kernel
theorem dX6_told_38 : decode cX6_told 38 = .ok (.invokevirtual 138, 3) := by decide +kernel
theorem dX6_told_41 : decode cX6_told 41 = .ok (.ireturn, 1) := by decide +kernel
set_option maxRecDepth 20000 in
theorem ggX6_person_X6_isPerson : GoodIn wsX6_person wsX6_isPerson := goodIn_r _ [6, 7, 8, 9, 5, 10, 47, 48, 49, 50, 51, 52, 53, 54, 55, 56, 57, 58, 59, 60, 61, 62, 63, 64] (by decide +kernel) (by decide +kernel)
set_option maxRecDepth 20000 in
theorem gX6_person_X6_isPerson : GoodIn wsX6_person (wsV RX6 141 RX6 yX6_isPerson wsX6_isPerson) := goodIn_app (goodIn_of _ (by decide +kernel)) ggX6_person_X6_isPerson
set_option maxRecDepth 20000 in
theorem ggX6_person_X6_in : GoodIn wsX6_person wsX6_in := goodIn_r _ [10] (by decide +kernel) (by decide +kernel)
set_option maxRecDepth 20000 in
theorem gX6_person_X6_in : GoodIn wsX6_person (va_wsS RX6 63 yX6_in wsX6_in) := goodIn_app (goodIn_of _ (by decide +kernel)) ggX6_person_X6_in
set_option maxRecDepth 20000 in
theorem ggX6_person_X6_told : GoodIn wsX6_person wsX6_told := goodIn_r _ [14, 7, 15, 16, 17, 5, 18, 19, 20, 21, 22, 23, 24, 25, 26, 27, 28, 29, 30, 31, 32, 33, 34, 35, 36, 37, 38, 39, 40, 41, 47, 48, 49, 50, 51, 52, 53, 54, 55, 56, 57, 58, 59, 60, 61, 62, 63, 64] (by decide +kernel) (by decide +kernel)
set_option maxRecDepth 20000 in
theorem gX6_person_X6_told : GoodIn wsX6_person (wsV RX6 144 RX6 yX6_told wsX6_told) := goodIn_app (goodIn_of _ (by decide +kernel)) ggX6_person_X6_told
set_option maxRecDepth 20000 in
theorem ggX6_person_X6_tell : GoodIn wsX6_person wsX6_tell := goodIn_r _ [45, 46, 47, 48, 49, 50, 51, 52, 53, 54, 55, 56, 57, 58, 59, 60, 61, 62, 63, 64] (by decide +kernel) (by decide +kernel)
set_option maxRecDepth 20000 in
theorem gX6_person_X6_tell : GoodIn wsX6_person (wsV RX6 77 RX6 yX6_tell wsX6_tell) := goodIn_app (goodIn_of _ (by decide +kernel)) ggX6_person_X6_tell
theorem dX6_person_0 : decode cX6_person 0 = .ok (.aload_n 0, 1) := by decide +kernel
theorem dX6_person_1 : decode cX6_person 1 = .ok (.iload_n 1, 1) := by decide +kernel
theorem dX6_person_2 : decode cX6_person 2 = .ok (.invokevirtual 141, 3) := by decide +kernel
theorem dX6_person_5 : decode cX6_person 5 = .ok (.ifCond .eq 28, 3) := by decide +kernel
theorem dX6_person_8 : decode cX6_person 8 = .ok (.iload_n 2, 1) := by decide +kernel
theorem dX6_person_9 : decode cX6_person 9 = .ok (.i2l, 1) := by decide +kernel
theorem dX6_person_10 : decode cX6_person 10 = .ok (.lconst 0, 1) := by decide +kernel
theorem dX6_person_11 : decode cX6_person 11 = .ok (.ldc2_w 109, 3) := by decide +kernel
theorem dX6_person_14 : decode cX6_person 14 = .ok (.invokestatic 63, 3) := by decide +kernel
theorem dX6_person_17 : decode cX6_person 17 = .ok (.ifCond .eq 16, 3) := by decide +kernel
theorem dX6_person_20 : decode cX6_person 20 = .ok (.aload_n 0, 1) := by decide +kernel
theorem dX6_person_21 : decode cX6_person 21 = .ok (.aload_n 0, 1) := by decide +kernel
theorem dX6_person_22 : decode cX6_person 22 = .ok (.iload_n 1, 1) := by decide +kernel
theorem dX6_person_23 : decode cX6_person 23 = .ok (.iload_n 2, 1) := by decide +kernel
theorem dX6_person_24 : decode cX6_person 24 = .ok (.invokevirtual 144, 3) := by decide +kernel
theorem dX6_person_27 : decode cX6_person 27 = .ok (.invokevirtual 77, 3) := by decide +kernel
theorem dX6_person_30 : decode cX6_person 30 = .ok (.goto 4, 3) := by decide +kernel
theorem dX6_person_33 : decode cX6_person 33 = .ok (.iconst (-1), 1) := by decide +kernel
theorem dX6_person_34 : decode cX6_person 34 = .ok (.ireturn, 1) := by decide +kernel
set_option maxRecDepth 20000 in
theorem ggX6_error_X6_isError : GoodIn wsX6_error wsX6_isError := goodIn_r _ [7, 2, 8, 9, 6, 10, 16, 17, 18, 19, 20, 21, 22, 23, 24, 25, 26, 27, 28, 29, 30, 31, 32, 33] (by decide +kernel) (by decide +kernel)
set_option maxRecDepth 20000 in
theorem gX6_error_X6_isError : GoodIn wsX6_error (wsV RX6 148 RX6 yX6_isError wsX6_isError) := goodIn_app (goodIn_of _ (by decide +kernel)) ggX6_error_X6_isError
set_option maxRecDepth 20000 in
theorem ggX6_error_X6_in : GoodIn wsX6_error wsX6_in := goodIn_r _ [10] (by decide +kernel) (by decide +kernel)
set_option maxRecDepth 20000 in
theorem gX6_error_X6_in : GoodIn wsX6_error (va_wsS RX6 63 yX6_in wsX6_in) := goodIn_app (goodIn_of _ (by decide +kernel)) ggX6_error_X6_in
set_option maxRecDepth 20000 in
theorem ggX6_error_X6_tell : GoodIn wsX6_error wsX6_tell := goodIn_r _ [14, 15, 16, 17, 18, 19, 20, 21, 22, 23, 24, 25, 26, 27, 28, 29, 30, 31, 32, 33] (by decide +kernel) (by decide +kernel)
set_option maxRecDepth 20000 in
theorem gX6_error_X6_tell : GoodIn wsX6_error (wsV RX6 77 RX6 yX6_tell wsX6_tell) := goodIn_app (goodIn_of _ (by decide +kernel)) ggX6_error_X6_tell
theorem dX6_error_0 : decode cX6_error 0 = .ok (.aload_n 0, 1) := by decide +kernel
theorem dX6_error_1 : decode cX6_error 1 = .ok (.iload_n 1, 1) := by decide +kernel
theorem dX6_error_2 : decode cX6_error 2 = .ok (.invokevirtual 148, 3) := by decide +kernel
theorem dX6_error_5 : decode cX6_error 5 = .ok (.ifCond .eq 36, 3) := by decide +kernel
theorem dX6_error_8 : decode cX6_error 8 = .ok (.iload_n 2, 1) := by decide +kernel
theorem dX6_error_9 : decode cX6_error 9 = .ok (.i2l, 1) := by decide +kernel
theorem dX6_error_10 : decode cX6_error 10 = .ok (.lconst 0, 1) := by decide +kernel
theorem dX6_error_11 : decode cX6_error 11 = .ok (.ldc2_w 109, 3) := by decide +kernel
theorem dX6_error_14 : decode cX6_error 14 = .ok (.invokestatic 63, 3) := by decide +kernel
theorem dX6_error_17 : decode cX6_error 17 = .ok (.ifCond .eq 24, 3) := by decide +kernel
theorem dX6_error_20 : decode cX6_error 20 = .ok (.aload_n 0, 1) := by decide +kernel
theorem dX6_error_21 : decode cX6_error 21 = .ok (.aload_n 0, 1) := by decide +kernel
theorem dX6_error_22 : decode cX6_error 22 = .ok (.getfield 22, 3) := by decide +kernel
theorem dX6_error_25 : decode cX6_error 25 = .ok (.bipush 19, 2) := by decide +kernel
theorem dX6_error_27 : decode cX6_error 27 = .ok (.bipush 12, 2) := by decide +kernel
theorem dX6_error_29 : decode cX6_error 29 = .ok (.iload_n 2, 1) := by decide +kernel
theorem dX6_error_30 : decode cX6_error 30 = .ok (.imul, 1) := by decide +kernel
theorem dX6_error_31 : decode cX6_error 31 = .ok (.iadd, 1) := by decide +kernel
theorem dX6_error_32 : decode cX6_error 32 = .ok (.iload_n 1, 1) := by decide +kernel
theorem dX6_error_33 : decode cX6_error 33 = .ok (.iadd, 1) := by decide +kernel
theorem dX6_error_34 : decode cX6_error 34 = .ok (.iaload, 1) := by decide +kernel
theorem dX6_error_35 : decode cX6_error 35 = .ok (.invokevirtual 77, 3) := by decide +kernel
theorem dX6_error_38 : decode cX6_error 38 = .ok (.goto 4, 3) := by decide +kernel
theorem dX6_error_41 : decode cX6_error 41 = .ok (.iconst (-1), 1) := by decide +kernel
theorem dX6_error_42 : decode cX6_error 42 = .ok (.ireturn, 1) := by decide +kernel
set_option maxRecDepth 20000 in
theorem ggX6_mark_X6_isPerson : GoodIn wsX6_mark wsX6_isPerson := goodIn_r _ [8, 2, 9, 10, 7, 11, 44, 45, 46, 47, 48, 49, 50, 51, 52, 53, 54, 55, 56, 57, 58, 59, 60, 61] (by decide +kernel) (by decide +kernel)
set_option maxRecDepth 20000 in
theorem gX6_mark_X6_isPerson : GoodIn wsX6_mark (wsV RX6 141 RX6 yX6_isPerson wsX6_isPerson) := goodIn_app (goodIn_of _ (by decide +kernel)) ggX6_mark_X6_isPerson
set_option maxRecDepth 20000 in
theorem ggX6_mark_X6_in : GoodIn wsX6_mark wsX6_in := goodIn_r _ [11] (by decide +kernel) (by decide +kernel)
set_option maxRecDepth 20000 in
theorem gX6_mark_X6_in : GoodIn wsX6_mark (va_wsS RX6 63 yX6_in wsX6_in) := goodIn_app (goodIn_of _ (by decide +kernel)) ggX6_mark_X6_in
set_option maxRecDepth 20000 in
theorem ggX6_mark_X6_isOf : GoodIn wsX6_mark wsX6_isOf := goodIn_r _ [14] (by decide +kernel) (by decide +kernel)
set_option maxRecDepth 20000 in
theorem gX6_mark_X6_isOf : GoodIn wsX6_mark (va_wsS RX6 119 yX6_isOf wsX6_isOf) := goodIn_app (goodIn_of _ (by decide +kernel)) ggX6_mark_X6_isOf
set_option maxRecDepth 20000 in
theorem ggX6_mark_X6_found : GoodIn wsX6_mark wsX6_found := goodIn_r _ [18, 19, 20, 44, 45, 46, 47, 48, 49, 50, 51, 52, 53, 54, 55, 56, 57, 58, 59, 60, 61] (by decide +kernel) (by decide +kernel)
set_option maxRecDepth 20000 in
theorem gX6_mark_X6_found : GoodIn wsX6_mark (wsV RX6 73 RX6 yX6_found wsX6_found) := goodIn_app (goodIn_of _ (by decide +kernel)) ggX6_mark_X6_found
set_option maxRecDepth 20000 in
theorem ggX6_mark_X6_layNow : GoodIn wsX6_mark wsX6_layNow := goodIn_r _ [24, 25, 26, 27, 7, 28, 2, 29, 30, 31, 32, 33, 3, 34, 35, 36, 12, 13, 14, 37, 38, 39, 44, 45, 46, 47, 48, 49, 50, 51, 52, 53, 54, 55, 56, 57, 58, 59, 60, 61] (by decide +kernel) (by decide +kernel)
set_option maxRecDepth 20000 in
theorem gX6_mark_X6_layNow : GoodIn wsX6_mark (wsV RX6 134 RX6 yX6_layNow wsX6_layNow) := goodIn_app (goodIn_of _ (by decide +kernel)) ggX6_mark_X6_layNow
set_option maxRecDepth 20000 in
theorem ggX6_mark_X6_doing : GoodIn wsX6_mark wsX6_doing := goodIn_r _ [43, 3, 21, 22, 23, 7, 24, 25, 26, 27, 28, 2, 29, 30, 31, 32, 33, 34, 35, 36, 12, 13, 14, 37, 38, 39, 44, 45, 46, 47, 48, 49, 50, 51, 52, 53, 54, 55, 56, 57, 58, 59, 60, 61] (by decide +kernel) (by decide +kernel)
set_option maxRecDepth 20000 in
theorem gX6_mark_X6_doing : GoodIn wsX6_mark (wsV RX6 138 RX6 yX6_doing wsX6_doing) := goodIn_app (goodIn_of _ (by decide +kernel)) ggX6_mark_X6_doing
theorem dX6_mark_0 : decode cX6_mark 0 = .ok (.aload_n 0, 1) := by decide +kernel
theorem dX6_mark_1 : decode cX6_mark 1 = .ok (.iload_n 1, 1) := by decide +kernel
theorem dX6_mark_2 : decode cX6_mark 2 = .ok (.invokevirtual 141, 3) := by decide +kernel
theorem dX6_mark_5 : decode cX6_mark 5 = .ok (.ifCond .eq 15, 3) := by decide +kernel
theorem dX6_mark_8 : decode cX6_mark 8 = .ok (.iload_n 2, 1) := by decide +kernel
theorem dX6_mark_9 : decode cX6_mark 9 = .ok (.i2l, 1) := by decide +kernel
theorem dX6_mark_10 : decode cX6_mark 10 = .ok (.lconst 1, 1) := by decide +kernel
theorem dX6_mark_11 : decode cX6_mark 11 = .ok (.ldc2_w 61, 3) := by decide +kernel
theorem dX6_mark_14 : decode cX6_mark 14 = .ok (.invokestatic 63, 3) := by decide +kernel
theorem dX6_mark_17 : decode cX6_mark 17 = .ok (.ifCond .ne 5, 3) := by decide +kernel
theorem dX6_mark_20 : decode cX6_mark 20 = .ok (.iconst (-1), 1) := by decide +kernel
theorem dX6_mark_21 : decode cX6_mark 21 = .ok (.ireturn, 1) := by decide +kernel
theorem dX6_mark_22 : decode cX6_mark 22 = .ok (.aload_n 0, 1) := by decide +kernel
theorem dX6_mark_23 : decode cX6_mark 23 = .ok (.getfield 22, 3) := by decide +kernel
theorem dX6_mark_26 : decode cX6_mark 26 = .ok (.iconst 4, 1) := by decide +kernel
theorem dX6_mark_27 : decode cX6_mark 27 = .ok (.iload_n 1, 1) := by decide +kernel
theorem dX6_mark_28 : decode cX6_mark 28 = .ok (.iadd, 1) := by decide +kernel
theorem dX6_mark_29 : decode cX6_mark 29 = .ok (.iaload, 1) := by decide +kernel
theorem dX6_mark_30 : decode cX6_mark 30 = .ok (.iload_n 2, 1) := by decide +kernel
theorem dX6_mark_31 : decode cX6_mark 31 = .ok (.invokestatic 119, 3) := by decide +kernel
theorem dX6_mark_34 : decode cX6_mark 34 = .ok (.ifCond .ne 9, 3) := by decide +kernel
theorem dX6_mark_37 : decode cX6_mark 37 = .ok (.aload_n 0, 1) := by decide +kernel
theorem dX6_mark_38 : decode cX6_mark 38 = .ok (.iconst 3, 1) := by decide +kernel
theorem dX6_mark_39 : decode cX6_mark 39 = .ok (.invokevirtual 73, 3) := by decide +kernel
theorem dX6_mark_42 : decode cX6_mark 42 = .ok (.ireturn, 1) := by decide +kernel
theorem dX6_mark_43 : decode cX6_mark 43 = .ok (.aload_n 0, 1) := by decide +kernel
theorem dX6_mark_44 : decode cX6_mark 44 = .ok (.iload_n 1, 1) := by decide +kernel
theorem dX6_mark_45 : decode cX6_mark 45 = .ok (.invokevirtual 134, 3) := by decide +kernel
theorem dX6_mark_48 : decode cX6_mark 48 = .ok (.iconst 0, 1) := by decide +kernel
theorem dX6_mark_49 : decode cX6_mark 49 = .ok (.istore_n 3, 1) := by decide +kernel
theorem dX6_mark_50 : decode cX6_mark 50 = .ok (.iload_n 2, 1) := by decide +kernel
theorem dX6_mark_51 : decode cX6_mark 51 = .ok (.tableswitch 211 1 4 #[29, 51, 96, 144], 29) := by decide +kernel
theorem dX6_mark_80 : decode cX6_mark 80 = .ok (.aload_n 0, 1) := by decide +kernel
theorem dX6_mark_81 : decode cX6_mark 81 = .ok (.getfield 45, 3) := by decide +kernel
theorem dX6_mark_84 : decode cX6_mark 84 = .ok (.bipush 99, 2) := by decide +kernel
theorem dX6_mark_86 : decode cX6_mark 86 = .ok (.iaload, 1) := by decide +kernel
theorem dX6_mark_87 : decode cX6_mark 87 = .ok (.aload_n 0, 1) := by decide +kernel
theorem dX6_mark_88 : decode cX6_mark 88 = .ok (.getfield 45, 3) := by decide +kernel
theorem dX6_mark_91 : decode cX6_mark 91 = .ok (.bipush 15, 2) := by decide +kernel
theorem dX6_mark_93 : decode cX6_mark 93 = .ok (.iaload, 1) := by decide +kernel
theorem dX6_mark_94 : decode cX6_mark 94 = .ok (.isub, 1) := by decide +kernel
theorem dX6_mark_95 : decode cX6_mark 95 = .ok (.bipush 10, 2) := by decide +kernel
theorem dX6_mark_97 : decode cX6_mark 97 = .ok (.iadd, 1) := by decide +kernel
theorem dX6_mark_98 : decode cX6_mark 98 = .ok (.bipush 10, 2) := by decide +kernel
theorem dX6_mark_100 : decode cX6_mark 100 = .ok (.irem, 1) := by decide +kernel
theorem dX6_mark_101 : decode cX6_mark 101 = .ok (.ireturn, 1) := by decide +kernel
theorem dX6_mark_102 : decode cX6_mark 102 = .ok (.iconst 1, 1) := by decide +kernel
theorem dX6_mark_103 : decode cX6_mark 103 = .ok (.istore 4, 2) := by decide +kernel
theorem dX6_mark_105 : decode cX6_mark 105 = .ok (.iload 4, 2) := by decide +kernel
theorem dX6_mark_107 : decode cX6_mark 107 = .ok (.bipush 20, 2) := by decide +kernel
theorem dX6_mark_109 : decode cX6_mark 109 = .ok (.if_icmp .ge 36, 3) := by decide +kernel
theorem dX6_mark_112 : decode cX6_mark 112 = .ok (.iload_n 3, 1) := by decide +kernel
theorem dX6_mark_113 : decode cX6_mark 113 = .ok (.aload_n 0, 1) := by decide +kernel
theorem dX6_mark_114 : decode cX6_mark 114 = .ok (.getfield 45, 3) := by decide +kernel
theorem dX6_mark_117 : decode cX6_mark 117 = .ok (.iload 4, 2) := by decide +kernel
theorem dX6_mark_119 : decode cX6_mark 119 = .ok (.iaload, 1) := by decide +kernel
theorem dX6_mark_120 : decode cX6_mark 120 = .ok (.aload_n 0, 1) := by decide +kernel
theorem dX6_mark_121 : decode cX6_mark 121 = .ok (.getfield 45, 3) := by decide +kernel
theorem dX6_mark_124 : decode cX6_mark 124 = .ok (.iload 4, 2) := by decide +kernel
theorem dX6_mark_126 : decode cX6_mark 126 = .ok (.iconst 1, 1) := by decide +kernel
theorem dX6_mark_127 : decode cX6_mark 127 = .ok (.isub, 1) := by decide +kernel
theorem dX6_mark_128 : decode cX6_mark 128 = .ok (.iaload, 1) := by decide +kernel
theorem dX6_mark_129 : decode cX6_mark 129 = .ok (.if_icmp .ne 7, 3) := by decide +kernel
theorem dX6_mark_132 : decode cX6_mark 132 = .ok (.iconst 1, 1) := by decide +kernel
theorem dX6_mark_133 : decode cX6_mark 133 = .ok (.goto 4, 3) := by decide +kernel
theorem dX6_mark_136 : decode cX6_mark 136 = .ok (.iconst 0, 1) := by decide +kernel
theorem dX6_mark_137 : decode cX6_mark 137 = .ok (.iadd, 1) := by decide +kernel
theorem dX6_mark_138 : decode cX6_mark 138 = .ok (.istore_n 3, 1) := by decide +kernel
theorem dX6_mark_139 : decode cX6_mark 139 = .ok (.iinc 4 1, 3) := by decide +kernel
theorem dX6_mark_142 : decode cX6_mark 142 = .ok (.goto (-37), 3) := by decide +kernel
theorem dX6_mark_145 : decode cX6_mark 145 = .ok (.iload_n 3, 1) := by decide +kernel
theorem dX6_mark_146 : decode cX6_mark 146 = .ok (.ireturn, 1) := by decide +kernel
theorem dX6_mark_147 : decode cX6_mark 147 = .ok (.iconst 1, 1) := by decide +kernel
theorem dX6_mark_148 : decode cX6_mark 148 = .ok (.istore 4, 2) := by decide +kernel
theorem dX6_mark_150 : decode cX6_mark 150 = .ok (.iload 4, 2) := by decide +kernel
theorem dX6_mark_152 : decode cX6_mark 152 = .ok (.iconst 5, 1) := by decide +kernel
theorem dX6_mark_153 : decode cX6_mark 153 = .ok (.if_icmp .ge 40, 3) := by decide +kernel
theorem dX6_mark_156 : decode cX6_mark 156 = .ok (.iload_n 3, 1) := by decide +kernel
theorem dX6_mark_157 : decode cX6_mark 157 = .ok (.aload_n 0, 1) := by decide +kernel
theorem dX6_mark_158 : decode cX6_mark 158 = .ok (.getfield 45, 3) := by decide +kernel
theorem dX6_mark_161 : decode cX6_mark 161 = .ok (.bipush 20, 2) := by decide +kernel
theorem dX6_mark_163 : decode cX6_mark 163 = .ok (.iload 4, 2) := by decide +kernel
theorem dX6_mark_165 : decode cX6_mark 165 = .ok (.imul, 1) := by decide +kernel
theorem dX6_mark_166 : decode cX6_mark 166 = .ok (.bipush 19, 2) := by decide +kernel
theorem dX6_mark_168 : decode cX6_mark 168 = .ok (.iadd, 1) := by decide +kernel
theorem dX6_mark_169 : decode cX6_mark 169 = .ok (.iaload, 1) := by decide +kernel
theorem dX6_mark_170 : decode cX6_mark 170 = .ok (.aload_n 0, 1) := by decide +kernel
theorem dX6_mark_171 : decode cX6_mark 171 = .ok (.getfield 45, 3) := by decide +kernel
theorem dX6_mark_174 : decode cX6_mark 174 = .ok (.bipush 19, 2) := by decide +kernel
theorem dX6_mark_176 : decode cX6_mark 176 = .ok (.iaload, 1) := by decide +kernel
theorem dX6_mark_177 : decode cX6_mark 177 = .ok (.if_icmp .ne 7, 3) := by decide +kernel
theorem dX6_mark_180 : decode cX6_mark 180 = .ok (.iconst 1, 1) := by decide +kernel
theorem dX6_mark_181 : decode cX6_mark 181 = .ok (.goto 4, 3) := by decide +kernel
theorem dX6_mark_184 : decode cX6_mark 184 = .ok (.iconst 0, 1) := by decide +kernel
theorem dX6_mark_185 : decode cX6_mark 185 = .ok (.iadd, 1) := by decide +kernel
theorem dX6_mark_186 : decode cX6_mark 186 = .ok (.istore_n 3, 1) := by decide +kernel
theorem dX6_mark_187 : decode cX6_mark 187 = .ok (.iinc 4 1, 3) := by decide +kernel
theorem dX6_mark_190 : decode cX6_mark 190 = .ok (.goto (-40), 3) := by decide +kernel
theorem dX6_mark_193 : decode cX6_mark 193 = .ok (.iload_n 3, 1) := by decide +kernel
theorem dX6_mark_194 : decode cX6_mark 194 = .ok (.ireturn, 1) := by decide +kernel
theorem dX6_mark_195 : decode cX6_mark 195 = .ok (.aload_n 0, 1) := by decide +kernel
theorem dX6_mark_196 : decode cX6_mark 196 = .ok (.getfield 45, 3) := by decide +kernel
theorem dX6_mark_199 : decode cX6_mark 199 = .ok (.aload_n 0, 1) := by decide +kernel
theorem dX6_mark_200 : decode cX6_mark 200 = .ok (.getfield 22, 3) := by decide +kernel
theorem dX6_mark_203 : decode cX6_mark 203 = .ok (.iconst 2, 1) := by decide +kernel
theorem dX6_mark_204 : decode cX6_mark 204 = .ok (.iaload, 1) := by decide +kernel
theorem dX6_mark_205 : decode cX6_mark 205 = .ok (.iaload, 1) := by decide +kernel
theorem dX6_mark_206 : decode cX6_mark 206 = .ok (.istore 4, 2) := by decide +kernel
theorem dX6_mark_208 : decode cX6_mark 208 = .ok (.iconst 0, 1) := by decide +kernel
theorem dX6_mark_209 : decode cX6_mark 209 = .ok (.istore 5, 2) := by decide +kernel
theorem dX6_mark_211 : decode cX6_mark 211 = .ok (.iload 5, 2) := by decide +kernel
theorem dX6_mark_213 : decode cX6_mark 213 = .ok (.aload_n 0, 1) := by decide +kernel
theorem dX6_mark_214 : decode cX6_mark 214 = .ok (.getfield 22, 3) := by decide +kernel
theorem dX6_mark_217 : decode cX6_mark 217 = .ok (.iconst 0, 1) := by decide +kernel
theorem dX6_mark_218 : decode cX6_mark 218 = .ok (.iaload, 1) := by decide +kernel
theorem dX6_mark_219 : decode cX6_mark 219 = .ok (.if_icmp .ge 41, 3) := by decide +kernel
theorem dX6_mark_222 : decode cX6_mark 222 = .ok (.iload_n 3, 1) := by decide +kernel
theorem dX6_mark_223 : decode cX6_mark 223 = .ok (.iload 5, 2) := by decide +kernel
theorem dX6_mark_225 : decode cX6_mark 225 = .ok (.iload_n 1, 1) := by decide +kernel
theorem dX6_mark_226 : decode cX6_mark 226 = .ok (.if_icmp .eq 25, 3) := by decide +kernel
theorem dX6_mark_229 : decode cX6_mark 229 = .ok (.aload_n 0, 1) := by decide +kernel
theorem dX6_mark_230 : decode cX6_mark 230 = .ok (.iload 5, 2) := by decide +kernel
theorem dX6_mark_232 : decode cX6_mark 232 = .ok (.iconst 0, 1) := by decide +kernel
theorem dX6_mark_233 : decode cX6_mark 233 = .ok (.aload_n 0, 1) := by decide +kernel
theorem dX6_mark_234 : decode cX6_mark 234 = .ok (.getfield 22, 3) := by decide +kernel
theorem dX6_mark_237 : decode cX6_mark 237 = .ok (.iconst 2, 1) := by decide +kernel
theorem dX6_mark_238 : decode cX6_mark 238 = .ok (.iaload, 1) := by decide +kernel
theorem dX6_mark_239 : decode cX6_mark 239 = .ok (.invokevirtual 138, 3) := by decide +kernel
theorem dX6_mark_242 : decode cX6_mark 242 = .ok (.iload 4, 2) := by decide +kernel
theorem dX6_mark_244 : decode cX6_mark 244 = .ok (.if_icmp .ne 7, 3) := by decide +kernel
theorem dX6_mark_247 : decode cX6_mark 247 = .ok (.iconst 1, 1) := by decide +kernel
theorem dX6_mark_248 : decode cX6_mark 248 = .ok (.goto 4, 3) := by decide +kernel
theorem dX6_mark_251 : decode cX6_mark 251 = .ok (.iconst 0, 1) := by decide +kernel
theorem dX6_mark_252 : decode cX6_mark 252 = .ok (.iadd, 1) := by decide +kernel
theorem dX6_mark_253 : decode cX6_mark 253 = .ok (.istore_n 3, 1) := by decide +kernel
theorem dX6_mark_254 : decode cX6_mark 254 = .ok (.iinc 5 1, 3) := by decide +kernel
theorem dX6_mark_257 : decode cX6_mark 257 = .ok (.goto (-46), 3) := by decide +kernel
theorem dX6_mark_260 : decode cX6_mark 260 = .ok (.iload_n 3, 1) := by decide +kernel
theorem dX6_mark_261 : decode cX6_mark 261 = .ok (.ireturn, 1) := by decide +kernel
theorem dX6_mark_262 : decode cX6_mark 262 = .ok (.iconst 0, 1) := by decide +kernel
theorem dX6_mark_263 : decode cX6_mark 263 = .ok (.istore 5, 2) := by decide +kernel
theorem dX6_mark_265 : decode cX6_mark 265 = .ok (.iload 5, 2) := by decide +kernel
theorem dX6_mark_267 : decode cX6_mark 267 = .ok (.bipush 20, 2) := by decide +kernel
theorem dX6_mark_269 : decode cX6_mark 269 = .ok (.if_icmp .ge 27, 3) := by decide +kernel
theorem dX6_mark_272 : decode cX6_mark 272 = .ok (.iload_n 3, 1) := by decide +kernel
theorem dX6_mark_273 : decode cX6_mark 273 = .ok (.aload_n 0, 1) := by decide +kernel
theorem dX6_mark_274 : decode cX6_mark 274 = .ok (.getfield 45, 3) := by decide +kernel
theorem dX6_mark_277 : decode cX6_mark 277 = .ok (.iload 5, 2) := by decide +kernel
theorem dX6_mark_279 : decode cX6_mark 279 = .ok (.iaload, 1) := by decide +kernel
theorem dX6_mark_280 : decode cX6_mark 280 = .ok (.ifCond .ne 7, 3) := by decide +kernel
theorem dX6_mark_283 : decode cX6_mark 283 = .ok (.iconst 1, 1) := by decide +kernel
theorem dX6_mark_284 : decode cX6_mark 284 = .ok (.goto 4, 3) := by decide +kernel
theorem dX6_mark_287 : decode cX6_mark 287 = .ok (.iconst 0, 1) := by decide +kernel
theorem dX6_mark_288 : decode cX6_mark 288 = .ok (.iadd, 1) := by decide +kernel
theorem dX6_mark_289 : decode cX6_mark 289 = .ok (.istore_n 3, 1) := by decide +kernel
theorem dX6_mark_290 : decode cX6_mark 290 = .ok (.iinc 5 1, 3) := by decide +kernel
theorem dX6_mark_293 : decode cX6_mark 293 = .ok (.goto (-28), 3) := by decide +kernel
theorem dX6_mark_296 : decode cX6_mark 296 = .ok (.iload_n 3, 1) := by decide +kernel
theorem dX6_mark_297 : decode cX6_mark 297 = .ok (.ireturn, 1) := by decide +kernel
set_option maxRecDepth 20000 in
theorem ggX6_stride_X6_isPerson : GoodIn wsX6_stride wsX6_isPerson := goodIn_r _ [6, 1, 7, 8, 5, 9, 14, 15, 16, 17, 18, 19, 20, 21, 22, 23, 24, 25, 26, 27, 28, 29, 30, 31] (by decide +kernel) (by decide +kernel)
set_option maxRecDepth 20000 in
theorem gX6_stride_X6_isPerson : GoodIn wsX6_stride (wsV RX6 141 RX6 yX6_isPerson wsX6_isPerson) := goodIn_app (goodIn_of _ (by decide +kernel)) ggX6_stride_X6_isPerson
set_option maxRecDepth 20000 in
theorem ggX6_stride_X6_isDeed : GoodIn wsX6_stride wsX6_isDeed := goodIn_r _ [12, 13, 7, 8, 5, 9] (by decide +kernel) (by decide +kernel)
set_option maxRecDepth 20000 in
theorem gX6_stride_X6_isDeed : GoodIn wsX6_stride (va_wsS RX6 151 yX6_isDeed wsX6_isDeed) := goodIn_app (goodIn_of _ (by decide +kernel)) ggX6_stride_X6_isDeed
theorem dX6_stride_0 : decode cX6_stride 0 = .ok (.aload_n 0, 1) := by decide +kernel
theorem dX6_stride_1 : decode cX6_stride 1 = .ok (.iload_n 1, 1) := by decide +kernel
theorem dX6_stride_2 : decode cX6_stride 2 = .ok (.invokevirtual 141, 3) := by decide +kernel
theorem dX6_stride_5 : decode cX6_stride 5 = .ok (.ifCond .eq 10, 3) := by decide +kernel
theorem dX6_stride_8 : decode cX6_stride 8 = .ok (.iload_n 2, 1) := by decide +kernel
theorem dX6_stride_9 : decode cX6_stride 9 = .ok (.invokestatic 151, 3) := by decide +kernel
theorem dX6_stride_12 : decode cX6_stride 12 = .ok (.ifCond .ne 5, 3) := by decide +kernel
theorem dX6_stride_15 : decode cX6_stride 15 = .ok (.iconst (-1), 1) := by decide +kernel
theorem dX6_stride_16 : decode cX6_stride 16 = .ok (.ireturn, 1) := by decide +kernel
theorem dX6_stride_17 : decode cX6_stride 17 = .ok (.aload_n 0, 1) := by decide +kernel
theorem dX6_stride_18 : decode cX6_stride 18 = .ok (.getfield 22, 3) := by decide +kernel
theorem dX6_stride_21 : decode cX6_stride 21 = .ok (.iconst 3, 1) := by decide +kernel
theorem dX6_stride_22 : decode cX6_stride 22 = .ok (.iaload, 1) := by decide +kernel
theorem dX6_stride_23 : decode cX6_stride 23 = .ok (.ifCond .le 6, 3) := by decide +kernel
theorem dX6_stride_26 : decode cX6_stride 26 = .ok (.bipush (-4), 2) := by decide +kernel
theorem dX6_stride_28 : decode cX6_stride 28 = .ok (.ireturn, 1) := by decide +kernel
theorem dX6_stride_29 : decode cX6_stride 29 = .ok (.aload_n 0, 1) := by decide +kernel
theorem dX6_stride_30 : decode cX6_stride 30 = .ok (.getfield 22, 3) := by decide +kernel
theorem dX6_stride_33 : decode cX6_stride 33 = .ok (.bipush 14, 2) := by decide +kernel
theorem dX6_stride_35 : decode cX6_stride 35 = .ok (.iload_n 1, 1) := by decide +kernel
theorem dX6_stride_36 : decode cX6_stride 36 = .ok (.iadd, 1) := by decide +kernel
theorem dX6_stride_37 : decode cX6_stride 37 = .ok (.iaload, 1) := by decide +kernel
theorem dX6_stride_38 : decode cX6_stride 38 = .ok (.istore_n 3, 1) := by decide +kernel
theorem dX6_stride_39 : decode cX6_stride 39 = .ok (.aload_n 0, 1) := by decide +kernel
theorem dX6_stride_40 : decode cX6_stride 40 = .ok (.getfield 22, 3) := by decide +kernel
theorem dX6_stride_43 : decode cX6_stride 43 = .ok (.bipush 14, 2) := by decide +kernel
theorem dX6_stride_45 : decode cX6_stride 45 = .ok (.iload_n 1, 1) := by decide +kernel
theorem dX6_stride_46 : decode cX6_stride 46 = .ok (.iadd, 1) := by decide +kernel
theorem dX6_stride_47 : decode cX6_stride 47 = .ok (.iload_n 2, 1) := by decide +kernel
theorem dX6_stride_48 : decode cX6_stride 48 = .ok (.iastore, 1) := by decide +kernel
theorem dX6_stride_49 : decode cX6_stride 49 = .ok (.iload_n 3, 1) := by decide +kernel
theorem dX6_stride_50 : decode cX6_stride 50 = .ok (.ireturn, 1) := by decide +kernel
theorem dX6_turns_0 : decode cX6_turns 0 = .ok (.aload_n 0, 1) := by decide +kernel
theorem dX6_turns_1 : decode cX6_turns 1 = .ok (.getfield 22, 3) := by decide +kernel
theorem dX6_turns_4 : decode cX6_turns 4 = .ok (.bipush 79, 2) := by decide +kernel
theorem dX6_turns_6 : decode cX6_turns 6 = .ok (.aload_n 0, 1) := by decide +kernel
theorem dX6_turns_7 : decode cX6_turns 7 = .ok (.getfield 22, 3) := by decide +kernel
theorem dX6_turns_10 : decode cX6_turns 10 = .ok (.iconst 3, 1) := by decide +kernel
theorem dX6_turns_11 : decode cX6_turns 11 = .ok (.iaload, 1) := by decide +kernel
theorem dX6_turns_12 : decode cX6_turns 12 = .ok (.iadd, 1) := by decide +kernel
theorem dX6_turns_13 : decode cX6_turns 13 = .ok (.iload_n 1, 1) := by decide +kernel
theorem dX6_turns_14 : decode cX6_turns 14 = .ok (.iastore, 1) := by decide +kernel
theorem dX6_turns_15 : decode cX6_turns 15 = .ok (.aload_n 0, 1) := by decide +kernel
theorem dX6_turns_16 : decode cX6_turns 16 = .ok (.getfield 22, 3) := by decide +kernel
theorem dX6_turns_19 : decode cX6_turns 19 = .ok (.iconst 3, 1) := by decide +kernel
theorem dX6_turns_20 : decode cX6_turns 20 = .ok (.dup2, 1) := by decide +kernel
theorem dX6_turns_21 : decode cX6_turns 21 = .ok (.iaload, 1) := by decide +kernel
theorem dX6_turns_22 : decode cX6_turns 22 = .ok (.iconst 1, 1) := by decide +kernel
theorem dX6_turns_23 : decode cX6_turns 23 = .ok (.iadd, 1) := by decide +kernel
theorem dX6_turns_24 : decode cX6_turns 24 = .ok (.iastore, 1) := by decide +kernel
theorem dX6_turns_25 : decode cX6_turns 25 = .ok (.return_, 1) := by decide +kernel
set_option maxRecDepth 20000 in
theorem ggX6_mended_X6_live : GoodIn wsX6_mended wsX6_live := goodIn_r _ [6, 1, 10, 11, 12, 13, 14, 15, 16, 17, 18, 19, 20, 21, 22, 23, 24, 25, 26, 27] (by decide +kernel) (by decide +kernel)
set_option maxRecDepth 20000 in
theorem gX6_mended_X6_live : GoodIn wsX6_mended (wsV RX6 126 RX6 yX6_live wsX6_live) := goodIn_app (goodIn_of _ (by decide +kernel)) ggX6_mended_X6_live
set_option maxRecDepth 20000 in
theorem ggX6_mended_X6_bits : GoodIn wsX6_mended wsX6_bits := goodIn_r _ [9] (by decide +kernel) (by decide +kernel)
set_option maxRecDepth 20000 in
theorem gX6_mended_X6_bits : GoodIn wsX6_mended (va_wsS RX6 154 yX6_bits wsX6_bits) := goodIn_app (goodIn_of _ (by decide +kernel)) ggX6_mended_X6_bits
theorem dX6_mended_0 : decode cX6_mended 0 = .ok (.aload_n 0, 1) := by decide +kernel
theorem dX6_mended_1 : decode cX6_mended 1 = .ok (.getfield 22, 3) := by decide +kernel
theorem dX6_mended_4 : decode cX6_mended 4 = .ok (.iconst 1, 1) := by decide +kernel
theorem dX6_mended_5 : decode cX6_mended 5 = .ok (.iaload, 1) := by decide +kernel
theorem dX6_mended_6 : decode cX6_mended 6 = .ok (.aload_n 0, 1) := by decide +kernel
theorem dX6_mended_7 : decode cX6_mended 7 = .ok (.invokevirtual 126, 3) := by decide +kernel
theorem dX6_mended_10 : decode cX6_mended 10 = .ok (.invokestatic 154, 3) := by decide +kernel
theorem dX6_mended_13 : decode cX6_mended 13 = .ok (.isub, 1) := by decide +kernel
theorem dX6_mended_14 : decode cX6_mended 14 = .ok (.ireturn, 1) := by decide +kernel
set_option maxRecDepth 20000 in
theorem ggX6_mend_X6_isError : GoodIn wsX6_mend wsX6_isError := goodIn_r _ [6, 1, 7, 8, 5, 9, 25, 26, 27, 28, 29, 30, 31, 32, 33, 34, 35, 36, 37, 38, 39, 40, 41, 42] (by decide +kernel) (by decide +kernel)
set_option maxRecDepth 20000 in
theorem gX6_mend_X6_isError : GoodIn wsX6_mend (wsV RX6 148 RX6 yX6_isError wsX6_isError) := goodIn_app (goodIn_of _ (by decide +kernel)) ggX6_mend_X6_isError
set_option maxRecDepth 20000 in
theorem ggX6_mend_X6_in : GoodIn wsX6_mend wsX6_in := goodIn_r _ [9] (by decide +kernel) (by decide +kernel)
set_option maxRecDepth 20000 in
theorem gX6_mend_X6_in : GoodIn wsX6_mend (va_wsS RX6 63 yX6_in wsX6_in) := goodIn_app (goodIn_of _ (by decide +kernel)) ggX6_mend_X6_in
set_option maxRecDepth 20000 in
theorem ggX6_mend_X6_turns : GoodIn wsX6_mend wsX6_turns := goodIn_r _ [13, 1, 25, 26, 27, 28, 29, 30, 31, 32, 33, 34, 35, 36, 37, 38, 39, 40, 41, 42] (by decide +kernel) (by decide +kernel)
set_option maxRecDepth 20000 in
theorem gX6_mend_X6_turns : GoodIn wsX6_mend (wsV RX6 157 RX6 yX6_turns wsX6_turns) := goodIn_app (goodIn_of _ (by decide +kernel)) ggX6_mend_X6_turns
set_option maxRecDepth 20000 in
theorem ggX6_mend_X6_mended : GoodIn wsX6_mend wsX6_mended := goodIn_r _ [17, 1, 18, 19, 20, 5, 21, 22, 23, 24, 25, 26, 27, 28, 29, 30, 31, 32, 33, 34, 35, 36, 37, 38, 39, 40, 41, 42] (by decide +kernel) (by decide +kernel)
set_option maxRecDepth 20000 in
theorem gX6_mend_X6_mended : GoodIn wsX6_mend (wsV RX6 160 RX6 yX6_mended wsX6_mended) := goodIn_app (goodIn_of _ (by decide +kernel)) ggX6_mend_X6_mended
theorem dX6_mend_0 : decode cX6_mend 0 = .ok (.aload_n 0, 1) := by decide +kernel
theorem dX6_mend_1 : decode cX6_mend 1 = .ok (.iload_n 1, 1) := by decide +kernel
theorem dX6_mend_2 : decode cX6_mend 2 = .ok (.invokevirtual 148, 3) := by decide +kernel
theorem dX6_mend_5 : decode cX6_mend 5 = .ok (.ifCond .eq 13, 3) := by decide +kernel
theorem dX6_mend_8 : decode cX6_mend 8 = .ok (.iload_n 2, 1) := by decide +kernel
theorem dX6_mend_9 : decode cX6_mend 9 = .ok (.i2l, 1) := by decide +kernel
theorem dX6_mend_10 : decode cX6_mend 10 = .ok (.lconst 0, 1) := by decide +kernel
theorem dX6_mend_11 : decode cX6_mend 11 = .ok (.lconst 1, 1) := by decide +kernel
theorem dX6_mend_12 : decode cX6_mend 12 = .ok (.invokestatic 63, 3) := by decide +kernel
theorem dX6_mend_15 : decode cX6_mend 15 = .ok (.ifCond .ne 5, 3) := by decide +kernel
theorem dX6_mend_18 : decode cX6_mend 18 = .ok (.iconst (-1), 1) := by decide +kernel
theorem dX6_mend_19 : decode cX6_mend 19 = .ok (.ireturn, 1) := by decide +kernel
theorem dX6_mend_20 : decode cX6_mend 20 = .ok (.aload_n 0, 1) := by decide +kernel
theorem dX6_mend_21 : decode cX6_mend 21 = .ok (.getfield 22, 3) := by decide +kernel
theorem dX6_mend_24 : decode cX6_mend 24 = .ok (.bipush 67, 2) := by decide +kernel
theorem dX6_mend_26 : decode cX6_mend 26 = .ok (.iload_n 1, 1) := by decide +kernel
theorem dX6_mend_27 : decode cX6_mend 27 = .ok (.iadd, 1) := by decide +kernel
theorem dX6_mend_28 : decode cX6_mend 28 = .ok (.iaload, 1) := by decide +kernel
theorem dX6_mend_29 : decode cX6_mend 29 = .ok (.iload_n 2, 1) := by decide +kernel
theorem dX6_mend_30 : decode cX6_mend 30 = .ok (.if_icmp .ne 6, 3) := by decide +kernel
theorem dX6_mend_33 : decode cX6_mend 33 = .ok (.bipush (-4), 2) := by decide +kernel
theorem dX6_mend_35 : decode cX6_mend 35 = .ok (.ireturn, 1) := by decide +kernel
theorem dX6_mend_36 : decode cX6_mend 36 = .ok (.aload_n 0, 1) := by decide +kernel
theorem dX6_mend_37 : decode cX6_mend 37 = .ok (.getfield 22, 3) := by decide +kernel
theorem dX6_mend_40 : decode cX6_mend 40 = .ok (.iconst 3, 1) := by decide +kernel
theorem dX6_mend_41 : decode cX6_mend 41 = .ok (.iaload, 1) := by decide +kernel
theorem dX6_mend_42 : decode cX6_mend 42 = .ok (.bipush 40, 2) := by decide +kernel
theorem dX6_mend_44 : decode cX6_mend 44 = .ok (.if_icmp .ne 6, 3) := by decide +kernel
theorem dX6_mend_47 : decode cX6_mend 47 = .ok (.bipush (-2), 2) := by decide +kernel
theorem dX6_mend_49 : decode cX6_mend 49 = .ok (.ireturn, 1) := by decide +kernel
theorem dX6_mend_50 : decode cX6_mend 50 = .ok (.aload_n 0, 1) := by decide +kernel
theorem dX6_mend_51 : decode cX6_mend 51 = .ok (.getfield 22, 3) := by decide +kernel
theorem dX6_mend_54 : decode cX6_mend 54 = .ok (.bipush 67, 2) := by decide +kernel
theorem dX6_mend_56 : decode cX6_mend 56 = .ok (.iload_n 1, 1) := by decide +kernel
theorem dX6_mend_57 : decode cX6_mend 57 = .ok (.iadd, 1) := by decide +kernel
theorem dX6_mend_58 : decode cX6_mend 58 = .ok (.iload_n 2, 1) := by decide +kernel
theorem dX6_mend_59 : decode cX6_mend 59 = .ok (.iastore, 1) := by decide +kernel
theorem dX6_mend_60 : decode cX6_mend 60 = .ok (.aload_n 0, 1) := by decide +kernel
theorem dX6_mend_61 : decode cX6_mend 61 = .ok (.iconst 2, 1) := by decide +kernel
theorem dX6_mend_62 : decode cX6_mend 62 = .ok (.iload_n 1, 1) := by decide +kernel
theorem dX6_mend_63 : decode cX6_mend 63 = .ok (.iadd, 1) := by decide +kernel
theorem dX6_mend_64 : decode cX6_mend 64 = .ok (.invokevirtual 157, 3) := by decide +kernel
theorem dX6_mend_67 : decode cX6_mend 67 = .ok (.aload_n 0, 1) := by decide +kernel
theorem dX6_mend_68 : decode cX6_mend 68 = .ok (.invokevirtual 160, 3) := by decide +kernel
theorem dX6_mend_71 : decode cX6_mend 71 = .ok (.ireturn, 1) := by decide +kernel
set_option maxRecDepth 20000 in
theorem ggX6_comes_X6_turns : GoodIn wsX6_comes wsX6_turns := goodIn_r _ [6, 1, 7, 8, 9, 10, 11, 12, 13, 14, 15, 16, 17, 18, 19, 20, 21, 22, 23, 24] (by decide +kernel) (by decide +kernel)
set_option maxRecDepth 20000 in
theorem gX6_comes_X6_turns : GoodIn wsX6_comes (wsV RX6 157 RX6 yX6_turns wsX6_turns) := goodIn_app (goodIn_of _ (by decide +kernel)) ggX6_comes_X6_turns
theorem dX6_comes_0 : decode cX6_comes 0 = .ok (.aload_n 0, 1) := by decide +kernel
theorem dX6_comes_1 : decode cX6_comes 1 = .ok (.getfield 22, 3) := by decide +kernel
theorem dX6_comes_4 : decode cX6_comes 4 = .ok (.iconst 1, 1) := by decide +kernel
theorem dX6_comes_5 : decode cX6_comes 5 = .ok (.iaload, 1) := by decide +kernel
theorem dX6_comes_6 : decode cX6_comes 6 = .ok (.istore 5, 2) := by decide +kernel
theorem dX6_comes_8 : decode cX6_comes 8 = .ok (.aload_n 0, 1) := by decide +kernel
theorem dX6_comes_9 : decode cX6_comes 9 = .ok (.getfield 22, 3) := by decide +kernel
theorem dX6_comes_12 : decode cX6_comes 12 = .ok (.bipush 19, 2) := by decide +kernel
theorem dX6_comes_14 : decode cX6_comes 14 = .ok (.iload 5, 2) := by decide +kernel
theorem dX6_comes_16 : decode cX6_comes 16 = .ok (.iadd, 1) := by decide +kernel
theorem dX6_comes_17 : decode cX6_comes 17 = .ok (.iload_n 1, 1) := by decide +kernel
theorem dX6_comes_18 : decode cX6_comes 18 = .ok (.iastore, 1) := by decide +kernel
theorem dX6_comes_19 : decode cX6_comes 19 = .ok (.aload_n 0, 1) := by decide +kernel
theorem dX6_comes_20 : decode cX6_comes 20 = .ok (.getfield 22, 3) := by decide +kernel
theorem dX6_comes_23 : decode cX6_comes 23 = .ok (.bipush 31, 2) := by decide +kernel
theorem dX6_comes_25 : decode cX6_comes 25 = .ok (.iload 5, 2) := by decide +kernel
theorem dX6_comes_27 : decode cX6_comes 27 = .ok (.iadd, 1) := by decide +kernel
theorem dX6_comes_28 : decode cX6_comes 28 = .ok (.iload_n 2, 1) := by decide +kernel
theorem dX6_comes_29 : decode cX6_comes 29 = .ok (.iastore, 1) := by decide +kernel
theorem dX6_comes_30 : decode cX6_comes 30 = .ok (.aload_n 0, 1) := by decide +kernel
theorem dX6_comes_31 : decode cX6_comes 31 = .ok (.getfield 22, 3) := by decide +kernel
theorem dX6_comes_34 : decode cX6_comes 34 = .ok (.bipush 43, 2) := by decide +kernel
theorem dX6_comes_36 : decode cX6_comes 36 = .ok (.iload 5, 2) := by decide +kernel
theorem dX6_comes_38 : decode cX6_comes 38 = .ok (.iadd, 1) := by decide +kernel
theorem dX6_comes_39 : decode cX6_comes 39 = .ok (.iload_n 3, 1) := by decide +kernel
theorem dX6_comes_40 : decode cX6_comes 40 = .ok (.iastore, 1) := by decide +kernel
theorem dX6_comes_41 : decode cX6_comes 41 = .ok (.aload_n 0, 1) := by decide +kernel
theorem dX6_comes_42 : decode cX6_comes 42 = .ok (.getfield 22, 3) := by decide +kernel
theorem dX6_comes_45 : decode cX6_comes 45 = .ok (.bipush 55, 2) := by decide +kernel
theorem dX6_comes_47 : decode cX6_comes 47 = .ok (.iload 5, 2) := by decide +kernel
theorem dX6_comes_49 : decode cX6_comes 49 = .ok (.iadd, 1) := by decide +kernel
theorem dX6_comes_50 : decode cX6_comes 50 = .ok (.iload 4, 2) := by decide +kernel
theorem dX6_comes_52 : decode cX6_comes 52 = .ok (.iastore, 1) := by decide +kernel
theorem dX6_comes_53 : decode cX6_comes 53 = .ok (.aload_n 0, 1) := by decide +kernel
theorem dX6_comes_54 : decode cX6_comes 54 = .ok (.getfield 22, 3) := by decide +kernel
theorem dX6_comes_57 : decode cX6_comes 57 = .ok (.bipush 67, 2) := by decide +kernel
theorem dX6_comes_59 : decode cX6_comes 59 = .ok (.iload 5, 2) := by decide +kernel
theorem dX6_comes_61 : decode cX6_comes 61 = .ok (.iadd, 1) := by decide +kernel
theorem dX6_comes_62 : decode cX6_comes 62 = .ok (.iconst 0, 1) := by decide +kernel
theorem dX6_comes_63 : decode cX6_comes 63 = .ok (.iastore, 1) := by decide +kernel
theorem dX6_comes_64 : decode cX6_comes 64 = .ok (.aload_n 0, 1) := by decide +kernel
theorem dX6_comes_65 : decode cX6_comes 65 = .ok (.getfield 22, 3) := by decide +kernel
theorem dX6_comes_68 : decode cX6_comes 68 = .ok (.iconst 1, 1) := by decide +kernel
theorem dX6_comes_69 : decode cX6_comes 69 = .ok (.dup2, 1) := by decide +kernel
theorem dX6_comes_70 : decode cX6_comes 70 = .ok (.iaload, 1) := by decide +kernel
theorem dX6_comes_71 : decode cX6_comes 71 = .ok (.iconst 1, 1) := by decide +kernel
theorem dX6_comes_72 : decode cX6_comes 72 = .ok (.iadd, 1) := by decide +kernel
theorem dX6_comes_73 : decode cX6_comes 73 = .ok (.iastore, 1) := by decide +kernel
theorem dX6_comes_74 : decode cX6_comes 74 = .ok (.aload_n 0, 1) := by decide +kernel
theorem dX6_comes_75 : decode cX6_comes 75 = .ok (.iconst 0, 1) := by decide +kernel
theorem dX6_comes_76 : decode cX6_comes 76 = .ok (.invokevirtual 157, 3) := by decide +kernel
theorem dX6_comes_79 : decode cX6_comes 79 = .ok (.iload 5, 2) := by decide +kernel
theorem dX6_comes_81 : decode cX6_comes 81 = .ok (.ireturn, 1) := by decide +kernel
set_option maxRecDepth 20000 in
theorem ggX6_err_X6_in : GoodIn wsX6_err wsX6_in := goodIn_r _ [7] (by decide +kernel) (by decide +kernel)
set_option maxRecDepth 20000 in
theorem gX6_err_X6_in : GoodIn wsX6_err (va_wsS RX6 63 yX6_in wsX6_in) := goodIn_app (goodIn_of _ (by decide +kernel)) ggX6_err_X6_in
set_option maxRecDepth 20000 in
theorem ggX6_err_X6_isDay : GoodIn wsX6_err wsX6_isDay := goodIn_r _ [10, 11, 4, 5, 6, 7] (by decide +kernel) (by decide +kernel)
set_option maxRecDepth 20000 in
theorem gX6_err_X6_isDay : GoodIn wsX6_err (va_wsS RX6 165 yX6_isDay wsX6_isDay) := goodIn_app (goodIn_of _ (by decide +kernel)) ggX6_err_X6_isDay
set_option maxRecDepth 20000 in
theorem ggX6_err_X6_isPerson : GoodIn wsX6_err wsX6_isPerson := goodIn_r _ [15, 3, 4, 5, 6, 7, 24, 25, 26, 27, 28, 29, 30, 31, 32, 33, 34, 35, 36, 37, 38, 39, 40, 41] (by decide +kernel) (by decide +kernel)
set_option maxRecDepth 20000 in
theorem gX6_err_X6_isPerson : GoodIn wsX6_err (wsV RX6 141 RX6 yX6_isPerson wsX6_isPerson) := goodIn_app (goodIn_of _ (by decide +kernel)) ggX6_err_X6_isPerson
set_option maxRecDepth 20000 in
theorem ggX6_err_X6_comes : GoodIn wsX6_err wsX6_comes := goodIn_r _ [19, 3, 20, 21, 22, 6, 23, 24, 25, 26, 27, 28, 29, 30, 31, 32, 33, 34, 35, 36, 37, 38, 39, 40, 41] (by decide +kernel) (by decide +kernel)
set_option maxRecDepth 20000 in
theorem gX6_err_X6_comes : GoodIn wsX6_err (wsV RX6 168 RX6 yX6_comes wsX6_comes) := goodIn_app (goodIn_of _ (by decide +kernel)) ggX6_err_X6_comes
theorem dX6_err_0 : decode cX6_err 0 = .ok (.iload_n 1, 1) := by decide +kernel
theorem dX6_err_1 : decode cX6_err 1 = .ok (.bipush 10, 2) := by decide +kernel
theorem dX6_err_3 : decode cX6_err 3 = .ok (.idiv, 1) := by decide +kernel
theorem dX6_err_4 : decode cX6_err 4 = .ok (.bipush 100, 2) := by decide +kernel
theorem dX6_err_6 : decode cX6_err 6 = .ok (.irem, 1) := by decide +kernel
theorem dX6_err_7 : decode cX6_err 7 = .ok (.istore_n 3, 1) := by decide +kernel
theorem dX6_err_8 : decode cX6_err 8 = .ok (.iload_n 1, 1) := by decide +kernel
theorem dX6_err_9 : decode cX6_err 9 = .ok (.i2l, 1) := by decide +kernel
theorem dX6_err_10 : decode cX6_err 10 = .ok (.lconst 0, 1) := by decide +kernel
theorem dX6_err_11 : decode cX6_err 11 = .ok (.ldc2_w 163, 3) := by decide +kernel
theorem dX6_err_14 : decode cX6_err 14 = .ok (.invokestatic 63, 3) := by decide +kernel
theorem dX6_err_17 : decode cX6_err 17 = .ok (.ifCond .eq 33, 3) := by decide +kernel
theorem dX6_err_20 : decode cX6_err 20 = .ok (.iload_n 3, 1) := by decide +kernel
theorem dX6_err_21 : decode cX6_err 21 = .ok (.invokestatic 165, 3) := by decide +kernel
theorem dX6_err_24 : decode cX6_err 24 = .ok (.ifCond .eq 26, 3) := by decide +kernel
theorem dX6_err_27 : decode cX6_err 27 = .ok (.aload_n 0, 1) := by decide +kernel
theorem dX6_err_28 : decode cX6_err 28 = .ok (.iload_n 1, 1) := by decide +kernel
theorem dX6_err_29 : decode cX6_err 29 = .ok (.bipush 10, 2) := by decide +kernel
theorem dX6_err_31 : decode cX6_err 31 = .ok (.irem, 1) := by decide +kernel
theorem dX6_err_32 : decode cX6_err 32 = .ok (.invokevirtual 141, 3) := by decide +kernel
theorem dX6_err_35 : decode cX6_err 35 = .ok (.ifCond .eq 15, 3) := by decide +kernel
theorem dX6_err_38 : decode cX6_err 38 = .ok (.iload_n 2, 1) := by decide +kernel
theorem dX6_err_39 : decode cX6_err 39 = .ok (.i2l, 1) := by decide +kernel
theorem dX6_err_40 : decode cX6_err 40 = .ok (.lconst 1, 1) := by decide +kernel
theorem dX6_err_41 : decode cX6_err 41 = .ok (.ldc2_w 113, 3) := by decide +kernel
theorem dX6_err_44 : decode cX6_err 44 = .ok (.invokestatic 63, 3) := by decide +kernel
theorem dX6_err_47 : decode cX6_err 47 = .ok (.ifCond .ne 5, 3) := by decide +kernel
theorem dX6_err_50 : decode cX6_err 50 = .ok (.iconst (-1), 1) := by decide +kernel
theorem dX6_err_51 : decode cX6_err 51 = .ok (.ireturn, 1) := by decide +kernel
theorem dX6_err_52 : decode cX6_err 52 = .ok (.aload_n 0, 1) := by decide +kernel
theorem dX6_err_53 : decode cX6_err 53 = .ok (.getfield 22, 3) := by decide +kernel
theorem dX6_err_56 : decode cX6_err 56 = .ok (.iconst 1, 1) := by decide +kernel
theorem dX6_err_57 : decode cX6_err 57 = .ok (.iaload, 1) := by decide +kernel
theorem dX6_err_58 : decode cX6_err 58 = .ok (.bipush 12, 2) := by decide +kernel
theorem dX6_err_60 : decode cX6_err 60 = .ok (.if_icmp .eq 14, 3) := by decide +kernel
theorem dX6_err_63 : decode cX6_err 63 = .ok (.aload_n 0, 1) := by decide +kernel
theorem dX6_err_64 : decode cX6_err 64 = .ok (.getfield 22, 3) := by decide +kernel
theorem dX6_err_67 : decode cX6_err 67 = .ok (.iconst 3, 1) := by decide +kernel
theorem dX6_err_68 : decode cX6_err 68 = .ok (.iaload, 1) := by decide +kernel
theorem dX6_err_69 : decode cX6_err 69 = .ok (.bipush 40, 2) := by decide +kernel
theorem dX6_err_71 : decode cX6_err 71 = .ok (.if_icmp .ne 6, 3) := by decide +kernel
theorem dX6_err_74 : decode cX6_err 74 = .ok (.bipush (-2), 2) := by decide +kernel
theorem dX6_err_76 : decode cX6_err 76 = .ok (.ireturn, 1) := by decide +kernel
theorem dX6_err_77 : decode cX6_err 77 = .ok (.aload_n 0, 1) := by decide +kernel
theorem dX6_err_78 : decode cX6_err 78 = .ok (.iload_n 1, 1) := by decide +kernel
theorem dX6_err_79 : decode cX6_err 79 = .ok (.sipush 1000, 3) := by decide +kernel
theorem dX6_err_82 : decode cX6_err 82 = .ok (.idiv, 1) := by decide +kernel
theorem dX6_err_83 : decode cX6_err 83 = .ok (.iload_n 3, 1) := by decide +kernel
theorem dX6_err_84 : decode cX6_err 84 = .ok (.iload_n 1, 1) := by decide +kernel
theorem dX6_err_85 : decode cX6_err 85 = .ok (.bipush 10, 2) := by decide +kernel
theorem dX6_err_87 : decode cX6_err 87 = .ok (.irem, 1) := by decide +kernel
theorem dX6_err_88 : decode cX6_err 88 = .ok (.iload_n 2, 1) := by decide +kernel
theorem dX6_err_89 : decode cX6_err 89 = .ok (.invokevirtual 168, 3) := by decide +kernel
theorem dX6_err_92 : decode cX6_err 92 = .ok (.ireturn, 1) := by decide +kernel
set_option maxRecDepth 20000 in
theorem ggX6_day_X6_turns : GoodIn wsX6_day wsX6_turns := goodIn_r _ [6, 1, 7, 8, 9, 10, 11, 12, 13, 14, 15, 16, 17, 18, 19, 20, 21, 22, 23, 24] (by decide +kernel) (by decide +kernel)
set_option maxRecDepth 20000 in
theorem gX6_day_X6_turns : GoodIn wsX6_day (wsV RX6 157 RX6 yX6_turns wsX6_turns) := goodIn_app (goodIn_of _ (by decide +kernel)) ggX6_day_X6_turns
theorem dX6_day_0 : decode cX6_day 0 = .ok (.aload_n 0, 1) := by decide +kernel
theorem dX6_day_1 : decode cX6_day 1 = .ok (.getfield 22, 3) := by decide +kernel
theorem dX6_day_4 : decode cX6_day 4 = .ok (.iconst 0, 1) := by decide +kernel
theorem dX6_day_5 : decode cX6_day 5 = .ok (.iaload, 1) := by decide +kernel
theorem dX6_day_6 : decode cX6_day 6 = .ok (.ifCond .eq 14, 3) := by decide +kernel
theorem dX6_day_9 : decode cX6_day 9 = .ok (.aload_n 0, 1) := by decide +kernel
theorem dX6_day_10 : decode cX6_day 10 = .ok (.getfield 22, 3) := by decide +kernel
theorem dX6_day_13 : decode cX6_day 13 = .ok (.iconst 2, 1) := by decide +kernel
theorem dX6_day_14 : decode cX6_day 14 = .ok (.iaload, 1) := by decide +kernel
theorem dX6_day_15 : decode cX6_day 15 = .ok (.bipush 19, 2) := by decide +kernel
theorem dX6_day_17 : decode cX6_day 17 = .ok (.if_icmp .ne 6, 3) := by decide +kernel
theorem dX6_day_20 : decode cX6_day 20 = .ok (.bipush (-4), 2) := by decide +kernel
theorem dX6_day_22 : decode cX6_day 22 = .ok (.ireturn, 1) := by decide +kernel
theorem dX6_day_23 : decode cX6_day 23 = .ok (.aload_n 0, 1) := by decide +kernel
theorem dX6_day_24 : decode cX6_day 24 = .ok (.getfield 22, 3) := by decide +kernel
theorem dX6_day_27 : decode cX6_day 27 = .ok (.iconst 3, 1) := by decide +kernel
theorem dX6_day_28 : decode cX6_day 28 = .ok (.iaload, 1) := by decide +kernel
theorem dX6_day_29 : decode cX6_day 29 = .ok (.bipush 40, 2) := by decide +kernel
theorem dX6_day_31 : decode cX6_day 31 = .ok (.if_icmp .ne 6, 3) := by decide +kernel
theorem dX6_day_34 : decode cX6_day 34 = .ok (.bipush (-2), 2) := by decide +kernel
theorem dX6_day_36 : decode cX6_day 36 = .ok (.ireturn, 1) := by decide +kernel
theorem dX6_day_37 : decode cX6_day 37 = .ok (.aload_n 0, 1) := by decide +kernel
theorem dX6_day_38 : decode cX6_day 38 = .ok (.getfield 22, 3) := by decide +kernel
theorem dX6_day_41 : decode cX6_day 41 = .ok (.iconst 2, 1) := by decide +kernel
theorem dX6_day_42 : decode cX6_day 42 = .ok (.dup2, 1) := by decide +kernel
theorem dX6_day_43 : decode cX6_day 43 = .ok (.iaload, 1) := by decide +kernel
theorem dX6_day_44 : decode cX6_day 44 = .ok (.iconst 1, 1) := by decide +kernel
theorem dX6_day_45 : decode cX6_day 45 = .ok (.iadd, 1) := by decide +kernel
theorem dX6_day_46 : decode cX6_day 46 = .ok (.iastore, 1) := by decide +kernel
theorem dX6_day_47 : decode cX6_day 47 = .ok (.aload_n 0, 1) := by decide +kernel
theorem dX6_day_48 : decode cX6_day 48 = .ok (.iconst 1, 1) := by decide +kernel
theorem dX6_day_49 : decode cX6_day 49 = .ok (.invokevirtual 157, 3) := by decide +kernel
theorem dX6_day_52 : decode cX6_day 52 = .ok (.aload_n 0, 1) := by decide +kernel
theorem dX6_day_53 : decode cX6_day 53 = .ok (.getfield 22, 3) := by decide +kernel
theorem dX6_day_56 : decode cX6_day 56 = .ok (.iconst 2, 1) := by decide +kernel
theorem dX6_day_57 : decode cX6_day 57 = .ok (.iaload, 1) := by decide +kernel
theorem dX6_day_58 : decode cX6_day 58 = .ok (.ireturn, 1) := by decide +kernel
set_option maxRecDepth 20000 in
theorem ggX6_undo_X6_in : GoodIn wsX6_undo wsX6_in := goodIn_r _ [5] (by decide +kernel) (by decide +kernel)
set_option maxRecDepth 20000 in
theorem gX6_undo_X6_in : GoodIn wsX6_undo (va_wsS RX6 63 yX6_in wsX6_in) := goodIn_app (goodIn_of _ (by decide +kernel)) ggX6_undo_X6_in
theorem dX6_undo_0 : decode cX6_undo 0 = .ok (.iload_n 1, 1) := by decide +kernel
theorem dX6_undo_1 : decode cX6_undo 1 = .ok (.i2l, 1) := by decide +kernel
theorem dX6_undo_2 : decode cX6_undo 2 = .ok (.lconst 0, 1) := by decide +kernel
theorem dX6_undo_3 : decode cX6_undo 3 = .ok (.aload_n 0, 1) := by decide +kernel
theorem dX6_undo_4 : decode cX6_undo 4 = .ok (.getfield 22, 3) := by decide +kernel
theorem dX6_undo_7 : decode cX6_undo 7 = .ok (.iconst 3, 1) := by decide +kernel
theorem dX6_undo_8 : decode cX6_undo 8 = .ok (.iaload, 1) := by decide +kernel
theorem dX6_undo_9 : decode cX6_undo 9 = .ok (.i2l, 1) := by decide +kernel
theorem dX6_undo_10 : decode cX6_undo 10 = .ok (.invokestatic 63, 3) := by decide +kernel
theorem dX6_undo_13 : decode cX6_undo 13 = .ok (.ifCond .ne 5, 3) := by decide +kernel
theorem dX6_undo_16 : decode cX6_undo 16 = .ok (.iconst (-1), 1) := by decide +kernel
theorem dX6_undo_17 : decode cX6_undo 17 = .ok (.ireturn, 1) := by decide +kernel
theorem dX6_undo_18 : decode cX6_undo 18 = .ok (.aload_n 0, 1) := by decide +kernel
theorem dX6_undo_19 : decode cX6_undo 19 = .ok (.getfield 22, 3) := by decide +kernel
theorem dX6_undo_22 : decode cX6_undo 22 = .ok (.iconst 3, 1) := by decide +kernel
theorem dX6_undo_23 : decode cX6_undo 23 = .ok (.iaload, 1) := by decide +kernel
theorem dX6_undo_24 : decode cX6_undo 24 = .ok (.iload_n 1, 1) := by decide +kernel
theorem dX6_undo_25 : decode cX6_undo 25 = .ok (.isub, 1) := by decide +kernel
theorem dX6_undo_26 : decode cX6_undo 26 = .ok (.istore_n 2, 1) := by decide +kernel
theorem dX6_undo_27 : decode cX6_undo 27 = .ok (.aload_n 0, 1) := by decide +kernel
theorem dX6_undo_28 : decode cX6_undo 28 = .ok (.getfield 22, 3) := by decide +kernel
theorem dX6_undo_31 : decode cX6_undo 31 = .ok (.iconst 3, 1) := by decide +kernel
theorem dX6_undo_32 : decode cX6_undo 32 = .ok (.iaload, 1) := by decide +kernel
theorem dX6_undo_33 : decode cX6_undo 33 = .ok (.iconst 1, 1) := by decide +kernel
theorem dX6_undo_34 : decode cX6_undo 34 = .ok (.isub, 1) := by decide +kernel
theorem dX6_undo_35 : decode cX6_undo 35 = .ok (.istore_n 3, 1) := by decide +kernel
theorem dX6_undo_36 : decode cX6_undo 36 = .ok (.iload_n 3, 1) := by decide +kernel
theorem dX6_undo_37 : decode cX6_undo 37 = .ok (.iload_n 1, 1) := by decide +kernel
theorem dX6_undo_38 : decode cX6_undo 38 = .ok (.if_icmp .lt 83, 3) := by decide +kernel
theorem dX6_undo_41 : decode cX6_undo 41 = .ok (.aload_n 0, 1) := by decide +kernel
theorem dX6_undo_42 : decode cX6_undo 42 = .ok (.getfield 22, 3) := by decide +kernel
theorem dX6_undo_45 : decode cX6_undo 45 = .ok (.bipush 79, 2) := by decide +kernel
theorem dX6_undo_47 : decode cX6_undo 47 = .ok (.iload_n 3, 1) := by decide +kernel
theorem dX6_undo_48 : decode cX6_undo 48 = .ok (.iadd, 1) := by decide +kernel
theorem dX6_undo_49 : decode cX6_undo 49 = .ok (.iaload, 1) := by decide +kernel
theorem dX6_undo_50 : decode cX6_undo 50 = .ok (.istore 4, 2) := by decide +kernel
theorem dX6_undo_52 : decode cX6_undo 52 = .ok (.iload 4, 2) := by decide +kernel
theorem dX6_undo_54 : decode cX6_undo 54 = .ok (.ifCond .ne 16, 3) := by decide +kernel
theorem dX6_undo_57 : decode cX6_undo 57 = .ok (.aload_n 0, 1) := by decide +kernel
theorem dX6_undo_58 : decode cX6_undo 58 = .ok (.getfield 22, 3) := by decide +kernel
theorem dX6_undo_61 : decode cX6_undo 61 = .ok (.iconst 1, 1) := by decide +kernel
theorem dX6_undo_62 : decode cX6_undo 62 = .ok (.dup2, 1) := by decide +kernel
theorem dX6_undo_63 : decode cX6_undo 63 = .ok (.iaload, 1) := by decide +kernel
theorem dX6_undo_64 : decode cX6_undo 64 = .ok (.iconst 1, 1) := by decide +kernel
theorem dX6_undo_65 : decode cX6_undo 65 = .ok (.isub, 1) := by decide +kernel
theorem dX6_undo_66 : decode cX6_undo 66 = .ok (.iastore, 1) := by decide +kernel
theorem dX6_undo_67 : decode cX6_undo 67 = .ok (.goto 48, 3) := by decide +kernel
theorem dX6_undo_70 : decode cX6_undo 70 = .ok (.iload 4, 2) := by decide +kernel
theorem dX6_undo_72 : decode cX6_undo 72 = .ok (.iconst 1, 1) := by decide +kernel
theorem dX6_undo_73 : decode cX6_undo 73 = .ok (.if_icmp .ne 16, 3) := by decide +kernel
theorem dX6_undo_76 : decode cX6_undo 76 = .ok (.aload_n 0, 1) := by decide +kernel
theorem dX6_undo_77 : decode cX6_undo 77 = .ok (.getfield 22, 3) := by decide +kernel
theorem dX6_undo_80 : decode cX6_undo 80 = .ok (.iconst 2, 1) := by decide +kernel
theorem dX6_undo_81 : decode cX6_undo 81 = .ok (.dup2, 1) := by decide +kernel
theorem dX6_undo_82 : decode cX6_undo 82 = .ok (.iaload, 1) := by decide +kernel
theorem dX6_undo_83 : decode cX6_undo 83 = .ok (.iconst 1, 1) := by decide +kernel
theorem dX6_undo_84 : decode cX6_undo 84 = .ok (.isub, 1) := by decide +kernel
theorem dX6_undo_85 : decode cX6_undo 85 = .ok (.iastore, 1) := by decide +kernel
theorem dX6_undo_86 : decode cX6_undo 86 = .ok (.goto 29, 3) := by decide +kernel
theorem dX6_undo_89 : decode cX6_undo 89 = .ok (.aload_n 0, 1) := by decide +kernel
theorem dX6_undo_90 : decode cX6_undo 90 = .ok (.getfield 22, 3) := by decide +kernel
theorem dX6_undo_93 : decode cX6_undo 93 = .ok (.bipush 67, 2) := by decide +kernel
theorem dX6_undo_95 : decode cX6_undo 95 = .ok (.iload 4, 2) := by decide +kernel
theorem dX6_undo_97 : decode cX6_undo 97 = .ok (.iadd, 1) := by decide +kernel
theorem dX6_undo_98 : decode cX6_undo 98 = .ok (.iconst 2, 1) := by decide +kernel
theorem dX6_undo_99 : decode cX6_undo 99 = .ok (.isub, 1) := by decide +kernel
theorem dX6_undo_100 : decode cX6_undo 100 = .ok (.iconst 1, 1) := by decide +kernel
theorem dX6_undo_101 : decode cX6_undo 101 = .ok (.aload_n 0, 1) := by decide +kernel
theorem dX6_undo_102 : decode cX6_undo 102 = .ok (.getfield 22, 3) := by decide +kernel
theorem dX6_undo_105 : decode cX6_undo 105 = .ok (.bipush 67, 2) := by decide +kernel
theorem dX6_undo_107 : decode cX6_undo 107 = .ok (.iload 4, 2) := by decide +kernel
theorem dX6_undo_109 : decode cX6_undo 109 = .ok (.iadd, 1) := by decide +kernel
theorem dX6_undo_110 : decode cX6_undo 110 = .ok (.iconst 2, 1) := by decide +kernel
theorem dX6_undo_111 : decode cX6_undo 111 = .ok (.isub, 1) := by decide +kernel
theorem dX6_undo_112 : decode cX6_undo 112 = .ok (.iaload, 1) := by decide +kernel
theorem dX6_undo_113 : decode cX6_undo 113 = .ok (.isub, 1) := by decide +kernel
theorem dX6_undo_114 : decode cX6_undo 114 = .ok (.iastore, 1) := by decide +kernel
theorem dX6_undo_115 : decode cX6_undo 115 = .ok (.iinc 3 (-1), 3) := by decide +kernel
theorem dX6_undo_118 : decode cX6_undo 118 = .ok (.goto (-82), 3) := by decide +kernel
theorem dX6_undo_121 : decode cX6_undo 121 = .ok (.aload_n 0, 1) := by decide +kernel
theorem dX6_undo_122 : decode cX6_undo 122 = .ok (.getfield 22, 3) := by decide +kernel
theorem dX6_undo_125 : decode cX6_undo 125 = .ok (.iconst 3, 1) := by decide +kernel
theorem dX6_undo_126 : decode cX6_undo 126 = .ok (.iload_n 1, 1) := by decide +kernel
theorem dX6_undo_127 : decode cX6_undo 127 = .ok (.iastore, 1) := by decide +kernel
theorem dX6_undo_128 : decode cX6_undo 128 = .ok (.iload_n 2, 1) := by decide +kernel
theorem dX6_undo_129 : decode cX6_undo 129 = .ok (.ireturn, 1) := by decide +kernel
set_option maxRecDepth 20000 in
theorem ggX6_keep_X6_in : GoodIn wsX6_keep wsX6_in := goodIn_r _ [8] (by decide +kernel) (by decide +kernel)
set_option maxRecDepth 20000 in
theorem gX6_keep_X6_in : GoodIn wsX6_keep (va_wsS RX6 63 yX6_in wsX6_in) := goodIn_app (goodIn_of _ (by decide +kernel)) ggX6_keep_X6_in
set_option maxRecDepth 20000 in
theorem ggX6_keep_X6_copies : GoodIn wsX6_keep wsX6_copies := goodIn_r _ [11] (by decide +kernel) (by decide +kernel)
set_option maxRecDepth 20000 in
theorem gX6_keep_X6_copies : GoodIn wsX6_keep (va_wsS RX6 105 yX6_copies wsX6_copies) := goodIn_app (goodIn_of _ (by decide +kernel)) ggX6_keep_X6_copies
theorem dX6_keep_0 : decode cX6_keep 0 = .ok (.iload_n 1, 1) := by decide +kernel
theorem dX6_keep_1 : decode cX6_keep 1 = .ok (.i2l, 1) := by decide +kernel
theorem dX6_keep_2 : decode cX6_keep 2 = .ok (.lconst 0, 1) := by decide +kernel
theorem dX6_keep_3 : decode cX6_keep 3 = .ok (.ldc2_w 172, 3) := by decide +kernel
theorem dX6_keep_6 : decode cX6_keep 6 = .ok (.invokestatic 63, 3) := by decide +kernel
theorem dX6_keep_9 : decode cX6_keep 9 = .ok (.ifCond .ne 5, 3) := by decide +kernel
theorem dX6_keep_12 : decode cX6_keep 12 = .ok (.iconst (-1), 1) := by decide +kernel
theorem dX6_keep_13 : decode cX6_keep 13 = .ok (.ireturn, 1) := by decide +kernel
theorem dX6_keep_14 : decode cX6_keep 14 = .ok (.aload_n 0, 1) := by decide +kernel
theorem dX6_keep_15 : decode cX6_keep 15 = .ok (.getfield 22, 3) := by decide +kernel
theorem dX6_keep_18 : decode cX6_keep 18 = .ok (.iconst 0, 1) := by decide +kernel
theorem dX6_keep_19 : decode cX6_keep 19 = .ok (.iaload, 1) := by decide +kernel
theorem dX6_keep_20 : decode cX6_keep 20 = .ok (.ifCond .ne 6, 3) := by decide +kernel
theorem dX6_keep_23 : decode cX6_keep 23 = .ok (.bipush (-4), 2) := by decide +kernel
theorem dX6_keep_25 : decode cX6_keep 25 = .ok (.ireturn, 1) := by decide +kernel
theorem dX6_keep_26 : decode cX6_keep 26 = .ok (.aload_n 0, 1) := by decide +kernel
theorem dX6_keep_27 : decode cX6_keep 27 = .ok (.getfield 22, 3) := by decide +kernel
theorem dX6_keep_30 : decode cX6_keep 30 = .ok (.iconst 0, 1) := by decide +kernel
theorem dX6_keep_31 : decode cX6_keep 31 = .ok (.aload_n 0, 1) := by decide +kernel
theorem dX6_keep_32 : decode cX6_keep 32 = .ok (.getfield 25, 3) := by decide +kernel
theorem dX6_keep_35 : decode cX6_keep 35 = .ok (.bipush 119, 2) := by decide +kernel
theorem dX6_keep_37 : decode cX6_keep 37 = .ok (.iload_n 1, 1) := by decide +kernel
theorem dX6_keep_38 : decode cX6_keep 38 = .ok (.imul, 1) := by decide +kernel
theorem dX6_keep_39 : decode cX6_keep 39 = .ok (.invokestatic 105, 3) := by decide +kernel
theorem dX6_keep_42 : decode cX6_keep 42 = .ok (.aload_n 0, 1) := by decide +kernel
theorem dX6_keep_43 : decode cX6_keep 43 = .ok (.getfield 28, 3) := by decide +kernel
theorem dX6_keep_46 : decode cX6_keep 46 = .ok (.iload_n 1, 1) := by decide +kernel
theorem dX6_keep_47 : decode cX6_keep 47 = .ok (.iconst 1, 1) := by decide +kernel
theorem dX6_keep_48 : decode cX6_keep 48 = .ok (.bastore, 1) := by decide +kernel
theorem dX6_keep_49 : decode cX6_keep 49 = .ok (.aload_n 0, 1) := by decide +kernel
theorem dX6_keep_50 : decode cX6_keep 50 = .ok (.getfield 22, 3) := by decide +kernel
theorem dX6_keep_53 : decode cX6_keep 53 = .ok (.iconst 3, 1) := by decide +kernel
theorem dX6_keep_54 : decode cX6_keep 54 = .ok (.iaload, 1) := by decide +kernel
theorem dX6_keep_55 : decode cX6_keep 55 = .ok (.ireturn, 1) := by decide +kernel
set_option maxRecDepth 20000 in
theorem ggX6_on_X6_in : GoodIn wsX6_on wsX6_in := goodIn_r _ [8] (by decide +kernel) (by decide +kernel)
set_option maxRecDepth 20000 in
theorem gX6_on_X6_in : GoodIn wsX6_on (va_wsS RX6 63 yX6_in wsX6_in) := goodIn_app (goodIn_of _ (by decide +kernel)) ggX6_on_X6_in
set_option maxRecDepth 20000 in
theorem ggX6_on_X6_found : GoodIn wsX6_on wsX6_found := goodIn_r _ [12, 13, 14, 18, 19, 20, 21, 22, 23, 24, 25, 26, 27, 28, 29, 30, 31, 32, 33, 34, 35] (by decide +kernel) (by decide +kernel)
set_option maxRecDepth 20000 in
theorem gX6_on_X6_found : GoodIn wsX6_on (wsV RX6 73 RX6 yX6_found wsX6_found) := goodIn_app (goodIn_of _ (by decide +kernel)) ggX6_on_X6_found
set_option maxRecDepth 20000 in
theorem ggX6_on_X6_copies : GoodIn wsX6_on wsX6_copies := goodIn_r _ [17] (by decide +kernel) (by decide +kernel)
set_option maxRecDepth 20000 in
theorem gX6_on_X6_copies : GoodIn wsX6_on (va_wsS RX6 105 yX6_copies wsX6_copies) := goodIn_app (goodIn_of _ (by decide +kernel)) ggX6_on_X6_copies
theorem dX6_on_0 : decode cX6_on 0 = .ok (.iload_n 1, 1) := by decide +kernel
theorem dX6_on_1 : decode cX6_on 1 = .ok (.i2l, 1) := by decide +kernel
theorem dX6_on_2 : decode cX6_on 2 = .ok (.lconst 0, 1) := by decide +kernel
theorem dX6_on_3 : decode cX6_on 3 = .ok (.ldc2_w 172, 3) := by decide +kernel
theorem dX6_on_6 : decode cX6_on 6 = .ok (.invokestatic 63, 3) := by decide +kernel
theorem dX6_on_9 : decode cX6_on 9 = .ok (.ifCond .ne 5, 3) := by decide +kernel
theorem dX6_on_12 : decode cX6_on 12 = .ok (.iconst (-1), 1) := by decide +kernel
theorem dX6_on_13 : decode cX6_on 13 = .ok (.ireturn, 1) := by decide +kernel
theorem dX6_on_14 : decode cX6_on 14 = .ok (.aload_n 0, 1) := by decide +kernel
theorem dX6_on_15 : decode cX6_on 15 = .ok (.getfield 28, 3) := by decide +kernel
theorem dX6_on_18 : decode cX6_on 18 = .ok (.iload_n 1, 1) := by decide +kernel
theorem dX6_on_19 : decode cX6_on 19 = .ok (.baload, 1) := by decide +kernel
theorem dX6_on_20 : decode cX6_on 20 = .ok (.ifCond .ne 9, 3) := by decide +kernel
theorem dX6_on_23 : decode cX6_on 23 = .ok (.aload_n 0, 1) := by decide +kernel
theorem dX6_on_24 : decode cX6_on 24 = .ok (.iconst 1, 1) := by decide +kernel
theorem dX6_on_25 : decode cX6_on 25 = .ok (.invokevirtual 73, 3) := by decide +kernel
theorem dX6_on_28 : decode cX6_on 28 = .ok (.ireturn, 1) := by decide +kernel
theorem dX6_on_29 : decode cX6_on 29 = .ok (.aload_n 0, 1) := by decide +kernel
theorem dX6_on_30 : decode cX6_on 30 = .ok (.getfield 25, 3) := by decide +kernel
theorem dX6_on_33 : decode cX6_on 33 = .ok (.bipush 119, 2) := by decide +kernel
theorem dX6_on_35 : decode cX6_on 35 = .ok (.iload_n 1, 1) := by decide +kernel
theorem dX6_on_36 : decode cX6_on 36 = .ok (.imul, 1) := by decide +kernel
theorem dX6_on_37 : decode cX6_on 37 = .ok (.aload_n 0, 1) := by decide +kernel
theorem dX6_on_38 : decode cX6_on 38 = .ok (.getfield 22, 3) := by decide +kernel
theorem dX6_on_41 : decode cX6_on 41 = .ok (.iconst 0, 1) := by decide +kernel
theorem dX6_on_42 : decode cX6_on 42 = .ok (.invokestatic 105, 3) := by decide +kernel
theorem dX6_on_45 : decode cX6_on 45 = .ok (.aload_n 0, 1) := by decide +kernel
theorem dX6_on_46 : decode cX6_on 46 = .ok (.getfield 22, 3) := by decide +kernel
theorem dX6_on_49 : decode cX6_on 49 = .ok (.iconst 3, 1) := by decide +kernel
theorem dX6_on_50 : decode cX6_on 50 = .ok (.iaload, 1) := by decide +kernel
theorem dX6_on_51 : decode cX6_on 51 = .ok (.ireturn, 1) := by decide +kernel
set_option maxRecDepth 20000 in
theorem ggX6_does_X6_isTown : GoodIn wsX6_does wsX6_isTown := goodIn_r _ [4, 5, 6, 7, 3, 8] (by decide +kernel) (by decide +kernel)
set_option maxRecDepth 20000 in
theorem gX6_does_X6_isTown : GoodIn wsX6_does (va_wsS RX6 174 yX6_isTown wsX6_isTown) := goodIn_app (goodIn_of _ (by decide +kernel)) ggX6_does_X6_isTown
set_option maxRecDepth 20000 in
theorem ggX6_does_X6_isDay : GoodIn wsX6_does wsX6_isDay := goodIn_r _ [11, 12, 6, 7, 3, 8] (by decide +kernel) (by decide +kernel)
set_option maxRecDepth 20000 in
theorem gX6_does_X6_isDay : GoodIn wsX6_does (va_wsS RX6 165 yX6_isDay wsX6_isDay) := goodIn_app (goodIn_of _ (by decide +kernel)) ggX6_does_X6_isDay
set_option maxRecDepth 20000 in
theorem ggX6_does_X6_isPerson : GoodIn wsX6_does wsX6_isPerson := goodIn_r _ [16, 17, 6, 7, 3, 8, 45, 46, 47, 48, 49, 50, 51, 52, 53, 54, 55, 56, 57, 58, 59, 60, 61, 62] (by decide +kernel) (by decide +kernel)
set_option maxRecDepth 20000 in
theorem gX6_does_X6_isPerson : GoodIn wsX6_does (wsV RX6 141 RX6 yX6_isPerson wsX6_isPerson) := goodIn_app (goodIn_of _ (by decide +kernel)) ggX6_does_X6_isPerson
set_option maxRecDepth 20000 in
theorem ggX6_does_X6_doing : GoodIn wsX6_does wsX6_doing := goodIn_r _ [21, 22, 23, 24, 25, 3, 26, 27, 28, 29, 30, 17, 31, 32, 33, 34, 35, 36, 37, 38, 39, 40, 41, 42, 43, 44, 45, 46, 47, 48, 49, 50, 51, 52, 53, 54, 55, 56, 57, 58, 59, 60, 61, 62] (by decide +kernel) (by decide +kernel)
set_option maxRecDepth 20000 in
theorem gX6_does_X6_doing : GoodIn wsX6_does (wsV RX6 138 RX6 yX6_doing wsX6_doing) := goodIn_app (goodIn_of _ (by decide +kernel)) ggX6_does_X6_doing
theorem dX6_does_0 : decode cX6_does 0 = .ok (.iload_n 1, 1) := by decide +kernel
theorem dX6_does_1 : decode cX6_does 1 = .ok (.invokestatic 174, 3) := by decide +kernel
theorem dX6_does_4 : decode cX6_does 4 = .ok (.ifCond .eq 28, 3) := by decide +kernel
theorem dX6_does_7 : decode cX6_does 7 = .ok (.iload_n 2, 1) := by decide +kernel
theorem dX6_does_8 : decode cX6_does 8 = .ok (.invokestatic 165, 3) := by decide +kernel
theorem dX6_does_11 : decode cX6_does 11 = .ok (.ifCond .eq 21, 3) := by decide +kernel
theorem dX6_does_14 : decode cX6_does 14 = .ok (.aload_n 0, 1) := by decide +kernel
theorem dX6_does_15 : decode cX6_does 15 = .ok (.iload_n 3, 1) := by decide +kernel
theorem dX6_does_16 : decode cX6_does 16 = .ok (.invokevirtual 141, 3) := by decide +kernel
theorem dX6_does_19 : decode cX6_does 19 = .ok (.ifCond .eq 13, 3) := by decide +kernel
theorem dX6_does_22 : decode cX6_does 22 = .ok (.aload_n 0, 1) := by decide +kernel
theorem dX6_does_23 : decode cX6_does 23 = .ok (.iload_n 3, 1) := by decide +kernel
theorem dX6_does_24 : decode cX6_does 24 = .ok (.iload_n 1, 1) := by decide +kernel
theorem dX6_does_25 : decode cX6_does 25 = .ok (.iload_n 2, 1) := by decide +kernel
theorem dX6_does_26 : decode cX6_does 26 = .ok (.invokevirtual 138, 3) := by decide +kernel
theorem dX6_does_29 : decode cX6_does 29 = .ok (.goto 4, 3) := by decide +kernel
theorem dX6_does_32 : decode cX6_does 32 = .ok (.iconst (-1), 1) := by decide +kernel
theorem dX6_does_33 : decode cX6_does 33 = .ok (.ireturn, 1) := by decide +kernel
theorem dX6_areTowns_0 : decode cX6_areTowns 0 = .ok (.iload_n 0, 1) := by decide +kernel
theorem dX6_areTowns_1 : decode cX6_areTowns 1 = .ok (.ifCond .lt 17, 3) := by decide +kernel
theorem dX6_areTowns_4 : decode cX6_areTowns 4 = .ok (.iload_n 0, 1) := by decide +kernel
theorem dX6_areTowns_5 : decode cX6_areTowns 5 = .ok (.iload_n 1, 1) := by decide +kernel
theorem dX6_areTowns_6 : decode cX6_areTowns 6 = .ok (.if_icmp .ge 12, 3) := by decide +kernel
theorem dX6_areTowns_9 : decode cX6_areTowns 9 = .ok (.iload_n 1, 1) := by decide +kernel
theorem dX6_areTowns_10 : decode cX6_areTowns 10 = .ok (.iconst 5, 1) := by decide +kernel
theorem dX6_areTowns_11 : decode cX6_areTowns 11 = .ok (.if_icmp .ge 7, 3) := by decide +kernel
theorem dX6_areTowns_14 : decode cX6_areTowns 14 = .ok (.iconst 1, 1) := by decide +kernel
theorem dX6_areTowns_15 : decode cX6_areTowns 15 = .ok (.goto 4, 3) := by decide +kernel
theorem dX6_areTowns_18 : decode cX6_areTowns 18 = .ok (.iconst 0, 1) := by decide +kernel
theorem dX6_areTowns_19 : decode cX6_areTowns 19 = .ok (.ireturn, 1) := by decide +kernel
theorem dX6_differs_0 : decode cX6_differs 0 = .ok (.aload_n 0, 1) := by decide +kernel
theorem dX6_differs_1 : decode cX6_differs 1 = .ok (.getfield 45, 3) := by decide +kernel
theorem dX6_differs_4 : decode cX6_differs 4 = .ok (.bipush 20, 2) := by decide +kernel
theorem dX6_differs_6 : decode cX6_differs 6 = .ok (.iload_n 2, 1) := by decide +kernel
theorem dX6_differs_7 : decode cX6_differs 7 = .ok (.imul, 1) := by decide +kernel
theorem dX6_differs_8 : decode cX6_differs 8 = .ok (.iload_n 3, 1) := by decide +kernel
theorem dX6_differs_9 : decode cX6_differs 9 = .ok (.iadd, 1) := by decide +kernel
theorem dX6_differs_10 : decode cX6_differs 10 = .ok (.iaload, 1) := by decide +kernel
theorem dX6_differs_11 : decode cX6_differs 11 = .ok (.aload_n 0, 1) := by decide +kernel
theorem dX6_differs_12 : decode cX6_differs 12 = .ok (.getfield 45, 3) := by decide +kernel
theorem dX6_differs_15 : decode cX6_differs 15 = .ok (.bipush 20, 2) := by decide +kernel
theorem dX6_differs_17 : decode cX6_differs 17 = .ok (.iload_n 1, 1) := by decide +kernel
theorem dX6_differs_18 : decode cX6_differs 18 = .ok (.imul, 1) := by decide +kernel
theorem dX6_differs_19 : decode cX6_differs 19 = .ok (.iload_n 3, 1) := by decide +kernel
theorem dX6_differs_20 : decode cX6_differs 20 = .ok (.iadd, 1) := by decide +kernel
theorem dX6_differs_21 : decode cX6_differs 21 = .ok (.iload_n 2, 1) := by decide +kernel
theorem dX6_differs_22 : decode cX6_differs 22 = .ok (.iload_n 1, 1) := by decide +kernel
theorem dX6_differs_23 : decode cX6_differs 23 = .ok (.isub, 1) := by decide +kernel
theorem dX6_differs_24 : decode cX6_differs 24 = .ok (.isub, 1) := by decide +kernel
theorem dX6_differs_25 : decode cX6_differs 25 = .ok (.iaload, 1) := by decide +kernel
theorem dX6_differs_26 : decode cX6_differs 26 = .ok (.if_icmp .eq 7, 3) := by decide +kernel
theorem dX6_differs_29 : decode cX6_differs 29 = .ok (.iconst 1, 1) := by decide +kernel
theorem dX6_differs_30 : decode cX6_differs 30 = .ok (.goto 4, 3) := by decide +kernel
theorem dX6_differs_33 : decode cX6_differs 33 = .ok (.iconst 0, 1) := by decide +kernel
theorem dX6_differs_34 : decode cX6_differs 34 = .ok (.ireturn, 1) := by decide +kernel
set_option maxRecDepth 20000 in
theorem ggX6_differing_X6_lays : GoodIn wsX6_differing wsX6_lays := goodIn_r _ [6, 7, 1, 8, 9, 10, 5, 11, 12, 13, 14, 15, 16, 17, 22, 23, 24, 25, 26, 27, 28, 29, 30, 31, 32, 33, 34, 35, 36, 37, 38, 39] (by decide +kernel) (by decide +kernel)
set_option maxRecDepth 20000 in
theorem gX6_differing_X6_lays : GoodIn wsX6_differing (wsV RX6 130 RX6 yX6_lays wsX6_lays) := goodIn_app (goodIn_of _ (by decide +kernel)) ggX6_differing_X6_lays
set_option maxRecDepth 20000 in
theorem ggX6_differing_X6_differs : GoodIn wsX6_differing wsX6_differs := goodIn_r _ [21, 8, 22, 23, 24, 25, 26, 27, 28, 29, 30, 31, 32, 33, 34, 35, 36, 37, 38, 39] (by decide +kernel) (by decide +kernel)
set_option maxRecDepth 20000 in
theorem gX6_differing_X6_differs : GoodIn wsX6_differing (wsV RX6 177 RX6 yX6_differs wsX6_differs) := goodIn_app (goodIn_of _ (by decide +kernel)) ggX6_differing_X6_differs
theorem dX6_differing_0 : decode cX6_differing 0 = .ok (.iconst 0, 1) := by decide +kernel
theorem dX6_differing_1 : decode cX6_differing 1 = .ok (.istore 5, 2) := by decide +kernel
theorem dX6_differing_3 : decode cX6_differing 3 = .ok (.iconst 0, 1) := by decide +kernel
theorem dX6_differing_4 : decode cX6_differing 4 = .ok (.istore 6, 2) := by decide +kernel
theorem dX6_differing_6 : decode cX6_differing 6 = .ok (.iload 6, 2) := by decide +kernel
theorem dX6_differing_8 : decode cX6_differing 8 = .ok (.aload_n 0, 1) := by decide +kernel
theorem dX6_differing_9 : decode cX6_differing 9 = .ok (.getfield 22, 3) := by decide +kernel
theorem dX6_differing_12 : decode cX6_differing 12 = .ok (.iconst 0, 1) := by decide +kernel
theorem dX6_differing_13 : decode cX6_differing 13 = .ok (.iaload, 1) := by decide +kernel
theorem dX6_differing_14 : decode cX6_differing 14 = .ok (.if_icmp .ge 41, 3) := by decide +kernel
theorem dX6_differing_17 : decode cX6_differing 17 = .ok (.aload_n 0, 1) := by decide +kernel
theorem dX6_differing_18 : decode cX6_differing 18 = .ok (.iload 6, 2) := by decide +kernel
theorem dX6_differing_20 : decode cX6_differing 20 = .ok (.iload 4, 2) := by decide +kernel
theorem dX6_differing_22 : decode cX6_differing 22 = .ok (.iconst (-1), 1) := by decide +kernel
theorem dX6_differing_23 : decode cX6_differing 23 = .ok (.invokevirtual 130, 3) := by decide +kernel
theorem dX6_differing_26 : decode cX6_differing 26 = .ok (.iload 5, 2) := by decide +kernel
theorem dX6_differing_28 : decode cX6_differing 28 = .ok (.aload_n 0, 1) := by decide +kernel
theorem dX6_differing_29 : decode cX6_differing 29 = .ok (.iload_n 1, 1) := by decide +kernel
theorem dX6_differing_30 : decode cX6_differing 30 = .ok (.iload_n 2, 1) := by decide +kernel
theorem dX6_differing_31 : decode cX6_differing 31 = .ok (.iload_n 3, 1) := by decide +kernel
theorem dX6_differing_32 : decode cX6_differing 32 = .ok (.invokevirtual 177, 3) := by decide +kernel
theorem dX6_differing_35 : decode cX6_differing 35 = .ok (.ifCond .eq 10, 3) := by decide +kernel
theorem dX6_differing_38 : decode cX6_differing 38 = .ok (.iconst 1, 1) := by decide +kernel
theorem dX6_differing_39 : decode cX6_differing 39 = .ok (.iload 6, 2) := by decide +kernel
theorem dX6_differing_41 : decode cX6_differing 41 = .ok (.ishl, 1) := by decide +kernel
theorem dX6_differing_42 : decode cX6_differing 42 = .ok (.goto 4, 3) := by decide +kernel
theorem dX6_differing_45 : decode cX6_differing 45 = .ok (.iconst 0, 1) := by decide +kernel
theorem dX6_differing_46 : decode cX6_differing 46 = .ok (.ior, 1) := by decide +kernel
theorem dX6_differing_47 : decode cX6_differing 47 = .ok (.istore 5, 2) := by decide +kernel
theorem dX6_differing_49 : decode cX6_differing 49 = .ok (.iinc 6 1, 3) := by decide +kernel
theorem dX6_differing_52 : decode cX6_differing 52 = .ok (.goto (-46), 3) := by decide +kernel
theorem dX6_differing_55 : decode cX6_differing 55 = .ok (.iload 5, 2) := by decide +kernel
theorem dX6_differing_57 : decode cX6_differing 57 = .ok (.ireturn, 1) := by decide +kernel
set_option maxRecDepth 20000 in
theorem ggX6_differ_X6_areTowns : GoodIn wsX6_differ wsX6_areTowns := goodIn_r _ [5] (by decide +kernel) (by decide +kernel)
set_option maxRecDepth 20000 in
theorem gX6_differ_X6_areTowns : GoodIn wsX6_differ (va_wsS RX6 181 yX6_areTowns wsX6_areTowns) := goodIn_app (goodIn_of _ (by decide +kernel)) ggX6_differ_X6_areTowns
set_option maxRecDepth 20000 in
theorem ggX6_differ_X6_in : GoodIn wsX6_differ wsX6_in := goodIn_r _ [8] (by decide +kernel) (by decide +kernel)
set_option maxRecDepth 20000 in
theorem gX6_differ_X6_in : GoodIn wsX6_differ (va_wsS RX6 63 yX6_in wsX6_in) := goodIn_app (goodIn_of _ (by decide +kernel)) ggX6_differ_X6_in
set_option maxRecDepth 20000 in
theorem ggX6_differ_X6_live : GoodIn wsX6_differ wsX6_live := goodIn_r _ [12, 13, 37, 38, 39, 40, 41, 42, 43, 44, 45, 46, 47, 48, 49, 50, 51, 52, 53, 54] (by decide +kernel) (by decide +kernel)
set_option maxRecDepth 20000 in
theorem gX6_differ_X6_live : GoodIn wsX6_differ (wsV RX6 126 RX6 yX6_live wsX6_live) := goodIn_app (goodIn_of _ (by decide +kernel)) ggX6_differ_X6_live
set_option maxRecDepth 20000 in
theorem ggX6_differ_X6_differing : GoodIn wsX6_differ wsX6_differing := goodIn_r _ [17, 13, 18, 19, 20, 4, 21, 22, 23, 24, 25, 26, 27, 28, 29, 30, 31, 32, 33, 34, 35, 36, 37, 38, 39, 40, 41, 42, 43, 44, 45, 46, 47, 48, 49, 50, 51, 52, 53, 54] (by decide +kernel) (by decide +kernel)
set_option maxRecDepth 20000 in
theorem gX6_differ_X6_differing : GoodIn wsX6_differ (wsV RX6 184 RX6 yX6_differing wsX6_differing) := goodIn_app (goodIn_of _ (by decide +kernel)) ggX6_differ_X6_differing
theorem dX6_differ_0 : decode cX6_differ 0 = .ok (.iload_n 1, 1) := by decide +kernel
theorem dX6_differ_1 : decode cX6_differ 1 = .ok (.iload_n 2, 1) := by decide +kernel
theorem dX6_differ_2 : decode cX6_differ 2 = .ok (.invokestatic 181, 3) := by decide +kernel
theorem dX6_differ_5 : decode cX6_differ 5 = .ok (.ifCond .eq 30, 3) := by decide +kernel
theorem dX6_differ_8 : decode cX6_differ 8 = .ok (.iload_n 3, 1) := by decide +kernel
theorem dX6_differ_9 : decode cX6_differ 9 = .ok (.i2l, 1) := by decide +kernel
theorem dX6_differ_10 : decode cX6_differ 10 = .ok (.iload_n 2, 1) := by decide +kernel
theorem dX6_differ_11 : decode cX6_differ 11 = .ok (.i2l, 1) := by decide +kernel
theorem dX6_differ_12 : decode cX6_differ 12 = .ok (.ldc2_w 111, 3) := by decide +kernel
theorem dX6_differ_15 : decode cX6_differ 15 = .ok (.invokestatic 63, 3) := by decide +kernel
theorem dX6_differ_18 : decode cX6_differ 18 = .ok (.ifCond .eq 17, 3) := by decide +kernel
theorem dX6_differ_21 : decode cX6_differ 21 = .ok (.aload_n 0, 1) := by decide +kernel
theorem dX6_differ_22 : decode cX6_differ 22 = .ok (.iload_n 1, 1) := by decide +kernel
theorem dX6_differ_23 : decode cX6_differ 23 = .ok (.iload_n 2, 1) := by decide +kernel
theorem dX6_differ_24 : decode cX6_differ 24 = .ok (.iload_n 3, 1) := by decide +kernel
theorem dX6_differ_25 : decode cX6_differ 25 = .ok (.aload_n 0, 1) := by decide +kernel
theorem dX6_differ_26 : decode cX6_differ 26 = .ok (.invokevirtual 126, 3) := by decide +kernel
theorem dX6_differ_29 : decode cX6_differ 29 = .ok (.invokevirtual 184, 3) := by decide +kernel
theorem dX6_differ_32 : decode cX6_differ 32 = .ok (.goto 4, 3) := by decide +kernel
theorem dX6_differ_35 : decode cX6_differ 35 = .ok (.iconst (-1), 1) := by decide +kernel
theorem dX6_differ_36 : decode cX6_differ 36 = .ok (.ireturn, 1) := by decide +kernel
set_option maxRecDepth 20000 in
theorem ggX6_since_X6_areTowns : GoodIn wsX6_since wsX6_areTowns := goodIn_r _ [4] (by decide +kernel) (by decide +kernel)
set_option maxRecDepth 20000 in
theorem gX6_since_X6_areTowns : GoodIn wsX6_since (va_wsS RX6 181 yX6_areTowns wsX6_areTowns) := goodIn_app (goodIn_of _ (by decide +kernel)) ggX6_since_X6_areTowns
set_option maxRecDepth 20000 in
theorem ggX6_since_X6_isPerson : GoodIn wsX6_since wsX6_isPerson := goodIn_r _ [8, 9, 10, 11, 3, 12, 45, 46, 47, 48, 49, 50, 51, 52, 53, 54, 55, 56, 57, 58, 59, 60, 61, 62] (by decide +kernel) (by decide +kernel)
set_option maxRecDepth 20000 in
theorem gX6_since_X6_isPerson : GoodIn wsX6_since (wsV RX6 141 RX6 yX6_isPerson wsX6_isPerson) := goodIn_app (goodIn_of _ (by decide +kernel)) ggX6_since_X6_isPerson
set_option maxRecDepth 20000 in
theorem ggX6_since_X6_layNow : GoodIn wsX6_since wsX6_layNow := goodIn_r _ [16, 17, 18, 19, 3, 20, 9, 21, 22, 23, 24, 25, 26, 27, 28, 29, 30, 31, 32, 33, 34, 35, 45, 46, 47, 48, 49, 50, 51, 52, 53, 54, 55, 56, 57, 58, 59, 60, 61, 62] (by decide +kernel) (by decide +kernel)
set_option maxRecDepth 20000 in
theorem gX6_since_X6_layNow : GoodIn wsX6_since (wsV RX6 134 RX6 yX6_layNow wsX6_layNow) := goodIn_app (goodIn_of _ (by decide +kernel)) ggX6_since_X6_layNow
set_option maxRecDepth 20000 in
theorem ggX6_since_X6_differs : GoodIn wsX6_since wsX6_differs := goodIn_r _ [39, 26, 45, 46, 47, 48, 49, 50, 51, 52, 53, 54, 55, 56, 57, 58, 59, 60, 61, 62] (by decide +kernel) (by decide +kernel)
set_option maxRecDepth 20000 in
theorem gX6_since_X6_differs : GoodIn wsX6_since (wsV RX6 177 RX6 yX6_differs wsX6_differs) := goodIn_app (goodIn_of _ (by decide +kernel)) ggX6_since_X6_differs
set_option maxRecDepth 20000 in
theorem ggX6_since_X6_answer : GoodIn wsX6_since wsX6_answer := goodIn_r _ [43, 44, 45, 46, 47, 48, 49, 50, 51, 52, 53, 54, 55, 56, 57, 58, 59, 60, 61, 62] (by decide +kernel) (by decide +kernel)
set_option maxRecDepth 20000 in
theorem gX6_since_X6_answer : GoodIn wsX6_since (wsV RX6 187 RX6 yX6_answer wsX6_answer) := goodIn_app (goodIn_of _ (by decide +kernel)) ggX6_since_X6_answer
theorem dX6_since_0 : decode cX6_since 0 = .ok (.iload_n 1, 1) := by decide +kernel
theorem dX6_since_1 : decode cX6_since 1 = .ok (.iload_n 2, 1) := by decide +kernel
theorem dX6_since_2 : decode cX6_since 2 = .ok (.invokestatic 181, 3) := by decide +kernel
theorem dX6_since_5 : decode cX6_since 5 = .ok (.ifCond .eq 11, 3) := by decide +kernel
theorem dX6_since_8 : decode cX6_since 8 = .ok (.aload_n 0, 1) := by decide +kernel
theorem dX6_since_9 : decode cX6_since 9 = .ok (.iload_n 3, 1) := by decide +kernel
theorem dX6_since_10 : decode cX6_since 10 = .ok (.invokevirtual 141, 3) := by decide +kernel
theorem dX6_since_13 : decode cX6_since 13 = .ok (.ifCond .ne 5, 3) := by decide +kernel
theorem dX6_since_16 : decode cX6_since 16 = .ok (.iconst (-1), 1) := by decide +kernel
theorem dX6_since_17 : decode cX6_since 17 = .ok (.ireturn, 1) := by decide +kernel
theorem dX6_since_18 : decode cX6_since 18 = .ok (.aload_n 0, 1) := by decide +kernel
theorem dX6_since_19 : decode cX6_since 19 = .ok (.iload_n 3, 1) := by decide +kernel
theorem dX6_since_20 : decode cX6_since 20 = .ok (.invokevirtual 134, 3) := by decide +kernel
theorem dX6_since_23 : decode cX6_since 23 = .ok (.bipush (-9), 2) := by decide +kernel
theorem dX6_since_25 : decode cX6_since 25 = .ok (.istore 4, 2) := by decide +kernel
