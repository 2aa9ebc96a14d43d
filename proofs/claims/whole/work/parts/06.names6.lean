theorem dX9_tick_6 : decode cX9_tick 6 = .ok (.iaload, 1) := by decide +kernel
theorem dX9_tick_7 : decode cX9_tick 7 = .ok (.invokevirtual 85, 3) := by decide +kernel
theorem dX9_tick_10 : decode cX9_tick 10 = .ok (.aload_n 0, 1) := by decide +kernel
theorem dX9_tick_11 : decode cX9_tick 11 = .ok (.getfield 16, 3) := by decide +kernel
theorem dX9_tick_14 : decode cX9_tick 14 = .ok (.iconst 1, 1) := by decide +kernel
theorem dX9_tick_15 : decode cX9_tick 15 = .ok (.iaload, 1) := by decide +kernel
theorem dX9_tick_16 : decode cX9_tick 16 = .ok (.istore_n 1, 1) := by decide +kernel
theorem dX9_tick_17 : decode cX9_tick 17 = .ok (.aload_n 0, 1) := by decide +kernel
theorem dX9_tick_18 : decode cX9_tick 18 = .ok (.getfield 29, 3) := by decide +kernel
theorem dX9_tick_21 : decode cX9_tick 21 = .ok (.iconst 3, 1) := by decide +kernel
theorem dX9_tick_22 : decode cX9_tick 22 = .ok (.iaload, 1) := by decide +kernel
theorem dX9_tick_23 : decode cX9_tick 23 = .ok (.istore_n 2, 1) := by decide +kernel
theorem dX9_tick_24 : decode cX9_tick 24 = .ok (.iload_n 2, 1) := by decide +kernel
theorem dX9_tick_25 : decode cX9_tick 25 = .ok (.ifCond .ne 12, 3) := by decide +kernel
theorem dX9_tick_28 : decode cX9_tick 28 = .ok (.aload_n 0, 1) := by decide +kernel
theorem dX9_tick_29 : decode cX9_tick 29 = .ok (.getfield 16, 3) := by decide +kernel
theorem dX9_tick_32 : decode cX9_tick 32 = .ok (.iconst 3, 1) := by decide +kernel
theorem dX9_tick_33 : decode cX9_tick 33 = .ok (.iaload, 1) := by decide +kernel
theorem dX9_tick_34 : decode cX9_tick 34 = .ok (.goto 16, 3) := by decide +kernel
theorem dX9_tick_37 : decode cX9_tick 37 = .ok (.aload_n 0, 1) := by decide +kernel
theorem dX9_tick_38 : decode cX9_tick 38 = .ok (.getfield 16, 3) := by decide +kernel
theorem dX9_tick_41 : decode cX9_tick 41 = .ok (.bipush 10, 2) := by decide +kernel
theorem dX9_tick_43 : decode cX9_tick 43 = .ok (.iconst 3, 1) := by decide +kernel
theorem dX9_tick_44 : decode cX9_tick 44 = .ok (.iload_n 2, 1) := by decide +kernel
theorem dX9_tick_45 : decode cX9_tick 45 = .ok (.iconst 1, 1) := by decide +kernel
theorem dX9_tick_46 : decode cX9_tick 46 = .ok (.isub, 1) := by decide +kernel
theorem dX9_tick_47 : decode cX9_tick 47 = .ok (.imul, 1) := by decide +kernel
theorem dX9_tick_48 : decode cX9_tick 48 = .ok (.iadd, 1) := by decide +kernel
theorem dX9_tick_49 : decode cX9_tick 49 = .ok (.iaload, 1) := by decide +kernel
theorem dX9_tick_50 : decode cX9_tick 50 = .ok (.istore_n 3, 1) := by decide +kernel
theorem dX9_tick_51 : decode cX9_tick 51 = .ok (.iload_n 2, 1) := by decide +kernel
theorem dX9_tick_52 : decode cX9_tick 52 = .ok (.ifCond .ne 12, 3) := by decide +kernel
theorem dX9_tick_55 : decode cX9_tick 55 = .ok (.aload_n 0, 1) := by decide +kernel
theorem dX9_tick_56 : decode cX9_tick 56 = .ok (.getfield 16, 3) := by decide +kernel
theorem dX9_tick_59 : decode cX9_tick 59 = .ok (.iconst 5, 1) := by decide +kernel
theorem dX9_tick_60 : decode cX9_tick 60 = .ok (.iaload, 1) := by decide +kernel
theorem dX9_tick_61 : decode cX9_tick 61 = .ok (.goto 18, 3) := by decide +kernel
theorem dX9_tick_64 : decode cX9_tick 64 = .ok (.aload_n 0, 1) := by decide +kernel
theorem dX9_tick_65 : decode cX9_tick 65 = .ok (.getfield 16, 3) := by decide +kernel
theorem dX9_tick_68 : decode cX9_tick 68 = .ok (.bipush 10, 2) := by decide +kernel
theorem dX9_tick_70 : decode cX9_tick 70 = .ok (.iconst 3, 1) := by decide +kernel
theorem dX9_tick_71 : decode cX9_tick 71 = .ok (.iload_n 2, 1) := by decide +kernel
theorem dX9_tick_72 : decode cX9_tick 72 = .ok (.iconst 1, 1) := by decide +kernel
theorem dX9_tick_73 : decode cX9_tick 73 = .ok (.isub, 1) := by decide +kernel
theorem dX9_tick_74 : decode cX9_tick 74 = .ok (.imul, 1) := by decide +kernel
theorem dX9_tick_75 : decode cX9_tick 75 = .ok (.iadd, 1) := by decide +kernel
theorem dX9_tick_76 : decode cX9_tick 76 = .ok (.iconst 1, 1) := by decide +kernel
theorem dX9_tick_77 : decode cX9_tick 77 = .ok (.iadd, 1) := by decide +kernel
theorem dX9_tick_78 : decode cX9_tick 78 = .ok (.iaload, 1) := by decide +kernel
theorem dX9_tick_79 : decode cX9_tick 79 = .ok (.istore 4, 2) := by decide +kernel
theorem dX9_tick_81 : decode cX9_tick 81 = .ok (.iload_n 2, 1) := by decide +kernel
theorem dX9_tick_82 : decode cX9_tick 82 = .ok (.ifCond .ne 12, 3) := by decide +kernel
theorem dX9_tick_85 : decode cX9_tick 85 = .ok (.aload_n 0, 1) := by decide +kernel
theorem dX9_tick_86 : decode cX9_tick 86 = .ok (.getfield 16, 3) := by decide +kernel
theorem dX9_tick_89 : decode cX9_tick 89 = .ok (.iconst 4, 1) := by decide +kernel
theorem dX9_tick_90 : decode cX9_tick 90 = .ok (.iaload, 1) := by decide +kernel
theorem dX9_tick_91 : decode cX9_tick 91 = .ok (.goto 18, 3) := by decide +kernel
theorem dX9_tick_94 : decode cX9_tick 94 = .ok (.aload_n 0, 1) := by decide +kernel
theorem dX9_tick_95 : decode cX9_tick 95 = .ok (.getfield 16, 3) := by decide +kernel
theorem dX9_tick_98 : decode cX9_tick 98 = .ok (.bipush 10, 2) := by decide +kernel
theorem dX9_tick_100 : decode cX9_tick 100 = .ok (.iconst 3, 1) := by decide +kernel
theorem dX9_tick_101 : decode cX9_tick 101 = .ok (.iload_n 2, 1) := by decide +kernel
theorem dX9_tick_102 : decode cX9_tick 102 = .ok (.iconst 1, 1) := by decide +kernel
theorem dX9_tick_103 : decode cX9_tick 103 = .ok (.isub, 1) := by decide +kernel
theorem dX9_tick_104 : decode cX9_tick 104 = .ok (.imul, 1) := by decide +kernel
theorem dX9_tick_105 : decode cX9_tick 105 = .ok (.iadd, 1) := by decide +kernel
theorem dX9_tick_106 : decode cX9_tick 106 = .ok (.iconst 2, 1) := by decide +kernel
theorem dX9_tick_107 : decode cX9_tick 107 = .ok (.iadd, 1) := by decide +kernel
theorem dX9_tick_108 : decode cX9_tick 108 = .ok (.iaload, 1) := by decide +kernel
theorem dX9_tick_109 : decode cX9_tick 109 = .ok (.istore 5, 2) := by decide +kernel
theorem dX9_tick_111 : decode cX9_tick 111 = .ok (.aload_n 0, 1) := by decide +kernel
theorem dX9_tick_112 : decode cX9_tick 112 = .ok (.getfield 29, 3) := by decide +kernel
theorem dX9_tick_115 : decode cX9_tick 115 = .ok (.iconst 0, 1) := by decide +kernel
theorem dX9_tick_116 : decode cX9_tick 116 = .ok (.iaload, 1) := by decide +kernel
theorem dX9_tick_117 : decode cX9_tick 117 = .ok (.iload_n 3, 1) := by decide +kernel
theorem dX9_tick_118 : decode cX9_tick 118 = .ok (.imul, 1) := by decide +kernel
theorem dX9_tick_119 : decode cX9_tick 119 = .ok (.aload_n 0, 1) := by decide +kernel
theorem dX9_tick_120 : decode cX9_tick 120 = .ok (.getfield 29, 3) := by decide +kernel
theorem dX9_tick_123 : decode cX9_tick 123 = .ok (.iconst 1, 1) := by decide +kernel
theorem dX9_tick_124 : decode cX9_tick 124 = .ok (.iaload, 1) := by decide +kernel
theorem dX9_tick_125 : decode cX9_tick 125 = .ok (.iload 4, 2) := by decide +kernel
theorem dX9_tick_127 : decode cX9_tick 127 = .ok (.imul, 1) := by decide +kernel
theorem dX9_tick_128 : decode cX9_tick 128 = .ok (.iadd, 1) := by decide +kernel
theorem dX9_tick_129 : decode cX9_tick 129 = .ok (.aload_n 0, 1) := by decide +kernel
theorem dX9_tick_130 : decode cX9_tick 130 = .ok (.getfield 29, 3) := by decide +kernel
theorem dX9_tick_133 : decode cX9_tick 133 = .ok (.iconst 2, 1) := by decide +kernel
theorem dX9_tick_134 : decode cX9_tick 134 = .ok (.iaload, 1) := by decide +kernel
theorem dX9_tick_135 : decode cX9_tick 135 = .ok (.iload 5, 2) := by decide +kernel
theorem dX9_tick_137 : decode cX9_tick 137 = .ok (.imul, 1) := by decide +kernel
theorem dX9_tick_138 : decode cX9_tick 138 = .ok (.iadd, 1) := by decide +kernel
theorem dX9_tick_139 : decode cX9_tick 139 = .ok (.bipush 10, 2) := by decide +kernel
theorem dX9_tick_141 : decode cX9_tick 141 = .ok (.idiv, 1) := by decide +kernel
theorem dX9_tick_142 : decode cX9_tick 142 = .ok (.istore 6, 2) := by decide +kernel
theorem dX9_tick_144 : decode cX9_tick 144 = .ok (.iload 6, 2) := by decide +kernel
theorem dX9_tick_146 : decode cX9_tick 146 = .ok (.aload_n 0, 1) := by decide +kernel
theorem dX9_tick_147 : decode cX9_tick 147 = .ok (.getfield 29, 3) := by decide +kernel
theorem dX9_tick_150 : decode cX9_tick 150 = .ok (.iconst 4, 1) := by decide +kernel
theorem dX9_tick_151 : decode cX9_tick 151 = .ok (.iaload, 1) := by decide +kernel
theorem dX9_tick_152 : decode cX9_tick 152 = .ok (.if_icmp .le 12, 3) := by decide +kernel
theorem dX9_tick_155 : decode cX9_tick 155 = .ok (.aload_n 0, 1) := by decide +kernel
theorem dX9_tick_156 : decode cX9_tick 156 = .ok (.getfield 29, 3) := by decide +kernel
theorem dX9_tick_159 : decode cX9_tick 159 = .ok (.iconst 4, 1) := by decide +kernel
theorem dX9_tick_160 : decode cX9_tick 160 = .ok (.iaload, 1) := by decide +kernel
theorem dX9_tick_161 : decode cX9_tick 161 = .ok (.goto 27, 3) := by decide +kernel
theorem dX9_tick_164 : decode cX9_tick 164 = .ok (.iload 6, 2) := by decide +kernel
theorem dX9_tick_166 : decode cX9_tick 166 = .ok (.aload_n 0, 1) := by decide +kernel
theorem dX9_tick_167 : decode cX9_tick 167 = .ok (.getfield 29, 3) := by decide +kernel
theorem dX9_tick_170 : decode cX9_tick 170 = .ok (.iconst 4, 1) := by decide +kernel
theorem dX9_tick_171 : decode cX9_tick 171 = .ok (.iaload, 1) := by decide +kernel
theorem dX9_tick_172 : decode cX9_tick 172 = .ok (.ineg, 1) := by decide +kernel
theorem dX9_tick_173 : decode cX9_tick 173 = .ok (.if_icmp .ge 13, 3) := by decide +kernel
theorem dX9_tick_176 : decode cX9_tick 176 = .ok (.aload_n 0, 1) := by decide +kernel
theorem dX9_tick_177 : decode cX9_tick 177 = .ok (.getfield 29, 3) := by decide +kernel
theorem dX9_tick_180 : decode cX9_tick 180 = .ok (.iconst 4, 1) := by decide +kernel
theorem dX9_tick_181 : decode cX9_tick 181 = .ok (.iaload, 1) := by decide +kernel
theorem dX9_tick_182 : decode cX9_tick 182 = .ok (.ineg, 1) := by decide +kernel
theorem dX9_tick_183 : decode cX9_tick 183 = .ok (.goto 5, 3) := by decide +kernel
theorem dX9_tick_186 : decode cX9_tick 186 = .ok (.iload 6, 2) := by decide +kernel
theorem dX9_tick_188 : decode cX9_tick 188 = .ok (.istore 6, 2) := by decide +kernel
theorem dX9_tick_190 : decode cX9_tick 190 = .ok (.aload_n 0, 1) := by decide +kernel
theorem dX9_tick_191 : decode cX9_tick 191 = .ok (.getfield 16, 3) := by decide +kernel
theorem dX9_tick_194 : decode cX9_tick 194 = .ok (.iconst 2, 1) := by decide +kernel
theorem dX9_tick_195 : decode cX9_tick 195 = .ok (.iaload, 1) := by decide +kernel
theorem dX9_tick_196 : decode cX9_tick 196 = .ok (.iconst 1, 1) := by decide +kernel
theorem dX9_tick_197 : decode cX9_tick 197 = .ok (.if_icmp .ne 9, 3) := by decide +kernel
theorem dX9_tick_200 : decode cX9_tick 200 = .ok (.iload 6, 2) := by decide +kernel
theorem dX9_tick_202 : decode cX9_tick 202 = .ok (.ineg, 1) := by decide +kernel
theorem dX9_tick_203 : decode cX9_tick 203 = .ok (.goto 5, 3) := by decide +kernel
theorem dX9_tick_206 : decode cX9_tick 206 = .ok (.iload 6, 2) := by decide +kernel
theorem dX9_tick_208 : decode cX9_tick 208 = .ok (.istore 6, 2) := by decide +kernel
theorem dX9_tick_210 : decode cX9_tick 210 = .ok (.aload_n 0, 1) := by decide +kernel
theorem dX9_tick_211 : decode cX9_tick 211 = .ok (.getfield 13, 3) := by decide +kernel
theorem dX9_tick_214 : decode cX9_tick 214 = .ok (.iconst 3, 1) := by decide +kernel
theorem dX9_tick_215 : decode cX9_tick 215 = .ok (.iaload, 1) := by decide +kernel
theorem dX9_tick_216 : decode cX9_tick 216 = .ok (.aload_n 0, 1) := by decide +kernel
theorem dX9_tick_217 : decode cX9_tick 217 = .ok (.getfield 16, 3) := by decide +kernel
theorem dX9_tick_220 : decode cX9_tick 220 = .ok (.iconst 3, 1) := by decide +kernel
theorem dX9_tick_221 : decode cX9_tick 221 = .ok (.iaload, 1) := by decide +kernel
theorem dX9_tick_222 : decode cX9_tick 222 = .ok (.imul, 1) := by decide +kernel
theorem dX9_tick_223 : decode cX9_tick 223 = .ok (.iload_n 1, 1) := by decide +kernel
theorem dX9_tick_224 : decode cX9_tick 224 = .ok (.iload_n 1, 1) := by decide +kernel
theorem dX9_tick_225 : decode cX9_tick 225 = .ok (.imul, 1) := by decide +kernel
theorem dX9_tick_226 : decode cX9_tick 226 = .ok (.aload_n 0, 1) := by decide +kernel
theorem dX9_tick_227 : decode cX9_tick 227 = .ok (.getfield 16, 3) := by decide +kernel
theorem dX9_tick_230 : decode cX9_tick 230 = .ok (.iconst 4, 1) := by decide +kernel
theorem dX9_tick_231 : decode cX9_tick 231 = .ok (.iaload, 1) := by decide +kernel
theorem dX9_tick_232 : decode cX9_tick 232 = .ok (.imul, 1) := by decide +kernel
theorem dX9_tick_233 : decode cX9_tick 233 = .ok (.aload_n 0, 1) := by decide +kernel
theorem dX9_tick_234 : decode cX9_tick 234 = .ok (.getfield 13, 3) := by decide +kernel
theorem dX9_tick_237 : decode cX9_tick 237 = .ok (.iconst 4, 1) := by decide +kernel
theorem dX9_tick_238 : decode cX9_tick 238 = .ok (.iaload, 1) := by decide +kernel
theorem dX9_tick_239 : decode cX9_tick 239 = .ok (.idiv, 1) := by decide +kernel
theorem dX9_tick_240 : decode cX9_tick 240 = .ok (.isub, 1) := by decide +kernel
theorem dX9_tick_241 : decode cX9_tick 241 = .ok (.aload_n 0, 1) := by decide +kernel
theorem dX9_tick_242 : decode cX9_tick 242 = .ok (.getfield 13, 3) := by decide +kernel
theorem dX9_tick_245 : decode cX9_tick 245 = .ok (.iconst 0, 1) := by decide +kernel
theorem dX9_tick_246 : decode cX9_tick 246 = .ok (.iaload, 1) := by decide +kernel
theorem dX9_tick_247 : decode cX9_tick 247 = .ok (.iload_n 1, 1) := by decide +kernel
theorem dX9_tick_248 : decode cX9_tick 248 = .ok (.imul, 1) := by decide +kernel
theorem dX9_tick_249 : decode cX9_tick 249 = .ok (.aload_n 0, 1) := by decide +kernel
theorem dX9_tick_250 : decode cX9_tick 250 = .ok (.getfield 16, 3) := by decide +kernel
theorem dX9_tick_253 : decode cX9_tick 253 = .ok (.bipush 6, 2) := by decide +kernel
theorem dX9_tick_255 : decode cX9_tick 255 = .ok (.iaload, 1) := by decide +kernel
theorem dX9_tick_256 : decode cX9_tick 256 = .ok (.imul, 1) := by decide +kernel
theorem dX9_tick_257 : decode cX9_tick 257 = .ok (.bipush 10, 2) := by decide +kernel
theorem dX9_tick_259 : decode cX9_tick 259 = .ok (.idiv, 1) := by decide +kernel
theorem dX9_tick_260 : decode cX9_tick 260 = .ok (.isub, 1) := by decide +kernel
theorem dX9_tick_261 : decode cX9_tick 261 = .ok (.istore 7, 2) := by decide +kernel
theorem dX9_tick_263 : decode cX9_tick 263 = .ok (.aload_n 0, 1) := by decide +kernel
theorem dX9_tick_264 : decode cX9_tick 264 = .ok (.getfield 13, 3) := by decide +kernel
theorem dX9_tick_267 : decode cX9_tick 267 = .ok (.iconst 1, 1) := by decide +kernel
theorem dX9_tick_268 : decode cX9_tick 268 = .ok (.iaload, 1) := by decide +kernel
theorem dX9_tick_269 : decode cX9_tick 269 = .ok (.aload_n 0, 1) := by decide +kernel
theorem dX9_tick_270 : decode cX9_tick 270 = .ok (.getfield 13, 3) := by decide +kernel
theorem dX9_tick_273 : decode cX9_tick 273 = .ok (.iconst 2, 1) := by decide +kernel
theorem dX9_tick_274 : decode cX9_tick 274 = .ok (.iaload, 1) := by decide +kernel
theorem dX9_tick_275 : decode cX9_tick 275 = .ok (.iadd, 1) := by decide +kernel
theorem dX9_tick_276 : decode cX9_tick 276 = .ok (.aload_n 0, 1) := by decide +kernel
theorem dX9_tick_277 : decode cX9_tick 277 = .ok (.getfield 16, 3) := by decide +kernel
theorem dX9_tick_280 : decode cX9_tick 280 = .ok (.iconst 3, 1) := by decide +kernel
theorem dX9_tick_281 : decode cX9_tick 281 = .ok (.iaload, 1) := by decide +kernel
theorem dX9_tick_282 : decode cX9_tick 282 = .ok (.imul, 1) := by decide +kernel
theorem dX9_tick_283 : decode cX9_tick 283 = .ok (.aload_n 0, 1) := by decide +kernel
theorem dX9_tick_284 : decode cX9_tick 284 = .ok (.getfield 13, 3) := by decide +kernel
theorem dX9_tick_287 : decode cX9_tick 287 = .ok (.iconst 0, 1) := by decide +kernel
theorem dX9_tick_288 : decode cX9_tick 288 = .ok (.iaload, 1) := by decide +kernel
theorem dX9_tick_289 : decode cX9_tick 289 = .ok (.iload_n 1, 1) := by decide +kernel
theorem dX9_tick_290 : decode cX9_tick 290 = .ok (.imul, 1) := by decide +kernel
theorem dX9_tick_291 : decode cX9_tick 291 = .ok (.aload_n 0, 1) := by decide +kernel
theorem dX9_tick_292 : decode cX9_tick 292 = .ok (.getfield 16, 3) := by decide +kernel
theorem dX9_tick_295 : decode cX9_tick 295 = .ok (.iconst 5, 1) := by decide +kernel
theorem dX9_tick_296 : decode cX9_tick 296 = .ok (.iaload, 1) := by decide +kernel
theorem dX9_tick_297 : decode cX9_tick 297 = .ok (.imul, 1) := by decide +kernel
theorem dX9_tick_298 : decode cX9_tick 298 = .ok (.bipush 10, 2) := by decide +kernel
theorem dX9_tick_300 : decode cX9_tick 300 = .ok (.idiv, 1) := by decide +kernel
theorem dX9_tick_301 : decode cX9_tick 301 = .ok (.iadd, 1) := by decide +kernel
theorem dX9_tick_302 : decode cX9_tick 302 = .ok (.aload_n 0, 1) := by decide +kernel
theorem dX9_tick_303 : decode cX9_tick 303 = .ok (.getfield 13, 3) := by decide +kernel
theorem dX9_tick_306 : decode cX9_tick 306 = .ok (.iconst 1, 1) := by decide +kernel
theorem dX9_tick_307 : decode cX9_tick 307 = .ok (.iaload, 1) := by decide +kernel
theorem dX9_tick_308 : decode cX9_tick 308 = .ok (.iload_n 1, 1) := by decide +kernel
theorem dX9_tick_309 : decode cX9_tick 309 = .ok (.imul, 1) := by decide +kernel
theorem dX9_tick_310 : decode cX9_tick 310 = .ok (.iload_n 1, 1) := by decide +kernel
theorem dX9_tick_311 : decode cX9_tick 311 = .ok (.imul, 1) := by decide +kernel
theorem dX9_tick_312 : decode cX9_tick 312 = .ok (.aload_n 0, 1) := by decide +kernel
theorem dX9_tick_313 : decode cX9_tick 313 = .ok (.getfield 16, 3) := by decide +kernel
theorem dX9_tick_316 : decode cX9_tick 316 = .ok (.iconst 4, 1) := by decide +kernel
theorem dX9_tick_317 : decode cX9_tick 317 = .ok (.iaload, 1) := by decide +kernel
theorem dX9_tick_318 : decode cX9_tick 318 = .ok (.imul, 1) := by decide +kernel
theorem dX9_tick_319 : decode cX9_tick 319 = .ok (.bipush 10, 2) := by decide +kernel
theorem dX9_tick_321 : decode cX9_tick 321 = .ok (.aload_n 0, 1) := by decide +kernel
theorem dX9_tick_322 : decode cX9_tick 322 = .ok (.getfield 13, 3) := by decide +kernel
theorem dX9_tick_325 : decode cX9_tick 325 = .ok (.iconst 4, 1) := by decide +kernel
theorem dX9_tick_326 : decode cX9_tick 326 = .ok (.iaload, 1) := by decide +kernel
theorem dX9_tick_327 : decode cX9_tick 327 = .ok (.imul, 1) := by decide +kernel
theorem dX9_tick_328 : decode cX9_tick 328 = .ok (.idiv, 1) := by decide +kernel
theorem dX9_tick_329 : decode cX9_tick 329 = .ok (.isub, 1) := by decide +kernel
theorem dX9_tick_330 : decode cX9_tick 330 = .ok (.aload_n 0, 1) := by decide +kernel
theorem dX9_tick_331 : decode cX9_tick 331 = .ok (.getfield 13, 3) := by decide +kernel
theorem dX9_tick_334 : decode cX9_tick 334 = .ok (.iconst 5, 1) := by decide +kernel
theorem dX9_tick_335 : decode cX9_tick 335 = .ok (.iaload, 1) := by decide +kernel
theorem dX9_tick_336 : decode cX9_tick 336 = .ok (.aload_n 0, 1) := by decide +kernel
theorem dX9_tick_337 : decode cX9_tick 337 = .ok (.getfield 16, 3) := by decide +kernel
theorem dX9_tick_340 : decode cX9_tick 340 = .ok (.bipush 6, 2) := by decide +kernel
theorem dX9_tick_342 : decode cX9_tick 342 = .ok (.iaload, 1) := by decide +kernel
theorem dX9_tick_343 : decode cX9_tick 343 = .ok (.imul, 1) := by decide +kernel
theorem dX9_tick_344 : decode cX9_tick 344 = .ok (.isub, 1) := by decide +kernel
theorem dX9_tick_345 : decode cX9_tick 345 = .ok (.iload 6, 2) := by decide +kernel
theorem dX9_tick_347 : decode cX9_tick 347 = .ok (.iadd, 1) := by decide +kernel
theorem dX9_tick_348 : decode cX9_tick 348 = .ok (.istore 8, 2) := by decide +kernel
theorem dX9_tick_350 : decode cX9_tick 350 = .ok (.bipush 14, 2) := by decide +kernel
theorem dX9_tick_352 : decode cX9_tick 352 = .ok (.istore 9, 2) := by decide +kernel
theorem dX9_tick_354 : decode cX9_tick 354 = .ok (.iload 9, 2) := by decide +kernel
theorem dX9_tick_356 : decode cX9_tick 356 = .ok (.iconst 2, 1) := by decide +kernel
theorem dX9_tick_357 : decode cX9_tick 357 = .ok (.if_icmp .le 31, 3) := by decide +kernel
theorem dX9_tick_360 : decode cX9_tick 360 = .ok (.aload_n 0, 1) := by decide +kernel
theorem dX9_tick_361 : decode cX9_tick 361 = .ok (.getfield 16, 3) := by decide +kernel
theorem dX9_tick_364 : decode cX9_tick 364 = .ok (.bipush 10, 2) := by decide +kernel
theorem dX9_tick_366 : decode cX9_tick 366 = .ok (.iload 9, 2) := by decide +kernel
theorem dX9_tick_368 : decode cX9_tick 368 = .ok (.iadd, 1) := by decide +kernel
theorem dX9_tick_369 : decode cX9_tick 369 = .ok (.aload_n 0, 1) := by decide +kernel
theorem dX9_tick_370 : decode cX9_tick 370 = .ok (.getfield 16, 3) := by decide +kernel
theorem dX9_tick_373 : decode cX9_tick 373 = .ok (.bipush 10, 2) := by decide +kernel
theorem dX9_tick_375 : decode cX9_tick 375 = .ok (.iload 9, 2) := by decide +kernel
theorem dX9_tick_377 : decode cX9_tick 377 = .ok (.iadd, 1) := by decide +kernel
theorem dX9_tick_378 : decode cX9_tick 378 = .ok (.iconst 3, 1) := by decide +kernel
theorem dX9_tick_379 : decode cX9_tick 379 = .ok (.isub, 1) := by decide +kernel
theorem dX9_tick_380 : decode cX9_tick 380 = .ok (.iaload, 1) := by decide +kernel
theorem dX9_tick_381 : decode cX9_tick 381 = .ok (.iastore, 1) := by decide +kernel
theorem dX9_tick_382 : decode cX9_tick 382 = .ok (.iinc 9 (-1), 3) := by decide +kernel
theorem dX9_tick_385 : decode cX9_tick 385 = .ok (.goto (-31), 3) := by decide +kernel
theorem dX9_tick_388 : decode cX9_tick 388 = .ok (.aload_n 0, 1) := by decide +kernel
theorem dX9_tick_389 : decode cX9_tick 389 = .ok (.getfield 16, 3) := by decide +kernel
theorem dX9_tick_392 : decode cX9_tick 392 = .ok (.bipush 10, 2) := by decide +kernel
theorem dX9_tick_394 : decode cX9_tick 394 = .ok (.aload_n 0, 1) := by decide +kernel
theorem dX9_tick_395 : decode cX9_tick 395 = .ok (.getfield 16, 3) := by decide +kernel
theorem dX9_tick_398 : decode cX9_tick 398 = .ok (.iconst 3, 1) := by decide +kernel
theorem dX9_tick_399 : decode cX9_tick 399 = .ok (.iaload, 1) := by decide +kernel
theorem dX9_tick_400 : decode cX9_tick 400 = .ok (.iastore, 1) := by decide +kernel
theorem dX9_tick_401 : decode cX9_tick 401 = .ok (.aload_n 0, 1) := by decide +kernel
theorem dX9_tick_402 : decode cX9_tick 402 = .ok (.getfield 16, 3) := by decide +kernel
theorem dX9_tick_405 : decode cX9_tick 405 = .ok (.bipush 11, 2) := by decide +kernel
theorem dX9_tick_407 : decode cX9_tick 407 = .ok (.aload_n 0, 1) := by decide +kernel
theorem dX9_tick_408 : decode cX9_tick 408 = .ok (.getfield 16, 3) := by decide +kernel
theorem dX9_tick_411 : decode cX9_tick 411 = .ok (.iconst 5, 1) := by decide +kernel
theorem dX9_tick_412 : decode cX9_tick 412 = .ok (.iaload, 1) := by decide +kernel
theorem dX9_tick_413 : decode cX9_tick 413 = .ok (.iastore, 1) := by decide +kernel
theorem dX9_tick_414 : decode cX9_tick 414 = .ok (.aload_n 0, 1) := by decide +kernel
theorem dX9_tick_415 : decode cX9_tick 415 = .ok (.getfield 16, 3) := by decide +kernel
theorem dX9_tick_418 : decode cX9_tick 418 = .ok (.bipush 12, 2) := by decide +kernel
theorem dX9_tick_420 : decode cX9_tick 420 = .ok (.aload_n 0, 1) := by decide +kernel
theorem dX9_tick_421 : decode cX9_tick 421 = .ok (.getfield 16, 3) := by decide +kernel
theorem dX9_tick_424 : decode cX9_tick 424 = .ok (.iconst 4, 1) := by decide +kernel
theorem dX9_tick_425 : decode cX9_tick 425 = .ok (.iaload, 1) := by decide +kernel
theorem dX9_tick_426 : decode cX9_tick 426 = .ok (.iastore, 1) := by decide +kernel
theorem dX9_tick_427 : decode cX9_tick 427 = .ok (.aload_n 0, 1) := by decide +kernel
theorem dX9_tick_428 : decode cX9_tick 428 = .ok (.getfield 16, 3) := by decide +kernel
theorem dX9_tick_431 : decode cX9_tick 431 = .ok (.iconst 5, 1) := by decide +kernel
theorem dX9_tick_432 : decode cX9_tick 432 = .ok (.aload_n 0, 1) := by decide +kernel
theorem dX9_tick_433 : decode cX9_tick 433 = .ok (.getfield 16, 3) := by decide +kernel
theorem dX9_tick_436 : decode cX9_tick 436 = .ok (.iconst 5, 1) := by decide +kernel
theorem dX9_tick_437 : decode cX9_tick 437 = .ok (.iaload, 1) := by decide +kernel
theorem dX9_tick_438 : decode cX9_tick 438 = .ok (.iload 7, 2) := by decide +kernel
theorem dX9_tick_440 : decode cX9_tick 440 = .ok (.bipush 20, 2) := by decide +kernel
theorem dX9_tick_442 : decode cX9_tick 442 = .ok (.idiv, 1) := by decide +kernel
theorem dX9_tick_443 : decode cX9_tick 443 = .ok (.iadd, 1) := by decide +kernel
theorem dX9_tick_444 : decode cX9_tick 444 = .ok (.ldc 173, 2) := by decide +kernel
theorem dX9_tick_446 : decode cX9_tick 446 = .ok (.invokestatic 174, 3) := by decide +kernel
theorem dX9_tick_449 : decode cX9_tick 449 = .ok (.iastore, 1) := by decide +kernel
theorem dX9_tick_450 : decode cX9_tick 450 = .ok (.aload_n 0, 1) := by decide +kernel
theorem dX9_tick_451 : decode cX9_tick 451 = .ok (.getfield 16, 3) := by decide +kernel
theorem dX9_tick_454 : decode cX9_tick 454 = .ok (.bipush 6, 2) := by decide +kernel
theorem dX9_tick_456 : decode cX9_tick 456 = .ok (.aload_n 0, 1) := by decide +kernel
theorem dX9_tick_457 : decode cX9_tick 457 = .ok (.getfield 16, 3) := by decide +kernel
theorem dX9_tick_460 : decode cX9_tick 460 = .ok (.bipush 6, 2) := by decide +kernel
theorem dX9_tick_462 : decode cX9_tick 462 = .ok (.iaload, 1) := by decide +kernel
theorem dX9_tick_463 : decode cX9_tick 463 = .ok (.iload 8, 2) := by decide +kernel
theorem dX9_tick_465 : decode cX9_tick 465 = .ok (.bipush 20, 2) := by decide +kernel
theorem dX9_tick_467 : decode cX9_tick 467 = .ok (.idiv, 1) := by decide +kernel
theorem dX9_tick_468 : decode cX9_tick 468 = .ok (.iadd, 1) := by decide +kernel
theorem dX9_tick_469 : decode cX9_tick 469 = .ok (.ldc 173, 2) := by decide +kernel
theorem dX9_tick_471 : decode cX9_tick 471 = .ok (.invokestatic 174, 3) := by decide +kernel
theorem dX9_tick_474 : decode cX9_tick 474 = .ok (.iastore, 1) := by decide +kernel
theorem dX9_tick_475 : decode cX9_tick 475 = .ok (.aload_n 0, 1) := by decide +kernel
theorem dX9_tick_476 : decode cX9_tick 476 = .ok (.getfield 16, 3) := by decide +kernel
theorem dX9_tick_479 : decode cX9_tick 479 = .ok (.iconst 3, 1) := by decide +kernel
theorem dX9_tick_480 : decode cX9_tick 480 = .ok (.dup2, 1) := by decide +kernel
theorem dX9_tick_481 : decode cX9_tick 481 = .ok (.iaload, 1) := by decide +kernel
theorem dX9_tick_482 : decode cX9_tick 482 = .ok (.aload_n 0, 1) := by decide +kernel
theorem dX9_tick_483 : decode cX9_tick 483 = .ok (.getfield 16, 3) := by decide +kernel
theorem dX9_tick_486 : decode cX9_tick 486 = .ok (.iconst 5, 1) := by decide +kernel
theorem dX9_tick_487 : decode cX9_tick 487 = .ok (.iaload, 1) := by decide +kernel
theorem dX9_tick_488 : decode cX9_tick 488 = .ok (.bipush 20, 2) := by decide +kernel
theorem dX9_tick_490 : decode cX9_tick 490 = .ok (.idiv, 1) := by decide +kernel
theorem dX9_tick_491 : decode cX9_tick 491 = .ok (.iadd, 1) := by decide +kernel
theorem dX9_tick_492 : decode cX9_tick 492 = .ok (.iastore, 1) := by decide +kernel
theorem dX9_tick_493 : decode cX9_tick 493 = .ok (.aload_n 0, 1) := by decide +kernel
theorem dX9_tick_494 : decode cX9_tick 494 = .ok (.getfield 16, 3) := by decide +kernel
theorem dX9_tick_497 : decode cX9_tick 497 = .ok (.iconst 4, 1) := by decide +kernel
theorem dX9_tick_498 : decode cX9_tick 498 = .ok (.aload_n 0, 1) := by decide +kernel
theorem dX9_tick_499 : decode cX9_tick 499 = .ok (.getfield 16, 3) := by decide +kernel
theorem dX9_tick_502 : decode cX9_tick 502 = .ok (.iconst 4, 1) := by decide +kernel
theorem dX9_tick_503 : decode cX9_tick 503 = .ok (.iaload, 1) := by decide +kernel
theorem dX9_tick_504 : decode cX9_tick 504 = .ok (.aload_n 0, 1) := by decide +kernel
theorem dX9_tick_505 : decode cX9_tick 505 = .ok (.getfield 16, 3) := by decide +kernel
theorem dX9_tick_508 : decode cX9_tick 508 = .ok (.bipush 6, 2) := by decide +kernel
theorem dX9_tick_510 : decode cX9_tick 510 = .ok (.iaload, 1) := by decide +kernel
theorem dX9_tick_511 : decode cX9_tick 511 = .ok (.bipush 20, 2) := by decide +kernel
theorem dX9_tick_513 : decode cX9_tick 513 = .ok (.idiv, 1) := by decide +kernel
theorem dX9_tick_514 : decode cX9_tick 514 = .ok (.iadd, 1) := by decide +kernel
theorem dX9_tick_515 : decode cX9_tick 515 = .ok (.sipush 10000, 3) := by decide +kernel
theorem dX9_tick_518 : decode cX9_tick 518 = .ok (.invokestatic 174, 3) := by decide +kernel
theorem dX9_tick_521 : decode cX9_tick 521 = .ok (.iastore, 1) := by decide +kernel
theorem dX9_tick_522 : decode cX9_tick 522 = .ok (.aload_n 0, 1) := by decide +kernel
theorem dX9_tick_523 : decode cX9_tick 523 = .ok (.getfield 16, 3) := by decide +kernel
theorem dX9_tick_526 : decode cX9_tick 526 = .ok (.bipush 9, 2) := by decide +kernel
theorem dX9_tick_528 : decode cX9_tick 528 = .ok (.iload 6, 2) := by decide +kernel
theorem dX9_tick_530 : decode cX9_tick 530 = .ok (.iastore, 1) := by decide +kernel
theorem dX9_tick_531 : decode cX9_tick 531 = .ok (.aload_n 0, 1) := by decide +kernel
theorem dX9_tick_532 : decode cX9_tick 532 = .ok (.getfield 16, 3) := by decide +kernel
theorem dX9_tick_535 : decode cX9_tick 535 = .ok (.bipush 7, 2) := by decide +kernel
theorem dX9_tick_537 : decode cX9_tick 537 = .ok (.dup2, 1) := by decide +kernel
theorem dX9_tick_538 : decode cX9_tick 538 = .ok (.iaload, 1) := by decide +kernel
theorem dX9_tick_539 : decode cX9_tick 539 = .ok (.iconst 1, 1) := by decide +kernel
theorem dX9_tick_540 : decode cX9_tick 540 = .ok (.iadd, 1) := by decide +kernel
theorem dX9_tick_541 : decode cX9_tick 541 = .ok (.iastore, 1) := by decide +kernel
theorem dX9_tick_542 : decode cX9_tick 542 = .ok (.aload_n 0, 1) := by decide +kernel
theorem dX9_tick_543 : decode cX9_tick 543 = .ok (.getfield 16, 3) := by decide +kernel
theorem dX9_tick_546 : decode cX9_tick 546 = .ok (.bipush 8, 2) := by decide +kernel
theorem dX9_tick_548 : decode cX9_tick 548 = .ok (.aload_n 0, 1) := by decide +kernel
theorem dX9_tick_549 : decode cX9_tick 549 = .ok (.getfield 16, 3) := by decide +kernel
theorem dX9_tick_552 : decode cX9_tick 552 = .ok (.iconst 3, 1) := by decide +kernel
theorem dX9_tick_553 : decode cX9_tick 553 = .ok (.iaload, 1) := by decide +kernel
theorem dX9_tick_554 : decode cX9_tick 554 = .ok (.sipush 1000, 3) := by decide +kernel
theorem dX9_tick_557 : decode cX9_tick 557 = .ok (.if_icmp .gt 15, 3) := by decide +kernel
theorem dX9_tick_560 : decode cX9_tick 560 = .ok (.aload_n 0, 1) := by decide +kernel
theorem dX9_tick_561 : decode cX9_tick 561 = .ok (.getfield 16, 3) := by decide +kernel
theorem dX9_tick_564 : decode cX9_tick 564 = .ok (.iconst 3, 1) := by decide +kernel
theorem dX9_tick_565 : decode cX9_tick 565 = .ok (.iaload, 1) := by decide +kernel
theorem dX9_tick_566 : decode cX9_tick 566 = .ok (.sipush (-1000), 3) := by decide +kernel
theorem dX9_tick_569 : decode cX9_tick 569 = .ok (.if_icmp .ge 7, 3) := by decide +kernel
theorem dX9_tick_572 : decode cX9_tick 572 = .ok (.iconst 1, 1) := by decide +kernel
theorem dX9_tick_573 : decode cX9_tick 573 = .ok (.goto 4, 3) := by decide +kernel
theorem dX9_tick_576 : decode cX9_tick 576 = .ok (.iconst 0, 1) := by decide +kernel
theorem dX9_tick_577 : decode cX9_tick 577 = .ok (.iastore, 1) := by decide +kernel
theorem dX9_tick_578 : decode cX9_tick 578 = .ok (.return_, 1) := by decide +kernel
set_option maxRecDepth 20000 in
theorem ggX9_ticks_X9_in : GoodIn wsX9_ticks wsX9_in := goodIn_r _ [6] (by decide +kernel) (by decide +kernel)
set_option maxRecDepth 20000 in
theorem gX9_ticks_X9_in : GoodIn wsX9_ticks (va_wsS RX9 51 yX9_in wsX9_in) := goodIn_app (goodIn_of _ (by decide +kernel)) ggX9_ticks_X9_in
set_option maxRecDepth 20000 in
theorem ggX9_ticks_X9_tick : GoodIn wsX9_ticks wsX9_tick := goodIn_r _ [10, 2, 11, 12, 13, 14, 15, 16, 5, 17, 18, 19, 20, 21, 22, 23, 24, 25, 26, 27, 28, 29, 30, 31, 32, 33, 34, 35, 36, 37, 38, 39, 40, 41, 42] (by decide +kernel) (by decide +kernel)
set_option maxRecDepth 20000 in
theorem gX9_ticks_X9_tick : GoodIn wsX9_ticks (wsV RX9 177 RX9 yX9_tick wsX9_tick) := goodIn_app (goodIn_of _ (by decide +kernel)) ggX9_ticks_X9_tick
theorem dX9_ticks_0 : decode cX9_ticks 0 = .ok (.aload_n 0, 1) := by decide +kernel
theorem dX9_ticks_1 : decode cX9_ticks 1 = .ok (.iconst 0, 1) := by decide +kernel
theorem dX9_ticks_2 : decode cX9_ticks 2 = .ok (.putfield 48, 3) := by decide +kernel
theorem dX9_ticks_5 : decode cX9_ticks 5 = .ok (.iload_n 1, 1) := by decide +kernel
theorem dX9_ticks_6 : decode cX9_ticks 6 = .ok (.iconst 1, 1) := by decide +kernel
theorem dX9_ticks_7 : decode cX9_ticks 7 = .ok (.sipush 200, 3) := by decide +kernel
theorem dX9_ticks_10 : decode cX9_ticks 10 = .ok (.invokestatic 51, 3) := by decide +kernel
theorem dX9_ticks_13 : decode cX9_ticks 13 = .ok (.ifCond .ne 5, 3) := by decide +kernel
theorem dX9_ticks_16 : decode cX9_ticks 16 = .ok (.iconst (-1), 1) := by decide +kernel
theorem dX9_ticks_17 : decode cX9_ticks 17 = .ok (.ireturn, 1) := by decide +kernel
theorem dX9_ticks_18 : decode cX9_ticks 18 = .ok (.aload_n 0, 1) := by decide +kernel
theorem dX9_ticks_19 : decode cX9_ticks 19 = .ok (.getfield 16, 3) := by decide +kernel
theorem dX9_ticks_22 : decode cX9_ticks 22 = .ok (.bipush 8, 2) := by decide +kernel
theorem dX9_ticks_24 : decode cX9_ticks 24 = .ok (.iaload, 1) := by decide +kernel
theorem dX9_ticks_25 : decode cX9_ticks 25 = .ok (.iconst 1, 1) := by decide +kernel
theorem dX9_ticks_26 : decode cX9_ticks 26 = .ok (.if_icmp .ne 6, 3) := by decide +kernel
theorem dX9_ticks_29 : decode cX9_ticks 29 = .ok (.bipush (-2), 2) := by decide +kernel
theorem dX9_ticks_31 : decode cX9_ticks 31 = .ok (.ireturn, 1) := by decide +kernel
theorem dX9_ticks_32 : decode cX9_ticks 32 = .ok (.iconst 0, 1) := by decide +kernel
theorem dX9_ticks_33 : decode cX9_ticks 33 = .ok (.istore_n 2, 1) := by decide +kernel
theorem dX9_ticks_34 : decode cX9_ticks 34 = .ok (.iload_n 2, 1) := by decide +kernel
theorem dX9_ticks_35 : decode cX9_ticks 35 = .ok (.iload_n 1, 1) := by decide +kernel
theorem dX9_ticks_36 : decode cX9_ticks 36 = .ok (.if_icmp .ge 23, 3) := by decide +kernel
theorem dX9_ticks_39 : decode cX9_ticks 39 = .ok (.aload_n 0, 1) := by decide +kernel
theorem dX9_ticks_40 : decode cX9_ticks 40 = .ok (.getfield 16, 3) := by decide +kernel
theorem dX9_ticks_43 : decode cX9_ticks 43 = .ok (.bipush 8, 2) := by decide +kernel
theorem dX9_ticks_45 : decode cX9_ticks 45 = .ok (.iaload, 1) := by decide +kernel
theorem dX9_ticks_46 : decode cX9_ticks 46 = .ok (.ifCond .ne 13, 3) := by decide +kernel
theorem dX9_ticks_49 : decode cX9_ticks 49 = .ok (.aload_n 0, 1) := by decide +kernel
theorem dX9_ticks_50 : decode cX9_ticks 50 = .ok (.invokevirtual 177, 3) := by decide +kernel
theorem dX9_ticks_53 : decode cX9_ticks 53 = .ok (.iinc 2 1, 3) := by decide +kernel
theorem dX9_ticks_56 : decode cX9_ticks 56 = .ok (.goto (-22), 3) := by decide +kernel
theorem dX9_ticks_59 : decode cX9_ticks 59 = .ok (.iload_n 2, 1) := by decide +kernel
theorem dX9_ticks_60 : decode cX9_ticks 60 = .ok (.ireturn, 1) := by decide +kernel
set_option maxRecDepth 20000 in
theorem ggX9_at_X9_in : GoodIn wsX9_at wsX9_in := goodIn_r _ [7] (by decide +kernel) (by decide +kernel)
set_option maxRecDepth 20000 in
theorem gX9_at_X9_in : GoodIn wsX9_at (va_wsS RX9 51 yX9_in wsX9_in) := goodIn_app (goodIn_of _ (by decide +kernel)) ggX9_at_X9_in
theorem dX9_at_0 : decode cX9_at 0 = .ok (.aload_n 0, 1) := by decide +kernel
theorem dX9_at_1 : decode cX9_at 1 = .ok (.iconst 0, 1) := by decide +kernel
theorem dX9_at_2 : decode cX9_at 2 = .ok (.putfield 48, 3) := by decide +kernel
theorem dX9_at_5 : decode cX9_at 5 = .ok (.iload_n 1, 1) := by decide +kernel
theorem dX9_at_6 : decode cX9_at 6 = .ok (.iconst 0, 1) := by decide +kernel
theorem dX9_at_7 : decode cX9_at 7 = .ok (.bipush 6, 2) := by decide +kernel
theorem dX9_at_9 : decode cX9_at 9 = .ok (.invokestatic 51, 3) := by decide +kernel
theorem dX9_at_12 : decode cX9_at 12 = .ok (.ifCond .ne 8, 3) := by decide +kernel
theorem dX9_at_15 : decode cX9_at 15 = .ok (.ldc 70, 2) := by decide +kernel
theorem dX9_at_17 : decode cX9_at 17 = .ok (.goto 41, 3) := by decide +kernel
theorem dX9_at_20 : decode cX9_at 20 = .ok (.iload_n 1, 1) := by decide +kernel
theorem dX9_at_21 : decode cX9_at 21 = .ok (.iconst 5, 1) := by decide +kernel
theorem dX9_at_22 : decode cX9_at 22 = .ok (.if_icmp .ge 14, 3) := by decide +kernel
theorem dX9_at_25 : decode cX9_at 25 = .ok (.aload_n 0, 1) := by decide +kernel
theorem dX9_at_26 : decode cX9_at 26 = .ok (.getfield 16, 3) := by decide +kernel
theorem dX9_at_29 : decode cX9_at 29 = .ok (.iconst 3, 1) := by decide +kernel
theorem dX9_at_30 : decode cX9_at 30 = .ok (.iload_n 1, 1) := by decide +kernel
theorem dX9_at_31 : decode cX9_at 31 = .ok (.iadd, 1) := by decide +kernel
theorem dX9_at_32 : decode cX9_at 32 = .ok (.iaload, 1) := by decide +kernel
theorem dX9_at_33 : decode cX9_at 33 = .ok (.goto 25, 3) := by decide +kernel
theorem dX9_at_36 : decode cX9_at 36 = .ok (.iload_n 1, 1) := by decide +kernel
theorem dX9_at_37 : decode cX9_at 37 = .ok (.iconst 5, 1) := by decide +kernel
theorem dX9_at_38 : decode cX9_at 38 = .ok (.if_icmp .ne 13, 3) := by decide +kernel
theorem dX9_at_41 : decode cX9_at 41 = .ok (.aload_n 0, 1) := by decide +kernel
theorem dX9_at_42 : decode cX9_at 42 = .ok (.getfield 16, 3) := by decide +kernel
theorem dX9_at_45 : decode cX9_at 45 = .ok (.bipush 8, 2) := by decide +kernel
theorem dX9_at_47 : decode cX9_at 47 = .ok (.iaload, 1) := by decide +kernel
theorem dX9_at_48 : decode cX9_at 48 = .ok (.goto 10, 3) := by decide +kernel
theorem dX9_at_51 : decode cX9_at 51 = .ok (.aload_n 0, 1) := by decide +kernel
theorem dX9_at_52 : decode cX9_at 52 = .ok (.getfield 16, 3) := by decide +kernel
theorem dX9_at_55 : decode cX9_at 55 = .ok (.bipush 9, 2) := by decide +kernel
theorem dX9_at_57 : decode cX9_at 57 = .ok (.iaload, 1) := by decide +kernel
theorem dX9_at_58 : decode cX9_at 58 = .ok (.ireturn, 1) := by decide +kernel
set_option maxRecDepth 20000 in
theorem ggX9_bears_X9_in : GoodIn wsX9_bears wsX9_in := goodIn_r _ [7] (by decide +kernel) (by decide +kernel)
set_option maxRecDepth 20000 in
theorem gX9_bears_X9_in : GoodIn wsX9_bears (va_wsS RX9 51 yX9_in wsX9_in) := goodIn_app (goodIn_of _ (by decide +kernel)) ggX9_bears_X9_in
set_option maxRecDepth 20000 in
theorem ggX9_bears_X9_sets : GoodIn wsX9_bears wsX9_sets := goodIn_r _ [11, 3, 27, 28, 29, 30, 31, 32, 33, 34, 35, 36, 37, 38, 39, 40, 41, 42, 43, 44, 45, 46, 47] (by decide +kernel) (by decide +kernel)
set_option maxRecDepth 20000 in
theorem gX9_bears_X9_sets : GoodIn wsX9_bears (wsV RX9 169 RX9 yX9_sets wsX9_sets) := goodIn_app (goodIn_of _ (by decide +kernel)) ggX9_bears_X9_sets
set_option maxRecDepth 20000 in
theorem ggX9_bears_X9_tick : GoodIn wsX9_bears wsX9_tick := goodIn_r _ [15, 3, 16, 17, 18, 19, 20, 21, 6, 22, 23, 24, 25, 26, 27, 28, 29, 30, 31, 32, 33, 34, 35, 36, 37, 38, 39, 40, 41, 42, 43, 44, 45, 46, 47] (by decide +kernel) (by decide +kernel)
set_option maxRecDepth 20000 in
theorem gX9_bears_X9_tick : GoodIn wsX9_bears (wsV RX9 177 RX9 yX9_tick wsX9_tick) := goodIn_app (goodIn_of _ (by decide +kernel)) ggX9_bears_X9_tick
theorem dX9_bears_0 : decode cX9_bears 0 = .ok (.aload_n 0, 1) := by decide +kernel
theorem dX9_bears_1 : decode cX9_bears 1 = .ok (.iconst 0, 1) := by decide +kernel
theorem dX9_bears_2 : decode cX9_bears 2 = .ok (.putfield 48, 3) := by decide +kernel
theorem dX9_bears_5 : decode cX9_bears 5 = .ok (.iload_n 1, 1) := by decide +kernel
theorem dX9_bears_6 : decode cX9_bears 6 = .ok (.iconst 1, 1) := by decide +kernel
theorem dX9_bears_7 : decode cX9_bears 7 = .ok (.sipush 200, 3) := by decide +kernel
theorem dX9_bears_10 : decode cX9_bears 10 = .ok (.invokestatic 51, 3) := by decide +kernel
theorem dX9_bears_13 : decode cX9_bears 13 = .ok (.ifCond .ne 5, 3) := by decide +kernel
theorem dX9_bears_16 : decode cX9_bears 16 = .ok (.iconst (-1), 1) := by decide +kernel
theorem dX9_bears_17 : decode cX9_bears 17 = .ok (.ireturn, 1) := by decide +kernel
theorem dX9_bears_18 : decode cX9_bears 18 = .ok (.iconst 0, 1) := by decide +kernel
theorem dX9_bears_19 : decode cX9_bears 19 = .ok (.istore_n 2, 1) := by decide +kernel
theorem dX9_bears_20 : decode cX9_bears 20 = .ok (.iload_n 2, 1) := by decide +kernel
theorem dX9_bears_21 : decode cX9_bears 21 = .ok (.bipush 29, 2) := by decide +kernel
theorem dX9_bears_23 : decode cX9_bears 23 = .ok (.if_icmp .ge 21, 3) := by decide +kernel
theorem dX9_bears_26 : decode cX9_bears 26 = .ok (.aload_n 0, 1) := by decide +kernel
theorem dX9_bears_27 : decode cX9_bears 27 = .ok (.getfield 22, 3) := by decide +kernel
theorem dX9_bears_30 : decode cX9_bears 30 = .ok (.iload_n 2, 1) := by decide +kernel
theorem dX9_bears_31 : decode cX9_bears 31 = .ok (.aload_n 0, 1) := by decide +kernel
theorem dX9_bears_32 : decode cX9_bears 32 = .ok (.getfield 16, 3) := by decide +kernel
theorem dX9_bears_35 : decode cX9_bears 35 = .ok (.iload_n 2, 1) := by decide +kernel
theorem dX9_bears_36 : decode cX9_bears 36 = .ok (.iaload, 1) := by decide +kernel
theorem dX9_bears_37 : decode cX9_bears 37 = .ok (.iastore, 1) := by decide +kernel
theorem dX9_bears_38 : decode cX9_bears 38 = .ok (.iinc 2 1, 3) := by decide +kernel
theorem dX9_bears_41 : decode cX9_bears 41 = .ok (.goto (-21), 3) := by decide +kernel
theorem dX9_bears_44 : decode cX9_bears 44 = .ok (.bipush (-9), 2) := by decide +kernel
theorem dX9_bears_46 : decode cX9_bears 46 = .ok (.istore_n 2, 1) := by decide +kernel
theorem dX9_bears_47 : decode cX9_bears 47 = .ok (.iconst 1, 1) := by decide +kernel
theorem dX9_bears_48 : decode cX9_bears 48 = .ok (.istore_n 3, 1) := by decide +kernel
theorem dX9_bears_49 : decode cX9_bears 49 = .ok (.iload_n 3, 1) := by decide +kernel
theorem dX9_bears_50 : decode cX9_bears 50 = .ok (.sipush 1001, 3) := by decide +kernel
theorem dX9_bears_53 : decode cX9_bears 53 = .ok (.if_icmp .ge 91, 3) := by decide +kernel
theorem dX9_bears_56 : decode cX9_bears 56 = .ok (.iload_n 2, 1) := by decide +kernel
theorem dX9_bears_57 : decode cX9_bears 57 = .ok (.bipush (-9), 2) := by decide +kernel
theorem dX9_bears_59 : decode cX9_bears 59 = .ok (.if_icmp .ne 85, 3) := by decide +kernel
theorem dX9_bears_62 : decode cX9_bears 62 = .ok (.aload_n 0, 1) := by decide +kernel
theorem dX9_bears_63 : decode cX9_bears 63 = .ok (.aload_n 0, 1) := by decide +kernel
theorem dX9_bears_64 : decode cX9_bears 64 = .ok (.getfield 22, 3) := by decide +kernel
theorem dX9_bears_67 : decode cX9_bears 67 = .ok (.iconst 0, 1) := by decide +kernel
theorem dX9_bears_68 : decode cX9_bears 68 = .ok (.iaload, 1) := by decide +kernel
theorem dX9_bears_69 : decode cX9_bears 69 = .ok (.aload_n 0, 1) := by decide +kernel
theorem dX9_bears_70 : decode cX9_bears 70 = .ok (.getfield 22, 3) := by decide +kernel
theorem dX9_bears_73 : decode cX9_bears 73 = .ok (.iconst 1, 1) := by decide +kernel
theorem dX9_bears_74 : decode cX9_bears 74 = .ok (.iaload, 1) := by decide +kernel
theorem dX9_bears_75 : decode cX9_bears 75 = .ok (.aload_n 0, 1) := by decide +kernel
theorem dX9_bears_76 : decode cX9_bears 76 = .ok (.getfield 22, 3) := by decide +kernel
theorem dX9_bears_79 : decode cX9_bears 79 = .ok (.iconst 2, 1) := by decide +kernel
theorem dX9_bears_80 : decode cX9_bears 80 = .ok (.iaload, 1) := by decide +kernel
theorem dX9_bears_81 : decode cX9_bears 81 = .ok (.invokevirtual 169, 3) := by decide +kernel
theorem dX9_bears_84 : decode cX9_bears 84 = .ok (.aload_n 0, 1) := by decide +kernel
theorem dX9_bears_85 : decode cX9_bears 85 = .ok (.getfield 16, 3) := by decide +kernel
theorem dX9_bears_88 : decode cX9_bears 88 = .ok (.iconst 3, 1) := by decide +kernel
theorem dX9_bears_89 : decode cX9_bears 89 = .ok (.iload_n 3, 1) := by decide +kernel
theorem dX9_bears_90 : decode cX9_bears 90 = .ok (.iastore, 1) := by decide +kernel
theorem dX9_bears_91 : decode cX9_bears 91 = .ok (.iconst 0, 1) := by decide +kernel
theorem dX9_bears_92 : decode cX9_bears 92 = .ok (.istore 4, 2) := by decide +kernel
theorem dX9_bears_94 : decode cX9_bears 94 = .ok (.iload 4, 2) := by decide +kernel
theorem dX9_bears_96 : decode cX9_bears 96 = .ok (.iload_n 1, 1) := by decide +kernel
theorem dX9_bears_97 : decode cX9_bears 97 = .ok (.if_icmp .ge 23, 3) := by decide +kernel
theorem dX9_bears_100 : decode cX9_bears 100 = .ok (.aload_n 0, 1) := by decide +kernel
theorem dX9_bears_101 : decode cX9_bears 101 = .ok (.getfield 16, 3) := by decide +kernel
theorem dX9_bears_104 : decode cX9_bears 104 = .ok (.bipush 8, 2) := by decide +kernel
theorem dX9_bears_106 : decode cX9_bears 106 = .ok (.iaload, 1) := by decide +kernel
theorem dX9_bears_107 : decode cX9_bears 107 = .ok (.ifCond .ne 13, 3) := by decide +kernel
theorem dX9_bears_110 : decode cX9_bears 110 = .ok (.aload_n 0, 1) := by decide +kernel
theorem dX9_bears_111 : decode cX9_bears 111 = .ok (.invokevirtual 177, 3) := by decide +kernel
theorem dX9_bears_114 : decode cX9_bears 114 = .ok (.iinc 4 1, 3) := by decide +kernel
theorem dX9_bears_117 : decode cX9_bears 117 = .ok (.goto (-23), 3) := by decide +kernel
theorem dX9_bears_120 : decode cX9_bears 120 = .ok (.aload_n 0, 1) := by decide +kernel
theorem dX9_bears_121 : decode cX9_bears 121 = .ok (.getfield 16, 3) := by decide +kernel
theorem dX9_bears_124 : decode cX9_bears 124 = .ok (.bipush 8, 2) := by decide +kernel
theorem dX9_bears_126 : decode cX9_bears 126 = .ok (.iaload, 1) := by decide +kernel
theorem dX9_bears_127 : decode cX9_bears 127 = .ok (.iconst 1, 1) := by decide +kernel
theorem dX9_bears_128 : decode cX9_bears 128 = .ok (.if_icmp .ne 7, 3) := by decide +kernel
theorem dX9_bears_131 : decode cX9_bears 131 = .ok (.iload_n 3, 1) := by decide +kernel
theorem dX9_bears_132 : decode cX9_bears 132 = .ok (.goto 5, 3) := by decide +kernel
theorem dX9_bears_135 : decode cX9_bears 135 = .ok (.bipush (-9), 2) := by decide +kernel
theorem dX9_bears_137 : decode cX9_bears 137 = .ok (.istore_n 2, 1) := by decide +kernel
theorem dX9_bears_138 : decode cX9_bears 138 = .ok (.iinc 3 1, 3) := by decide +kernel
theorem dX9_bears_141 : decode cX9_bears 141 = .ok (.goto (-92), 3) := by decide +kernel
theorem dX9_bears_144 : decode cX9_bears 144 = .ok (.iconst 0, 1) := by decide +kernel
theorem dX9_bears_145 : decode cX9_bears 145 = .ok (.istore_n 3, 1) := by decide +kernel
theorem dX9_bears_146 : decode cX9_bears 146 = .ok (.iload_n 3, 1) := by decide +kernel
theorem dX9_bears_147 : decode cX9_bears 147 = .ok (.bipush 29, 2) := by decide +kernel
theorem dX9_bears_149 : decode cX9_bears 149 = .ok (.if_icmp .ge 21, 3) := by decide +kernel
theorem dX9_bears_152 : decode cX9_bears 152 = .ok (.aload_n 0, 1) := by decide +kernel
theorem dX9_bears_153 : decode cX9_bears 153 = .ok (.getfield 16, 3) := by decide +kernel
theorem dX9_bears_156 : decode cX9_bears 156 = .ok (.iload_n 3, 1) := by decide +kernel
theorem dX9_bears_157 : decode cX9_bears 157 = .ok (.aload_n 0, 1) := by decide +kernel
theorem dX9_bears_158 : decode cX9_bears 158 = .ok (.getfield 22, 3) := by decide +kernel
theorem dX9_bears_161 : decode cX9_bears 161 = .ok (.iload_n 3, 1) := by decide +kernel
theorem dX9_bears_162 : decode cX9_bears 162 = .ok (.iaload, 1) := by decide +kernel
theorem dX9_bears_163 : decode cX9_bears 163 = .ok (.iastore, 1) := by decide +kernel
theorem dX9_bears_164 : decode cX9_bears 164 = .ok (.iinc 3 1, 3) := by decide +kernel
theorem dX9_bears_167 : decode cX9_bears 167 = .ok (.goto (-21), 3) := by decide +kernel
theorem dX9_bears_170 : decode cX9_bears 170 = .ok (.iload_n 2, 1) := by decide +kernel
theorem dX9_bears_171 : decode cX9_bears 171 = .ok (.ireturn, 1) := by decide +kernel
set_option maxRecDepth 20000 in
theorem ggX9_weeks_X9_in : GoodIn wsX9_weeks wsX9_in := goodIn_r _ [8] (by decide +kernel) (by decide +kernel)
set_option maxRecDepth 20000 in
theorem gX9_weeks_X9_in : GoodIn wsX9_weeks (va_wsS RX9 51 yX9_in wsX9_in) := goodIn_app (goodIn_of _ (by decide +kernel)) ggX9_weeks_X9_in
theorem dX9_weeks_0 : decode cX9_weeks 0 = .ok (.aload_n 0, 1) := by decide +kernel
theorem dX9_weeks_1 : decode cX9_weeks 1 = .ok (.iconst 0, 1) := by decide +kernel
theorem dX9_weeks_2 : decode cX9_weeks 2 = .ok (.putfield 48, 3) := by decide +kernel
theorem dX9_weeks_5 : decode cX9_weeks 5 = .ok (.iload_n 1, 1) := by decide +kernel
theorem dX9_weeks_6 : decode cX9_weeks 6 = .ok (.iconst 0, 1) := by decide +kernel
theorem dX9_weeks_7 : decode cX9_weeks 7 = .ok (.iconst 1, 1) := by decide +kernel
theorem dX9_weeks_8 : decode cX9_weeks 8 = .ok (.invokestatic 51, 3) := by decide +kernel
theorem dX9_weeks_11 : decode cX9_weeks 11 = .ok (.ifCond .eq 13, 3) := by decide +kernel
theorem dX9_weeks_14 : decode cX9_weeks 14 = .ok (.iload_n 2, 1) := by decide +kernel
theorem dX9_weeks_15 : decode cX9_weeks 15 = .ok (.iconst 1, 1) := by decide +kernel
theorem dX9_weeks_16 : decode cX9_weeks 16 = .ok (.bipush 50, 2) := by decide +kernel
theorem dX9_weeks_18 : decode cX9_weeks 18 = .ok (.invokestatic 51, 3) := by decide +kernel
theorem dX9_weeks_21 : decode cX9_weeks 21 = .ok (.ifCond .ne 5, 3) := by decide +kernel
theorem dX9_weeks_24 : decode cX9_weeks 24 = .ok (.iconst (-1), 1) := by decide +kernel
theorem dX9_weeks_25 : decode cX9_weeks 25 = .ok (.ireturn, 1) := by decide +kernel
theorem dX9_weeks_26 : decode cX9_weeks 26 = .ok (.iconst 1, 1) := by decide +kernel
theorem dX9_weeks_27 : decode cX9_weeks 27 = .ok (.iload_n 1, 1) := by decide +kernel
theorem dX9_weeks_28 : decode cX9_weeks 28 = .ok (.isub, 1) := by decide +kernel
theorem dX9_weeks_29 : decode cX9_weeks 29 = .ok (.istore_n 3, 1) := by decide +kernel
theorem dX9_weeks_30 : decode cX9_weeks 30 = .ok (.iconst 0, 1) := by decide +kernel
theorem dX9_weeks_31 : decode cX9_weeks 31 = .ok (.istore 4, 2) := by decide +kernel
theorem dX9_weeks_33 : decode cX9_weeks 33 = .ok (.iload 4, 2) := by decide +kernel
theorem dX9_weeks_35 : decode cX9_weeks 35 = .ok (.iload_n 2, 1) := by decide +kernel
theorem dX9_weeks_36 : decode cX9_weeks 36 = .ok (.if_icmp .ge 133, 3) := by decide +kernel
theorem dX9_weeks_39 : decode cX9_weeks 39 = .ok (.aload_n 0, 1) := by decide +kernel
theorem dX9_weeks_40 : decode cX9_weeks 40 = .ok (.getfield 16, 3) := by decide +kernel
theorem dX9_weeks_43 : decode cX9_weeks 43 = .ok (.bipush 25, 2) := by decide +kernel
theorem dX9_weeks_45 : decode cX9_weeks 45 = .ok (.iload_n 1, 1) := by decide +kernel
theorem dX9_weeks_46 : decode cX9_weeks 46 = .ok (.iadd, 1) := by decide +kernel
theorem dX9_weeks_47 : decode cX9_weeks 47 = .ok (.iaload, 1) := by decide +kernel
theorem dX9_weeks_48 : decode cX9_weeks 48 = .ok (.aload_n 0, 1) := by decide +kernel
theorem dX9_weeks_49 : decode cX9_weeks 49 = .ok (.getfield 32, 3) := by decide +kernel
theorem dX9_weeks_52 : decode cX9_weeks 52 = .ok (.iadd, 1) := by decide +kernel
theorem dX9_weeks_53 : decode cX9_weeks 53 = .ok (.istore 5, 2) := by decide +kernel
theorem dX9_weeks_55 : decode cX9_weeks 55 = .ok (.aload_n 0, 1) := by decide +kernel
theorem dX9_weeks_56 : decode cX9_weeks 56 = .ok (.getfield 16, 3) := by decide +kernel
theorem dX9_weeks_59 : decode cX9_weeks 59 = .ok (.bipush 25, 2) := by decide +kernel
theorem dX9_weeks_61 : decode cX9_weeks 61 = .ok (.iload_n 3, 1) := by decide +kernel
theorem dX9_weeks_62 : decode cX9_weeks 62 = .ok (.iadd, 1) := by decide +kernel
theorem dX9_weeks_63 : decode cX9_weeks 63 = .ok (.iaload, 1) := by decide +kernel
theorem dX9_weeks_64 : decode cX9_weeks 64 = .ok (.aload_n 0, 1) := by decide +kernel
theorem dX9_weeks_65 : decode cX9_weeks 65 = .ok (.getfield 36, 3) := by decide +kernel
theorem dX9_weeks_68 : decode cX9_weeks 68 = .ok (.isub, 1) := by decide +kernel
theorem dX9_weeks_69 : decode cX9_weeks 69 = .ok (.istore 6, 2) := by decide +kernel
theorem dX9_weeks_71 : decode cX9_weeks 71 = .ok (.aload_n 0, 1) := by decide +kernel
theorem dX9_weeks_72 : decode cX9_weeks 72 = .ok (.getfield 16, 3) := by decide +kernel
theorem dX9_weeks_75 : decode cX9_weeks 75 = .ok (.bipush 25, 2) := by decide +kernel
theorem dX9_weeks_77 : decode cX9_weeks 77 = .ok (.iload_n 1, 1) := by decide +kernel
theorem dX9_weeks_78 : decode cX9_weeks 78 = .ok (.iadd, 1) := by decide +kernel
theorem dX9_weeks_79 : decode cX9_weeks 79 = .ok (.aload_n 0, 1) := by decide +kernel
theorem dX9_weeks_80 : decode cX9_weeks 80 = .ok (.getfield 16, 3) := by decide +kernel
theorem dX9_weeks_83 : decode cX9_weeks 83 = .ok (.bipush 27, 2) := by decide +kernel
theorem dX9_weeks_85 : decode cX9_weeks 85 = .ok (.iload_n 1, 1) := by decide +kernel
theorem dX9_weeks_86 : decode cX9_weeks 86 = .ok (.iadd, 1) := by decide +kernel
theorem dX9_weeks_87 : decode cX9_weeks 87 = .ok (.iaload, 1) := by decide +kernel
theorem dX9_weeks_88 : decode cX9_weeks 88 = .ok (.iconst 1, 1) := by decide +kernel
theorem dX9_weeks_89 : decode cX9_weeks 89 = .ok (.if_icmp .eq 10, 3) := by decide +kernel
theorem dX9_weeks_92 : decode cX9_weeks 92 = .ok (.iload 5, 2) := by decide +kernel
theorem dX9_weeks_94 : decode cX9_weeks 94 = .ok (.bipush 100, 2) := by decide +kernel
theorem dX9_weeks_96 : decode cX9_weeks 96 = .ok (.if_icmp .le 8, 3) := by decide +kernel
theorem dX9_weeks_99 : decode cX9_weeks 99 = .ok (.bipush 100, 2) := by decide +kernel
theorem dX9_weeks_101 : decode cX9_weeks 101 = .ok (.goto 5, 3) := by decide +kernel
theorem dX9_weeks_104 : decode cX9_weeks 104 = .ok (.iload 5, 2) := by decide +kernel
theorem dX9_weeks_106 : decode cX9_weeks 106 = .ok (.iastore, 1) := by decide +kernel
theorem dX9_weeks_107 : decode cX9_weeks 107 = .ok (.aload_n 0, 1) := by decide +kernel
theorem dX9_weeks_108 : decode cX9_weeks 108 = .ok (.getfield 16, 3) := by decide +kernel
theorem dX9_weeks_111 : decode cX9_weeks 111 = .ok (.bipush 25, 2) := by decide +kernel
theorem dX9_weeks_113 : decode cX9_weeks 113 = .ok (.iload_n 3, 1) := by decide +kernel
theorem dX9_weeks_114 : decode cX9_weeks 114 = .ok (.iadd, 1) := by decide +kernel
theorem dX9_weeks_115 : decode cX9_weeks 115 = .ok (.iload 6, 2) := by decide +kernel
theorem dX9_weeks_117 : decode cX9_weeks 117 = .ok (.ifCond .ge 7, 3) := by decide +kernel
theorem dX9_weeks_120 : decode cX9_weeks 120 = .ok (.iconst 0, 1) := by decide +kernel
theorem dX9_weeks_121 : decode cX9_weeks 121 = .ok (.goto 5, 3) := by decide +kernel
theorem dX9_weeks_124 : decode cX9_weeks 124 = .ok (.iload 6, 2) := by decide +kernel
theorem dX9_weeks_126 : decode cX9_weeks 126 = .ok (.iastore, 1) := by decide +kernel
theorem dX9_weeks_127 : decode cX9_weeks 127 = .ok (.aload_n 0, 1) := by decide +kernel
theorem dX9_weeks_128 : decode cX9_weeks 128 = .ok (.getfield 16, 3) := by decide +kernel
theorem dX9_weeks_131 : decode cX9_weeks 131 = .ok (.bipush 27, 2) := by decide +kernel
theorem dX9_weeks_133 : decode cX9_weeks 133 = .ok (.iload_n 1, 1) := by decide +kernel
theorem dX9_weeks_134 : decode cX9_weeks 134 = .ok (.iadd, 1) := by decide +kernel
theorem dX9_weeks_135 : decode cX9_weeks 135 = .ok (.aload_n 0, 1) := by decide +kernel
theorem dX9_weeks_136 : decode cX9_weeks 136 = .ok (.getfield 16, 3) := by decide +kernel
theorem dX9_weeks_139 : decode cX9_weeks 139 = .ok (.bipush 25, 2) := by decide +kernel
theorem dX9_weeks_141 : decode cX9_weeks 141 = .ok (.iload_n 1, 1) := by decide +kernel
theorem dX9_weeks_142 : decode cX9_weeks 142 = .ok (.iadd, 1) := by decide +kernel
theorem dX9_weeks_143 : decode cX9_weeks 143 = .ok (.iaload, 1) := by decide +kernel
theorem dX9_weeks_144 : decode cX9_weeks 144 = .ok (.bipush 100, 2) := by decide +kernel
theorem dX9_weeks_146 : decode cX9_weeks 146 = .ok (.if_icmp .ne 7, 3) := by decide +kernel
theorem dX9_weeks_149 : decode cX9_weeks 149 = .ok (.iconst 1, 1) := by decide +kernel
theorem dX9_weeks_150 : decode cX9_weeks 150 = .ok (.goto 12, 3) := by decide +kernel
theorem dX9_weeks_153 : decode cX9_weeks 153 = .ok (.aload_n 0, 1) := by decide +kernel
theorem dX9_weeks_154 : decode cX9_weeks 154 = .ok (.getfield 16, 3) := by decide +kernel
theorem dX9_weeks_157 : decode cX9_weeks 157 = .ok (.bipush 27, 2) := by decide +kernel
theorem dX9_weeks_159 : decode cX9_weeks 159 = .ok (.iload_n 1, 1) := by decide +kernel
theorem dX9_weeks_160 : decode cX9_weeks 160 = .ok (.iadd, 1) := by decide +kernel
theorem dX9_weeks_161 : decode cX9_weeks 161 = .ok (.iaload, 1) := by decide +kernel
theorem dX9_weeks_162 : decode cX9_weeks 162 = .ok (.iastore, 1) := by decide +kernel
theorem dX9_weeks_163 : decode cX9_weeks 163 = .ok (.iinc 4 1, 3) := by decide +kernel
theorem dX9_weeks_166 : decode cX9_weeks 166 = .ok (.goto (-133), 3) := by decide +kernel
theorem dX9_weeks_169 : decode cX9_weeks 169 = .ok (.aload_n 0, 1) := by decide +kernel
theorem dX9_weeks_170 : decode cX9_weeks 170 = .ok (.getfield 16, 3) := by decide +kernel
theorem dX9_weeks_173 : decode cX9_weeks 173 = .ok (.bipush 25, 2) := by decide +kernel
theorem dX9_weeks_175 : decode cX9_weeks 175 = .ok (.iload_n 1, 1) := by decide +kernel
theorem dX9_weeks_176 : decode cX9_weeks 176 = .ok (.iadd, 1) := by decide +kernel
theorem dX9_weeks_177 : decode cX9_weeks 177 = .ok (.iaload, 1) := by decide +kernel
theorem dX9_weeks_178 : decode cX9_weeks 178 = .ok (.ireturn, 1) := by decide +kernel
set_option maxRecDepth 20000 in
theorem ggX9_tune_X9_in : GoodIn wsX9_tune wsX9_in := goodIn_r _ [7] (by decide +kernel) (by decide +kernel)
set_option maxRecDepth 20000 in
theorem gX9_tune_X9_in : GoodIn wsX9_tune (va_wsS RX9 51 yX9_in wsX9_in) := goodIn_app (goodIn_of _ (by decide +kernel)) ggX9_tune_X9_in
theorem dX9_tune_0 : decode cX9_tune 0 = .ok (.aload_n 0, 1) := by decide +kernel
theorem dX9_tune_1 : decode cX9_tune 1 = .ok (.iconst 0, 1) := by decide +kernel
theorem dX9_tune_2 : decode cX9_tune 2 = .ok (.putfield 48, 3) := by decide +kernel
theorem dX9_tune_5 : decode cX9_tune 5 = .ok (.iload_n 1, 1) := by decide +kernel
theorem dX9_tune_6 : decode cX9_tune 6 = .ok (.iconst 0, 1) := by decide +kernel
theorem dX9_tune_7 : decode cX9_tune 7 = .ok (.iconst 1, 1) := by decide +kernel
theorem dX9_tune_8 : decode cX9_tune 8 = .ok (.invokestatic 51, 3) := by decide +kernel
theorem dX9_tune_11 : decode cX9_tune 11 = .ok (.ifCond .eq 21, 3) := by decide +kernel
theorem dX9_tune_14 : decode cX9_tune 14 = .ok (.iload_n 2, 1) := by decide +kernel
theorem dX9_tune_15 : decode cX9_tune 15 = .ok (.iload_n 1, 1) := by decide +kernel
theorem dX9_tune_16 : decode cX9_tune 16 = .ok (.ifCond .ne 7, 3) := by decide +kernel
theorem dX9_tune_19 : decode cX9_tune 19 = .ok (.iconst 1, 1) := by decide +kernel
theorem dX9_tune_20 : decode cX9_tune 20 = .ok (.goto 4, 3) := by decide +kernel
theorem dX9_tune_23 : decode cX9_tune 23 = .ok (.iconst 0, 1) := by decide +kernel
theorem dX9_tune_24 : decode cX9_tune 24 = .ok (.bipush 50, 2) := by decide +kernel
theorem dX9_tune_26 : decode cX9_tune 26 = .ok (.invokestatic 51, 3) := by decide +kernel
theorem dX9_tune_29 : decode cX9_tune 29 = .ok (.ifCond .ne 5, 3) := by decide +kernel
theorem dX9_tune_32 : decode cX9_tune 32 = .ok (.iconst (-1), 1) := by decide +kernel
theorem dX9_tune_33 : decode cX9_tune 33 = .ok (.ireturn, 1) := by decide +kernel
theorem dX9_tune_34 : decode cX9_tune 34 = .ok (.iload_n 1, 1) := by decide +kernel
theorem dX9_tune_35 : decode cX9_tune 35 = .ok (.ifCond .ne 10, 3) := by decide +kernel
theorem dX9_tune_38 : decode cX9_tune 38 = .ok (.aload_n 0, 1) := by decide +kernel
theorem dX9_tune_39 : decode cX9_tune 39 = .ok (.getfield 32, 3) := by decide +kernel
theorem dX9_tune_42 : decode cX9_tune 42 = .ok (.goto 7, 3) := by decide +kernel
theorem dX9_tune_45 : decode cX9_tune 45 = .ok (.aload_n 0, 1) := by decide +kernel
theorem dX9_tune_46 : decode cX9_tune 46 = .ok (.getfield 36, 3) := by decide +kernel
theorem dX9_tune_49 : decode cX9_tune 49 = .ok (.istore_n 3, 1) := by decide +kernel
theorem dX9_tune_50 : decode cX9_tune 50 = .ok (.aload_n 0, 1) := by decide +kernel
theorem dX9_tune_51 : decode cX9_tune 51 = .ok (.iload_n 1, 1) := by decide +kernel
theorem dX9_tune_52 : decode cX9_tune 52 = .ok (.ifCond .ne 7, 3) := by decide +kernel
theorem dX9_tune_55 : decode cX9_tune 55 = .ok (.iload_n 2, 1) := by decide +kernel
theorem dX9_tune_56 : decode cX9_tune 56 = .ok (.goto 7, 3) := by decide +kernel
theorem dX9_tune_59 : decode cX9_tune 59 = .ok (.aload_n 0, 1) := by decide +kernel
theorem dX9_tune_60 : decode cX9_tune 60 = .ok (.getfield 32, 3) := by decide +kernel
theorem dX9_tune_63 : decode cX9_tune 63 = .ok (.putfield 32, 3) := by decide +kernel
theorem dX9_tune_66 : decode cX9_tune 66 = .ok (.aload_n 0, 1) := by decide +kernel
theorem dX9_tune_67 : decode cX9_tune 67 = .ok (.iload_n 1, 1) := by decide +kernel
theorem dX9_tune_68 : decode cX9_tune 68 = .ok (.iconst 1, 1) := by decide +kernel
theorem dX9_tune_69 : decode cX9_tune 69 = .ok (.if_icmp .ne 7, 3) := by decide +kernel
theorem dX9_tune_72 : decode cX9_tune 72 = .ok (.iload_n 2, 1) := by decide +kernel
theorem dX9_tune_73 : decode cX9_tune 73 = .ok (.goto 7, 3) := by decide +kernel
theorem dX9_tune_76 : decode cX9_tune 76 = .ok (.aload_n 0, 1) := by decide +kernel
theorem dX9_tune_77 : decode cX9_tune 77 = .ok (.getfield 36, 3) := by decide +kernel
theorem dX9_tune_80 : decode cX9_tune 80 = .ok (.putfield 36, 3) := by decide +kernel
theorem dX9_tune_83 : decode cX9_tune 83 = .ok (.iload_n 3, 1) := by decide +kernel
theorem dX9_tune_84 : decode cX9_tune 84 = .ok (.ireturn, 1) := by decide +kernel
set_option maxRecDepth 20000 in
theorem ggX9_habit_X9_in : GoodIn wsX9_habit wsX9_in := goodIn_r _ [7] (by decide +kernel) (by decide +kernel)
set_option maxRecDepth 20000 in
theorem gX9_habit_X9_in : GoodIn wsX9_habit (va_wsS RX9 51 yX9_in wsX9_in) := goodIn_app (goodIn_of _ (by decide +kernel)) ggX9_habit_X9_in
theorem dX9_habit_0 : decode cX9_habit 0 = .ok (.aload_n 0, 1) := by decide +kernel
theorem dX9_habit_1 : decode cX9_habit 1 = .ok (.iconst 0, 1) := by decide +kernel
theorem dX9_habit_2 : decode cX9_habit 2 = .ok (.putfield 48, 3) := by decide +kernel
theorem dX9_habit_5 : decode cX9_habit 5 = .ok (.iload_n 1, 1) := by decide +kernel
theorem dX9_habit_6 : decode cX9_habit 6 = .ok (.iconst 0, 1) := by decide +kernel
theorem dX9_habit_7 : decode cX9_habit 7 = .ok (.iconst 1, 1) := by decide +kernel
theorem dX9_habit_8 : decode cX9_habit 8 = .ok (.invokestatic 51, 3) := by decide +kernel
theorem dX9_habit_11 : decode cX9_habit 11 = .ok (.ifCond .eq 12, 3) := by decide +kernel
theorem dX9_habit_14 : decode cX9_habit 14 = .ok (.iload_n 2, 1) := by decide +kernel
theorem dX9_habit_15 : decode cX9_habit 15 = .ok (.iconst 0, 1) := by decide +kernel
theorem dX9_habit_16 : decode cX9_habit 16 = .ok (.iconst 1, 1) := by decide +kernel
theorem dX9_habit_17 : decode cX9_habit 17 = .ok (.invokestatic 51, 3) := by decide +kernel
theorem dX9_habit_20 : decode cX9_habit 20 = .ok (.ifCond .ne 5, 3) := by decide +kernel
theorem dX9_habit_23 : decode cX9_habit 23 = .ok (.iconst (-1), 1) := by decide +kernel
theorem dX9_habit_24 : decode cX9_habit 24 = .ok (.ireturn, 1) := by decide +kernel
theorem dX9_habit_25 : decode cX9_habit 25 = .ok (.aload_n 0, 1) := by decide +kernel
theorem dX9_habit_26 : decode cX9_habit 26 = .ok (.getfield 16, 3) := by decide +kernel
theorem dX9_habit_29 : decode cX9_habit 29 = .ok (.bipush 25, 2) := by decide +kernel
theorem dX9_habit_31 : decode cX9_habit 31 = .ok (.iload_n 1, 1) := by decide +kernel
theorem dX9_habit_32 : decode cX9_habit 32 = .ok (.iadd, 1) := by decide +kernel
theorem dX9_habit_33 : decode cX9_habit 33 = .ok (.iaload, 1) := by decide +kernel
theorem dX9_habit_34 : decode cX9_habit 34 = .ok (.istore_n 3, 1) := by decide +kernel
theorem dX9_habit_35 : decode cX9_habit 35 = .ok (.iload_n 2, 1) := by decide +kernel
theorem dX9_habit_36 : decode cX9_habit 36 = .ok (.ifCond .ne 5, 3) := by decide +kernel
theorem dX9_habit_39 : decode cX9_habit 39 = .ok (.iload_n 3, 1) := by decide +kernel
theorem dX9_habit_40 : decode cX9_habit 40 = .ok (.ireturn, 1) := by decide +kernel
theorem dX9_habit_41 : decode cX9_habit 41 = .ok (.iload_n 3, 1) := by decide +kernel
theorem dX9_habit_42 : decode cX9_habit 42 = .ok (.bipush 100, 2) := by decide +kernel
theorem dX9_habit_44 : decode cX9_habit 44 = .ok (.if_icmp .ne 7, 3) := by decide +kernel
theorem dX9_habit_47 : decode cX9_habit 47 = .ok (.iconst 0, 1) := by decide +kernel
theorem dX9_habit_48 : decode cX9_habit 48 = .ok (.goto 36, 3) := by decide +kernel
theorem dX9_habit_51 : decode cX9_habit 51 = .ok (.aload_n 0, 1) := by decide +kernel
theorem dX9_habit_52 : decode cX9_habit 52 = .ok (.getfield 16, 3) := by decide +kernel
theorem dX9_habit_55 : decode cX9_habit 55 = .ok (.bipush 27, 2) := by decide +kernel
theorem dX9_habit_57 : decode cX9_habit 57 = .ok (.iload_n 1, 1) := by decide +kernel
theorem dX9_habit_58 : decode cX9_habit 58 = .ok (.iadd, 1) := by decide +kernel
theorem dX9_habit_59 : decode cX9_habit 59 = .ok (.iaload, 1) := by decide +kernel
theorem dX9_habit_60 : decode cX9_habit 60 = .ok (.iconst 1, 1) := by decide +kernel
theorem dX9_habit_61 : decode cX9_habit 61 = .ok (.if_icmp .ne 7, 3) := by decide +kernel
theorem dX9_habit_64 : decode cX9_habit 64 = .ok (.iconst 1, 1) := by decide +kernel
theorem dX9_habit_65 : decode cX9_habit 65 = .ok (.goto 19, 3) := by decide +kernel
theorem dX9_habit_68 : decode cX9_habit 68 = .ok (.bipush 100, 2) := by decide +kernel
theorem dX9_habit_70 : decode cX9_habit 70 = .ok (.iload_n 3, 1) := by decide +kernel
theorem dX9_habit_71 : decode cX9_habit 71 = .ok (.isub, 1) := by decide +kernel
theorem dX9_habit_72 : decode cX9_habit 72 = .ok (.aload_n 0, 1) := by decide +kernel
theorem dX9_habit_73 : decode cX9_habit 73 = .ok (.getfield 32, 3) := by decide +kernel
theorem dX9_habit_76 : decode cX9_habit 76 = .ok (.iadd, 1) := by decide +kernel
theorem dX9_habit_77 : decode cX9_habit 77 = .ok (.iconst 1, 1) := by decide +kernel
theorem dX9_habit_78 : decode cX9_habit 78 = .ok (.isub, 1) := by decide +kernel
theorem dX9_habit_79 : decode cX9_habit 79 = .ok (.aload_n 0, 1) := by decide +kernel
theorem dX9_habit_80 : decode cX9_habit 80 = .ok (.getfield 32, 3) := by decide +kernel
theorem dX9_habit_83 : decode cX9_habit 83 = .ok (.idiv, 1) := by decide +kernel
theorem dX9_habit_84 : decode cX9_habit 84 = .ok (.ireturn, 1) := by decide +kernel
theorem dX9_many_0 : decode cX9_many 0 = .ok (.iconst 0, 1) := by decide +kernel
theorem dX9_many_1 : decode cX9_many 1 = .ok (.istore_n 2, 1) := by decide +kernel
theorem dX9_many_2 : decode cX9_many 2 = .ok (.iconst 0, 1) := by decide +kernel
theorem dX9_many_3 : decode cX9_many 3 = .ok (.istore_n 3, 1) := by decide +kernel
theorem dX9_many_4 : decode cX9_many 4 = .ok (.iload_n 3, 1) := by decide +kernel
theorem dX9_many_5 : decode cX9_many 5 = .ok (.bipush 41, 2) := by decide +kernel
theorem dX9_many_7 : decode cX9_many 7 = .ok (.if_icmp .ge 18, 3) := by decide +kernel
theorem dX9_many_10 : decode cX9_many 10 = .ok (.iload_n 2, 1) := by decide +kernel
theorem dX9_many_11 : decode cX9_many 11 = .ok (.lload_n 0, 1) := by decide +kernel
theorem dX9_many_12 : decode cX9_many 12 = .ok (.iload_n 3, 1) := by decide +kernel
theorem dX9_many_13 : decode cX9_many 13 = .ok (.lshr, 1) := by decide +kernel
theorem dX9_many_14 : decode cX9_many 14 = .ok (.lconst 1, 1) := by decide +kernel
theorem dX9_many_15 : decode cX9_many 15 = .ok (.land, 1) := by decide +kernel
theorem dX9_many_16 : decode cX9_many 16 = .ok (.l2i, 1) := by decide +kernel
theorem dX9_many_17 : decode cX9_many 17 = .ok (.iadd, 1) := by decide +kernel
theorem dX9_many_18 : decode cX9_many 18 = .ok (.istore_n 2, 1) := by decide +kernel
theorem dX9_many_19 : decode cX9_many 19 = .ok (.iinc 3 1, 3) := by decide +kernel
theorem dX9_many_22 : decode cX9_many 22 = .ok (.goto (-18), 3) := by decide +kernel
theorem dX9_many_25 : decode cX9_many 25 = .ok (.iload_n 2, 1) := by decide +kernel
theorem dX9_many_26 : decode cX9_many 26 = .ok (.ireturn, 1) := by decide +kernel
set_option maxRecDepth 20000 in
theorem ggX9_score_X9_in : GoodIn wsX9_score wsX9_in := goodIn_r _ [15] (by decide +kernel) (by decide +kernel)
set_option maxRecDepth 20000 in
theorem gX9_score_X9_in : GoodIn wsX9_score (va_wsS RX9 51 yX9_in wsX9_in) := goodIn_app (goodIn_of _ (by decide +kernel)) ggX9_score_X9_in
set_option maxRecDepth 20000 in
theorem ggX9_score_X9_isBicycle : GoodIn wsX9_score wsX9_isBicycle := goodIn_r _ [18, 12, 13, 14, 15] (by decide +kernel) (by decide +kernel)
set_option maxRecDepth 20000 in
theorem gX9_score_X9_isBicycle : GoodIn wsX9_score (va_wsS RX9 59 yX9_isBicycle wsX9_isBicycle) := goodIn_app (goodIn_of _ (by decide +kernel)) ggX9_score_X9_isBicycle
set_option maxRecDepth 20000 in
theorem ggX9_score_X9_takes : GoodIn wsX9_score wsX9_takes := goodIn_r _ [22, 23, 10, 49, 50, 51, 52, 53, 54, 55, 56, 57, 58, 59, 60, 61, 62, 63, 64, 65, 66, 67, 68, 69] (by decide +kernel) (by decide +kernel)
set_option maxRecDepth 20000 in
theorem gX9_score_X9_takes : GoodIn wsX9_score (wsV RX9 85 RX9 yX9_takes wsX9_takes) := goodIn_app (goodIn_of _ (by decide +kernel)) ggX9_score_X9_takes
set_option maxRecDepth 20000 in
theorem ggX9_score_X9_manySpeeds : GoodIn wsX9_score wsX9_manySpeeds := goodIn_r _ [27, 28, 29, 30, 14, 31, 32, 23, 33, 34, 35, 36, 37, 49, 50, 51, 52, 53, 54, 55, 56, 57, 58, 59, 60, 61, 62, 63, 64, 65, 66, 67, 68, 69] (by decide +kernel) (by decide +kernel)
set_option maxRecDepth 20000 in
theorem gX9_score_X9_manySpeeds : GoodIn wsX9_score (wsV RX9 107 RX9 yX9_manySpeeds wsX9_manySpeeds) := goodIn_app (goodIn_of _ (by decide +kernel)) ggX9_score_X9_manySpeeds
set_option maxRecDepth 20000 in
theorem ggX9_score_X9_rangeWithout : GoodIn wsX9_score wsX9_rangeWithout := goodIn_r _ [41, 23, 19, 20, 21, 14, 22, 10, 42, 43, 44, 45, 28, 29, 30, 31, 32, 33, 34, 35, 36, 37, 49, 50, 51, 52, 53, 54, 55, 56, 57, 58, 59, 60, 61, 62, 63, 64, 65, 66, 67, 68, 69] (by decide +kernel) (by decide +kernel)
set_option maxRecDepth 20000 in
theorem gX9_score_X9_rangeWithout : GoodIn wsX9_score (wsV RX9 98 RX9 yX9_rangeWithout wsX9_rangeWithout) := goodIn_app (goodIn_of _ (by decide +kernel)) ggX9_score_X9_rangeWithout
set_option maxRecDepth 20000 in
theorem ggX9_score_X9_many : GoodIn wsX9_score wsX9_many := goodIn_r _ [48] (by decide +kernel) (by decide +kernel)
set_option maxRecDepth 20000 in
theorem gX9_score_X9_many : GoodIn wsX9_score (va_wsS RX9 180 yX9_many wsX9_many) := goodIn_app (goodIn_of _ (by decide +kernel)) ggX9_score_X9_many
theorem dX9_score_0 : decode cX9_score 0 = .ok (.aload_n 0, 1) := by decide +kernel
theorem dX9_score_1 : decode cX9_score 1 = .ok (.iconst 0, 1) := by decide +kernel
theorem dX9_score_2 : decode cX9_score 2 = .ok (.putfield 48, 3) := by decide +kernel
theorem dX9_score_5 : decode cX9_score 5 = .ok (.iload_n 1, 1) := by decide +kernel
theorem dX9_score_6 : decode cX9_score 6 = .ok (.iconst 0, 1) := by decide +kernel
theorem dX9_score_7 : decode cX9_score 7 = .ok (.bipush 6, 2) := by decide +kernel
theorem dX9_score_9 : decode cX9_score 9 = .ok (.invokestatic 51, 3) := by decide +kernel
theorem dX9_score_12 : decode cX9_score 12 = .ok (.ifCond .eq 10, 3) := by decide +kernel
theorem dX9_score_15 : decode cX9_score 15 = .ok (.iload_n 2, 1) := by decide +kernel
theorem dX9_score_16 : decode cX9_score 16 = .ok (.invokestatic 59, 3) := by decide +kernel
theorem dX9_score_19 : decode cX9_score 19 = .ok (.ifCond .ne 6, 3) := by decide +kernel
theorem dX9_score_22 : decode cX9_score 22 = .ok (.ldc 70, 2) := by decide +kernel
theorem dX9_score_24 : decode cX9_score 24 = .ok (.ireturn, 1) := by decide +kernel
theorem dX9_score_25 : decode cX9_score 25 = .ok (.aload_n 0, 1) := by decide +kernel
theorem dX9_score_26 : decode cX9_score 26 = .ok (.iload_n 2, 1) := by decide +kernel
theorem dX9_score_27 : decode cX9_score 27 = .ok (.invokevirtual 85, 3) := by decide +kernel
theorem dX9_score_30 : decode cX9_score 30 = .ok (.aload_n 0, 1) := by decide +kernel
theorem dX9_score_31 : decode cX9_score 31 = .ok (.invokevirtual 107, 3) := by decide +kernel
theorem dX9_score_34 : decode cX9_score 34 = .ok (.istore_n 3, 1) := by decide +kernel
theorem dX9_score_35 : decode cX9_score 35 = .ok (.iload_n 3, 1) := by decide +kernel
theorem dX9_score_36 : decode cX9_score 36 = .ok (.aload_n 0, 1) := by decide +kernel
theorem dX9_score_37 : decode cX9_score 37 = .ok (.iload_n 2, 1) := by decide +kernel
theorem dX9_score_38 : decode cX9_score 38 = .ok (.iconst 1, 1) := by decide +kernel
theorem dX9_score_39 : decode cX9_score 39 = .ok (.invokevirtual 98, 3) := by decide +kernel
theorem dX9_score_42 : decode cX9_score 42 = .ok (.invokestatic 180, 3) := by decide +kernel
theorem dX9_score_45 : decode cX9_score 45 = .ok (.isub, 1) := by decide +kernel
theorem dX9_score_46 : decode cX9_score 46 = .ok (.istore 4, 2) := by decide +kernel
theorem dX9_score_48 : decode cX9_score 48 = .ok (.iload_n 3, 1) := by decide +kernel
theorem dX9_score_49 : decode cX9_score 49 = .ok (.aload_n 0, 1) := by decide +kernel
theorem dX9_score_50 : decode cX9_score 50 = .ok (.iload_n 2, 1) := by decide +kernel
theorem dX9_score_51 : decode cX9_score 51 = .ok (.iconst 0, 1) := by decide +kernel
theorem dX9_score_52 : decode cX9_score 52 = .ok (.invokevirtual 98, 3) := by decide +kernel
theorem dX9_score_55 : decode cX9_score 55 = .ok (.invokestatic 180, 3) := by decide +kernel
theorem dX9_score_58 : decode cX9_score 58 = .ok (.isub, 1) := by decide +kernel
theorem dX9_score_59 : decode cX9_score 59 = .ok (.istore 5, 2) := by decide +kernel
theorem dX9_score_61 : decode cX9_score 61 = .ok (.aload_n 0, 1) := by decide +kernel
theorem dX9_score_62 : decode cX9_score 62 = .ok (.dup, 1) := by decide +kernel
theorem dX9_score_63 : decode cX9_score 63 = .ok (.getfield 183, 3) := by decide +kernel
theorem dX9_score_66 : decode cX9_score 66 = .ok (.iload_n 1, 1) := by decide +kernel
theorem dX9_score_67 : decode cX9_score 67 = .ok (.ifCond .ne 7, 3) := by decide +kernel
theorem dX9_score_70 : decode cX9_score 70 = .ok (.lconst 1, 1) := by decide +kernel
theorem dX9_score_71 : decode cX9_score 71 = .ok (.goto 61, 3) := by decide +kernel
theorem dX9_score_74 : decode cX9_score 74 = .ok (.iload_n 1, 1) := by decide +kernel
theorem dX9_score_75 : decode cX9_score 75 = .ok (.iconst 1, 1) := by decide +kernel
theorem dX9_score_76 : decode cX9_score 76 = .ok (.if_icmp .ne 9, 3) := by decide +kernel
theorem dX9_score_79 : decode cX9_score 79 = .ok (.ldc2_w 187, 3) := by decide +kernel
theorem dX9_score_82 : decode cX9_score 82 = .ok (.goto 50, 3) := by decide +kernel
theorem dX9_score_85 : decode cX9_score 85 = .ok (.iload_n 1, 1) := by decide +kernel
theorem dX9_score_86 : decode cX9_score 86 = .ok (.iconst 2, 1) := by decide +kernel
theorem dX9_score_87 : decode cX9_score 87 = .ok (.if_icmp .ne 9, 3) := by decide +kernel
theorem dX9_score_90 : decode cX9_score 90 = .ok (.ldc2_w 189, 3) := by decide +kernel
theorem dX9_score_93 : decode cX9_score 93 = .ok (.goto 39, 3) := by decide +kernel
theorem dX9_score_96 : decode cX9_score 96 = .ok (.iload_n 1, 1) := by decide +kernel
theorem dX9_score_97 : decode cX9_score 97 = .ok (.iconst 3, 1) := by decide +kernel
theorem dX9_score_98 : decode cX9_score 98 = .ok (.if_icmp .ne 9, 3) := by decide +kernel
theorem dX9_score_101 : decode cX9_score 101 = .ok (.ldc2_w 191, 3) := by decide +kernel
theorem dX9_score_104 : decode cX9_score 104 = .ok (.goto 28, 3) := by decide +kernel
theorem dX9_score_107 : decode cX9_score 107 = .ok (.iload_n 1, 1) := by decide +kernel
theorem dX9_score_108 : decode cX9_score 108 = .ok (.iconst 4, 1) := by decide +kernel
theorem dX9_score_109 : decode cX9_score 109 = .ok (.if_icmp .ne 9, 3) := by decide +kernel
theorem dX9_score_112 : decode cX9_score 112 = .ok (.ldc2_w 193, 3) := by decide +kernel
theorem dX9_score_115 : decode cX9_score 115 = .ok (.goto 17, 3) := by decide +kernel
theorem dX9_score_118 : decode cX9_score 118 = .ok (.iload_n 1, 1) := by decide +kernel
theorem dX9_score_119 : decode cX9_score 119 = .ok (.iconst 5, 1) := by decide +kernel
theorem dX9_score_120 : decode cX9_score 120 = .ok (.if_icmp .ne 9, 3) := by decide +kernel
theorem dX9_score_123 : decode cX9_score 123 = .ok (.ldc2_w 195, 3) := by decide +kernel
theorem dX9_score_126 : decode cX9_score 126 = .ok (.goto 6, 3) := by decide +kernel
theorem dX9_score_129 : decode cX9_score 129 = .ok (.ldc2_w 197, 3) := by decide +kernel
theorem dX9_score_132 : decode cX9_score 132 = .ok (.ladd, 1) := by decide +kernel
theorem dX9_score_133 : decode cX9_score 133 = .ok (.putfield 183, 3) := by decide +kernel
theorem dX9_score_136 : decode cX9_score 136 = .ok (.iload_n 1, 1) := by decide +kernel
theorem dX9_score_137 : decode cX9_score 137 = .ok (.ifCond .ne 7, 3) := by decide +kernel
theorem dX9_score_140 : decode cX9_score 140 = .ok (.iload_n 3, 1) := by decide +kernel
theorem dX9_score_141 : decode cX9_score 141 = .ok (.goto 101, 3) := by decide +kernel
theorem dX9_score_144 : decode cX9_score 144 = .ok (.iload_n 1, 1) := by decide +kernel
theorem dX9_score_145 : decode cX9_score 145 = .ok (.iconst 1, 1) := by decide +kernel
theorem dX9_score_146 : decode cX9_score 146 = .ok (.if_icmp .ne 19, 3) := by decide +kernel
theorem dX9_score_149 : decode cX9_score 149 = .ok (.iload_n 3, 1) := by decide +kernel
theorem dX9_score_150 : decode cX9_score 150 = .ok (.aload_n 0, 1) := by decide +kernel
theorem dX9_score_151 : decode cX9_score 151 = .ok (.getfield 7, 3) := by decide +kernel
theorem dX9_score_154 : decode cX9_score 154 = .ok (.bipush 6, 2) := by decide +kernel
theorem dX9_score_156 : decode cX9_score 156 = .ok (.iload_n 2, 1) := by decide +kernel
theorem dX9_score_157 : decode cX9_score 157 = .ok (.imul, 1) := by decide +kernel
theorem dX9_score_158 : decode cX9_score 158 = .ok (.iconst 1, 1) := by decide +kernel
theorem dX9_score_159 : decode cX9_score 159 = .ok (.iadd, 1) := by decide +kernel
theorem dX9_score_160 : decode cX9_score 160 = .ok (.iaload, 1) := by decide +kernel
theorem dX9_score_161 : decode cX9_score 161 = .ok (.iadd, 1) := by decide +kernel
theorem dX9_score_162 : decode cX9_score 162 = .ok (.goto 80, 3) := by decide +kernel
theorem dX9_score_165 : decode cX9_score 165 = .ok (.iload_n 1, 1) := by decide +kernel
theorem dX9_score_166 : decode cX9_score 166 = .ok (.iconst 2, 1) := by decide +kernel
theorem dX9_score_167 : decode cX9_score 167 = .ok (.if_icmp .ne 8, 3) := by decide +kernel
theorem dX9_score_170 : decode cX9_score 170 = .ok (.iload 5, 2) := by decide +kernel
theorem dX9_score_172 : decode cX9_score 172 = .ok (.goto 70, 3) := by decide +kernel
theorem dX9_score_175 : decode cX9_score 175 = .ok (.iload_n 1, 1) := by decide +kernel
theorem dX9_score_176 : decode cX9_score 176 = .ok (.iconst 3, 1) := by decide +kernel
theorem dX9_score_177 : decode cX9_score 177 = .ok (.if_icmp .ne 8, 3) := by decide +kernel
theorem dX9_score_180 : decode cX9_score 180 = .ok (.iload 4, 2) := by decide +kernel
theorem dX9_score_182 : decode cX9_score 182 = .ok (.goto 60, 3) := by decide +kernel
theorem dX9_score_185 : decode cX9_score 185 = .ok (.iload_n 1, 1) := by decide +kernel
theorem dX9_score_186 : decode cX9_score 186 = .ok (.iconst 4, 1) := by decide +kernel
theorem dX9_score_187 : decode cX9_score 187 = .ok (.if_icmp .ne 22, 3) := by decide +kernel
theorem dX9_score_190 : decode cX9_score 190 = .ok (.iconst 2, 1) := by decide +kernel
theorem dX9_score_191 : decode cX9_score 191 = .ok (.iload 4, 2) := by decide +kernel
theorem dX9_score_193 : decode cX9_score 193 = .ok (.imul, 1) := by decide +kernel
theorem dX9_score_194 : decode cX9_score 194 = .ok (.aload_n 0, 1) := by decide +kernel
theorem dX9_score_195 : decode cX9_score 195 = .ok (.getfield 7, 3) := by decide +kernel
theorem dX9_score_198 : decode cX9_score 198 = .ok (.bipush 6, 2) := by decide +kernel
theorem dX9_score_200 : decode cX9_score 200 = .ok (.iload_n 2, 1) := by decide +kernel
theorem dX9_score_201 : decode cX9_score 201 = .ok (.imul, 1) := by decide +kernel
theorem dX9_score_202 : decode cX9_score 202 = .ok (.iconst 0, 1) := by decide +kernel
theorem dX9_score_203 : decode cX9_score 203 = .ok (.iadd, 1) := by decide +kernel
theorem dX9_score_204 : decode cX9_score 204 = .ok (.iaload, 1) := by decide +kernel
theorem dX9_score_205 : decode cX9_score 205 = .ok (.iadd, 1) := by decide +kernel
theorem dX9_score_206 : decode cX9_score 206 = .ok (.goto 36, 3) := by decide +kernel
theorem dX9_score_209 : decode cX9_score 209 = .ok (.iload_n 1, 1) := by decide +kernel
theorem dX9_score_210 : decode cX9_score 210 = .ok (.iconst 5, 1) := by decide +kernel
theorem dX9_score_211 : decode cX9_score 211 = .ok (.if_icmp .ne 18, 3) := by decide +kernel
theorem dX9_score_214 : decode cX9_score 214 = .ok (.iload_n 3, 1) := by decide +kernel
theorem dX9_score_215 : decode cX9_score 215 = .ok (.aload_n 0, 1) := by decide +kernel
theorem dX9_score_216 : decode cX9_score 216 = .ok (.getfield 16, 3) := by decide +kernel
theorem dX9_score_219 : decode cX9_score 219 = .ok (.bipush 26, 2) := by decide +kernel
theorem dX9_score_221 : decode cX9_score 221 = .ok (.iaload, 1) := by decide +kernel
theorem dX9_score_222 : decode cX9_score 222 = .ok (.bipush 10, 2) := by decide +kernel
theorem dX9_score_224 : decode cX9_score 224 = .ok (.idiv, 1) := by decide +kernel
theorem dX9_score_225 : decode cX9_score 225 = .ok (.isub, 1) := by decide +kernel
theorem dX9_score_226 : decode cX9_score 226 = .ok (.goto 16, 3) := by decide +kernel
theorem dX9_score_229 : decode cX9_score 229 = .ok (.iload_n 3, 1) := by decide +kernel
theorem dX9_score_230 : decode cX9_score 230 = .ok (.aload_n 0, 1) := by decide +kernel
theorem dX9_score_231 : decode cX9_score 231 = .ok (.getfield 7, 3) := by decide +kernel
theorem dX9_score_234 : decode cX9_score 234 = .ok (.bipush 6, 2) := by decide +kernel
theorem dX9_score_236 : decode cX9_score 236 = .ok (.iload_n 2, 1) := by decide +kernel
theorem dX9_score_237 : decode cX9_score 237 = .ok (.imul, 1) := by decide +kernel
theorem dX9_score_238 : decode cX9_score 238 = .ok (.iconst 3, 1) := by decide +kernel
theorem dX9_score_239 : decode cX9_score 239 = .ok (.iadd, 1) := by decide +kernel
theorem dX9_score_240 : decode cX9_score 240 = .ok (.iaload, 1) := by decide +kernel
theorem dX9_score_241 : decode cX9_score 241 = .ok (.imul, 1) := by decide +kernel
theorem dX9_score_242 : decode cX9_score 242 = .ok (.ireturn, 1) := by decide +kernel
set_option maxRecDepth 20000 in
theorem ggX9_keep_X9_in : GoodIn wsX9_keep wsX9_in := goodIn_r _ [8] (by decide +kernel) (by decide +kernel)
set_option maxRecDepth 20000 in
theorem gX9_keep_X9_in : GoodIn wsX9_keep (va_wsS RX9 51 yX9_in wsX9_in) := goodIn_app (goodIn_of _ (by decide +kernel)) ggX9_keep_X9_in
theorem dX9_keep_0 : decode cX9_keep 0 = .ok (.aload_n 0, 1) := by decide +kernel
theorem dX9_keep_1 : decode cX9_keep 1 = .ok (.iconst 0, 1) := by decide +kernel
theorem dX9_keep_2 : decode cX9_keep 2 = .ok (.putfield 48, 3) := by decide +kernel
theorem dX9_keep_5 : decode cX9_keep 5 = .ok (.iload_n 1, 1) := by decide +kernel
theorem dX9_keep_6 : decode cX9_keep 6 = .ok (.iconst 0, 1) := by decide +kernel
theorem dX9_keep_7 : decode cX9_keep 7 = .ok (.iconst 1, 1) := by decide +kernel
theorem dX9_keep_8 : decode cX9_keep 8 = .ok (.invokestatic 51, 3) := by decide +kernel
theorem dX9_keep_11 : decode cX9_keep 11 = .ok (.ifCond .ne 5, 3) := by decide +kernel
theorem dX9_keep_14 : decode cX9_keep 14 = .ok (.iconst (-1), 1) := by decide +kernel
theorem dX9_keep_15 : decode cX9_keep 15 = .ok (.ireturn, 1) := by decide +kernel
theorem dX9_keep_16 : decode cX9_keep 16 = .ok (.iconst 0, 1) := by decide +kernel
theorem dX9_keep_17 : decode cX9_keep 17 = .ok (.istore_n 2, 1) := by decide +kernel
theorem dX9_keep_18 : decode cX9_keep 18 = .ok (.iload_n 2, 1) := by decide +kernel
theorem dX9_keep_19 : decode cX9_keep 19 = .ok (.bipush 29, 2) := by decide +kernel
theorem dX9_keep_21 : decode cX9_keep 21 = .ok (.if_icmp .ge 26, 3) := by decide +kernel
theorem dX9_keep_24 : decode cX9_keep 24 = .ok (.aload_n 0, 1) := by decide +kernel
theorem dX9_keep_25 : decode cX9_keep 25 = .ok (.getfield 19, 3) := by decide +kernel
theorem dX9_keep_28 : decode cX9_keep 28 = .ok (.bipush 29, 2) := by decide +kernel
theorem dX9_keep_30 : decode cX9_keep 30 = .ok (.iload_n 1, 1) := by decide +kernel
theorem dX9_keep_31 : decode cX9_keep 31 = .ok (.imul, 1) := by decide +kernel
theorem dX9_keep_32 : decode cX9_keep 32 = .ok (.iload_n 2, 1) := by decide +kernel
theorem dX9_keep_33 : decode cX9_keep 33 = .ok (.iadd, 1) := by decide +kernel
theorem dX9_keep_34 : decode cX9_keep 34 = .ok (.aload_n 0, 1) := by decide +kernel
theorem dX9_keep_35 : decode cX9_keep 35 = .ok (.getfield 16, 3) := by decide +kernel
theorem dX9_keep_38 : decode cX9_keep 38 = .ok (.iload_n 2, 1) := by decide +kernel
theorem dX9_keep_39 : decode cX9_keep 39 = .ok (.iaload, 1) := by decide +kernel
theorem dX9_keep_40 : decode cX9_keep 40 = .ok (.iastore, 1) := by decide +kernel
theorem dX9_keep_41 : decode cX9_keep 41 = .ok (.iinc 2 1, 3) := by decide +kernel
theorem dX9_keep_44 : decode cX9_keep 44 = .ok (.goto (-26), 3) := by decide +kernel
theorem dX9_keep_47 : decode cX9_keep 47 = .ok (.aload_n 0, 1) := by decide +kernel
theorem dX9_keep_48 : decode cX9_keep 48 = .ok (.getfield 25, 3) := by decide +kernel
theorem dX9_keep_51 : decode cX9_keep 51 = .ok (.iload_n 1, 1) := by decide +kernel
theorem dX9_keep_52 : decode cX9_keep 52 = .ok (.iconst 1, 1) := by decide +kernel
theorem dX9_keep_53 : decode cX9_keep 53 = .ok (.bastore, 1) := by decide +kernel
theorem dX9_keep_54 : decode cX9_keep 54 = .ok (.aload_n 0, 1) := by decide +kernel
theorem dX9_keep_55 : decode cX9_keep 55 = .ok (.getfield 16, 3) := by decide +kernel
theorem dX9_keep_58 : decode cX9_keep 58 = .ok (.bipush 7, 2) := by decide +kernel
theorem dX9_keep_60 : decode cX9_keep 60 = .ok (.iaload, 1) := by decide +kernel
theorem dX9_keep_61 : decode cX9_keep 61 = .ok (.ireturn, 1) := by decide +kernel
set_option maxRecDepth 20000 in
theorem ggX9_back_X9_in : GoodIn wsX9_back wsX9_in := goodIn_r _ [8] (by decide +kernel) (by decide +kernel)
set_option maxRecDepth 20000 in
theorem gX9_back_X9_in : GoodIn wsX9_back (va_wsS RX9 51 yX9_in wsX9_in) := goodIn_app (goodIn_of _ (by decide +kernel)) ggX9_back_X9_in
theorem dX9_back_0 : decode cX9_back 0 = .ok (.aload_n 0, 1) := by decide +kernel
theorem dX9_back_1 : decode cX9_back 1 = .ok (.iconst 0, 1) := by decide +kernel
theorem dX9_back_2 : decode cX9_back 2 = .ok (.putfield 48, 3) := by decide +kernel
theorem dX9_back_5 : decode cX9_back 5 = .ok (.iload_n 1, 1) := by decide +kernel
theorem dX9_back_6 : decode cX9_back 6 = .ok (.iconst 0, 1) := by decide +kernel
theorem dX9_back_7 : decode cX9_back 7 = .ok (.iconst 1, 1) := by decide +kernel
theorem dX9_back_8 : decode cX9_back 8 = .ok (.invokestatic 51, 3) := by decide +kernel
theorem dX9_back_11 : decode cX9_back 11 = .ok (.ifCond .ne 5, 3) := by decide +kernel
theorem dX9_back_14 : decode cX9_back 14 = .ok (.iconst (-1), 1) := by decide +kernel
theorem dX9_back_15 : decode cX9_back 15 = .ok (.ireturn, 1) := by decide +kernel
theorem dX9_back_16 : decode cX9_back 16 = .ok (.aload_n 0, 1) := by decide +kernel
theorem dX9_back_17 : decode cX9_back 17 = .ok (.getfield 25, 3) := by decide +kernel
theorem dX9_back_20 : decode cX9_back 20 = .ok (.iload_n 1, 1) := by decide +kernel
theorem dX9_back_21 : decode cX9_back 21 = .ok (.baload, 1) := by decide +kernel
theorem dX9_back_22 : decode cX9_back 22 = .ok (.ifCond .ne 6, 3) := by decide +kernel
theorem dX9_back_25 : decode cX9_back 25 = .ok (.bipush (-2), 2) := by decide +kernel
theorem dX9_back_27 : decode cX9_back 27 = .ok (.ireturn, 1) := by decide +kernel
theorem dX9_back_28 : decode cX9_back 28 = .ok (.iconst 0, 1) := by decide +kernel
theorem dX9_back_29 : decode cX9_back 29 = .ok (.istore_n 2, 1) := by decide +kernel
theorem dX9_back_30 : decode cX9_back 30 = .ok (.iload_n 2, 1) := by decide +kernel
theorem dX9_back_31 : decode cX9_back 31 = .ok (.bipush 29, 2) := by decide +kernel
theorem dX9_back_33 : decode cX9_back 33 = .ok (.if_icmp .ge 26, 3) := by decide +kernel
theorem dX9_back_36 : decode cX9_back 36 = .ok (.aload_n 0, 1) := by decide +kernel
theorem dX9_back_37 : decode cX9_back 37 = .ok (.getfield 16, 3) := by decide +kernel
theorem dX9_back_40 : decode cX9_back 40 = .ok (.iload_n 2, 1) := by decide +kernel
theorem dX9_back_41 : decode cX9_back 41 = .ok (.aload_n 0, 1) := by decide +kernel
theorem dX9_back_42 : decode cX9_back 42 = .ok (.getfield 19, 3) := by decide +kernel
theorem dX9_back_45 : decode cX9_back 45 = .ok (.bipush 29, 2) := by decide +kernel
theorem dX9_back_47 : decode cX9_back 47 = .ok (.iload_n 1, 1) := by decide +kernel
theorem dX9_back_48 : decode cX9_back 48 = .ok (.imul, 1) := by decide +kernel
theorem dX9_back_49 : decode cX9_back 49 = .ok (.iload_n 2, 1) := by decide +kernel
theorem dX9_back_50 : decode cX9_back 50 = .ok (.iadd, 1) := by decide +kernel
theorem dX9_back_51 : decode cX9_back 51 = .ok (.iaload, 1) := by decide +kernel
theorem dX9_back_52 : decode cX9_back 52 = .ok (.iastore, 1) := by decide +kernel
theorem dX9_back_53 : decode cX9_back 53 = .ok (.iinc 2 1, 3) := by decide +kernel
theorem dX9_back_56 : decode cX9_back 56 = .ok (.goto (-26), 3) := by decide +kernel
theorem dX9_back_59 : decode cX9_back 59 = .ok (.aload_n 0, 1) := by decide +kernel
theorem dX9_back_60 : decode cX9_back 60 = .ok (.getfield 16, 3) := by decide +kernel
theorem dX9_back_63 : decode cX9_back 63 = .ok (.bipush 7, 2) := by decide +kernel
theorem dX9_back_65 : decode cX9_back 65 = .ok (.iaload, 1) := by decide +kernel
theorem dX9_back_66 : decode cX9_back 66 = .ok (.ireturn, 1) := by decide +kernel
set_option maxRecDepth 20000 in
theorem ggX9_count_X9_takes : GoodIn wsX9_count wsX9_takes := goodIn_r _ [8, 9, 10, 25, 26, 27, 28, 29, 30, 31, 32, 33, 34, 35, 36, 37, 38, 39, 40, 41, 42, 43, 44, 45] (by decide +kernel) (by decide +kernel)
set_option maxRecDepth 20000 in
theorem gX9_count_X9_takes : GoodIn wsX9_count (wsV RX9 85 RX9 yX9_takes wsX9_takes) := goodIn_app (goodIn_of _ (by decide +kernel)) ggX9_count_X9_takes
set_option maxRecDepth 20000 in
theorem ggX9_count_X9_manySpeeds : GoodIn wsX9_count wsX9_manySpeeds := goodIn_r _ [14, 15, 16, 17, 7, 18, 19, 9, 20, 21, 22, 23, 24, 25, 26, 27, 28, 29, 30, 31, 32, 33, 34, 35, 36, 37, 38, 39, 40, 41, 42, 43, 44, 45] (by decide +kernel) (by decide +kernel)
set_option maxRecDepth 20000 in
theorem gX9_count_X9_manySpeeds : GoodIn wsX9_count (wsV RX9 107 RX9 yX9_manySpeeds wsX9_manySpeeds) := goodIn_app (goodIn_of _ (by decide +kernel)) ggX9_count_X9_manySpeeds
theorem dX9_count_0 : decode cX9_count 0 = .ok (.aload_n 0, 1) := by decide +kernel
theorem dX9_count_1 : decode cX9_count 1 = .ok (.iconst 0, 1) := by decide +kernel
theorem dX9_count_2 : decode cX9_count 2 = .ok (.putfield 48, 3) := by decide +kernel
theorem dX9_count_5 : decode cX9_count 5 = .ok (.iconst 0, 1) := by decide +kernel
theorem dX9_count_6 : decode cX9_count 6 = .ok (.istore_n 2, 1) := by decide +kernel
theorem dX9_count_7 : decode cX9_count 7 = .ok (.iconst 0, 1) := by decide +kernel
theorem dX9_count_8 : decode cX9_count 8 = .ok (.istore_n 3, 1) := by decide +kernel
theorem dX9_count_9 : decode cX9_count 9 = .ok (.iload_n 3, 1) := by decide +kernel
theorem dX9_count_10 : decode cX9_count 10 = .ok (.iconst 4, 1) := by decide +kernel
theorem dX9_count_11 : decode cX9_count 11 = .ok (.if_icmp .ge 21, 3) := by decide +kernel
theorem dX9_count_14 : decode cX9_count 14 = .ok (.aload_n 0, 1) := by decide +kernel
theorem dX9_count_15 : decode cX9_count 15 = .ok (.iload_n 3, 1) := by decide +kernel
theorem dX9_count_16 : decode cX9_count 16 = .ok (.invokevirtual 85, 3) := by decide +kernel
theorem dX9_count_19 : decode cX9_count 19 = .ok (.iload_n 2, 1) := by decide +kernel
theorem dX9_count_20 : decode cX9_count 20 = .ok (.aload_n 0, 1) := by decide +kernel
theorem dX9_count_21 : decode cX9_count 21 = .ok (.invokevirtual 107, 3) := by decide +kernel
theorem dX9_count_24 : decode cX9_count 24 = .ok (.iadd, 1) := by decide +kernel
theorem dX9_count_25 : decode cX9_count 25 = .ok (.istore_n 2, 1) := by decide +kernel
theorem dX9_count_26 : decode cX9_count 26 = .ok (.iinc 3 1, 3) := by decide +kernel
theorem dX9_count_29 : decode cX9_count 29 = .ok (.goto (-20), 3) := by decide +kernel
theorem dX9_count_32 : decode cX9_count 32 = .ok (.iload_n 1, 1) := by decide +kernel
theorem dX9_count_33 : decode cX9_count 33 = .ok (.ifCond .ne 10, 3) := by decide +kernel
theorem dX9_count_36 : decode cX9_count 36 = .ok (.aload_n 0, 1) := by decide +kernel
theorem dX9_count_37 : decode cX9_count 37 = .ok (.getfield 166, 3) := by decide +kernel
theorem dX9_count_40 : decode cX9_count 40 = .ok (.goto 25, 3) := by decide +kernel
theorem dX9_count_43 : decode cX9_count 43 = .ok (.iload_n 1, 1) := by decide +kernel
theorem dX9_count_44 : decode cX9_count 44 = .ok (.iconst 1, 1) := by decide +kernel
theorem dX9_count_45 : decode cX9_count 45 = .ok (.if_icmp .ne 10, 3) := by decide +kernel
theorem dX9_count_48 : decode cX9_count 48 = .ok (.aload_n 0, 1) := by decide +kernel
theorem dX9_count_49 : decode cX9_count 49 = .ok (.getfield 120, 3) := by decide +kernel
theorem dX9_count_52 : decode cX9_count 52 = .ok (.goto 13, 3) := by decide +kernel
theorem dX9_count_55 : decode cX9_count 55 = .ok (.iload_n 1, 1) := by decide +kernel
theorem dX9_count_56 : decode cX9_count 56 = .ok (.iconst 2, 1) := by decide +kernel
theorem dX9_count_57 : decode cX9_count 57 = .ok (.if_icmp .ne 7, 3) := by decide +kernel
theorem dX9_count_60 : decode cX9_count 60 = .ok (.iload_n 2, 1) := by decide +kernel
theorem dX9_count_61 : decode cX9_count 61 = .ok (.goto 4, 3) := by decide +kernel
theorem dX9_count_64 : decode cX9_count 64 = .ok (.iconst (-1), 1) := by decide +kernel
theorem dX9_count_65 : decode cX9_count 65 = .ok (.ireturn, 1) := by decide +kernel
theorem dX9_trace_0 : decode cX9_trace 0 = .ok (.aload_n 0, 1) := by decide +kernel
theorem dX9_trace_1 : decode cX9_trace 1 = .ok (.iconst 0, 1) := by decide +kernel
theorem dX9_trace_2 : decode cX9_trace 2 = .ok (.putfield 48, 3) := by decide +kernel
theorem dX9_trace_5 : decode cX9_trace 5 = .ok (.aload_n 0, 1) := by decide +kernel
theorem dX9_trace_6 : decode cX9_trace 6 = .ok (.getfield 183, 3) := by decide +kernel
theorem dX9_trace_9 : decode cX9_trace 9 = .ok (.lreturn, 1) := by decide +kernel
theorem dJ6_bitCount_0f7a4_0 : decode cJ6_bitCount_0f7a4 0 = .ok (.iload_n 0, 1) := by decide +kernel
theorem dJ6_bitCount_0f7a4_1 : decode cJ6_bitCount_0f7a4 1 = .ok (.iload_n 0, 1) := by decide +kernel
theorem dJ6_bitCount_0f7a4_2 : decode cJ6_bitCount_0f7a4 2 = .ok (.iconst 1, 1) := by decide +kernel
theorem dJ6_bitCount_0f7a4_3 : decode cJ6_bitCount_0f7a4 3 = .ok (.iushr, 1) := by decide +kernel
theorem dJ6_bitCount_0f7a4_4 : decode cJ6_bitCount_0f7a4 4 = .ok (.ldc_w 265, 3) := by decide +kernel
theorem dJ6_bitCount_0f7a4_7 : decode cJ6_bitCount_0f7a4 7 = .ok (.iand, 1) := by decide +kernel
theorem dJ6_bitCount_0f7a4_8 : decode cJ6_bitCount_0f7a4 8 = .ok (.isub, 1) := by decide +kernel
theorem dJ6_bitCount_0f7a4_9 : decode cJ6_bitCount_0f7a4 9 = .ok (.istore_n 0, 1) := by decide +kernel
theorem dJ6_bitCount_0f7a4_10 : decode cJ6_bitCount_0f7a4 10 = .ok (.iload_n 0, 1) := by decide +kernel
theorem dJ6_bitCount_0f7a4_11 : decode cJ6_bitCount_0f7a4 11 = .ok (.ldc_w 266, 3) := by decide +kernel
theorem dJ6_bitCount_0f7a4_14 : decode cJ6_bitCount_0f7a4 14 = .ok (.iand, 1) := by decide +kernel
theorem dJ6_bitCount_0f7a4_15 : decode cJ6_bitCount_0f7a4 15 = .ok (.iload_n 0, 1) := by decide +kernel
theorem dJ6_bitCount_0f7a4_16 : decode cJ6_bitCount_0f7a4 16 = .ok (.iconst 2, 1) := by decide +kernel
theorem dJ6_bitCount_0f7a4_17 : decode cJ6_bitCount_0f7a4 17 = .ok (.iushr, 1) := by decide +kernel
theorem dJ6_bitCount_0f7a4_18 : decode cJ6_bitCount_0f7a4 18 = .ok (.ldc_w 266, 3) := by decide +kernel
theorem dJ6_bitCount_0f7a4_21 : decode cJ6_bitCount_0f7a4 21 = .ok (.iand, 1) := by decide +kernel
theorem dJ6_bitCount_0f7a4_22 : decode cJ6_bitCount_0f7a4 22 = .ok (.iadd, 1) := by decide +kernel
theorem dJ6_bitCount_0f7a4_23 : decode cJ6_bitCount_0f7a4 23 = .ok (.istore_n 0, 1) := by decide +kernel
theorem dJ6_bitCount_0f7a4_24 : decode cJ6_bitCount_0f7a4 24 = .ok (.iload_n 0, 1) := by decide +kernel
theorem dJ6_bitCount_0f7a4_25 : decode cJ6_bitCount_0f7a4 25 = .ok (.iload_n 0, 1) := by decide +kernel
theorem dJ6_bitCount_0f7a4_26 : decode cJ6_bitCount_0f7a4 26 = .ok (.iconst 4, 1) := by decide +kernel
theorem dJ6_bitCount_0f7a4_27 : decode cJ6_bitCount_0f7a4 27 = .ok (.iushr, 1) := by decide +kernel
theorem dJ6_bitCount_0f7a4_28 : decode cJ6_bitCount_0f7a4 28 = .ok (.iadd, 1) := by decide +kernel
theorem dJ6_bitCount_0f7a4_29 : decode cJ6_bitCount_0f7a4 29 = .ok (.ldc_w 267, 3) := by decide +kernel
theorem dJ6_bitCount_0f7a4_32 : decode cJ6_bitCount_0f7a4 32 = .ok (.iand, 1) := by decide +kernel
theorem dJ6_bitCount_0f7a4_33 : decode cJ6_bitCount_0f7a4 33 = .ok (.istore_n 0, 1) := by decide +kernel
theorem dJ6_bitCount_0f7a4_34 : decode cJ6_bitCount_0f7a4 34 = .ok (.iload_n 0, 1) := by decide +kernel
theorem dJ6_bitCount_0f7a4_35 : decode cJ6_bitCount_0f7a4 35 = .ok (.iload_n 0, 1) := by decide +kernel
theorem dJ6_bitCount_0f7a4_36 : decode cJ6_bitCount_0f7a4 36 = .ok (.bipush 8, 2) := by decide +kernel
theorem dJ6_bitCount_0f7a4_38 : decode cJ6_bitCount_0f7a4 38 = .ok (.iushr, 1) := by decide +kernel
theorem dJ6_bitCount_0f7a4_39 : decode cJ6_bitCount_0f7a4 39 = .ok (.iadd, 1) := by decide +kernel
theorem dJ6_bitCount_0f7a4_40 : decode cJ6_bitCount_0f7a4 40 = .ok (.istore_n 0, 1) := by decide +kernel
theorem dJ6_bitCount_0f7a4_41 : decode cJ6_bitCount_0f7a4 41 = .ok (.iload_n 0, 1) := by decide +kernel
theorem dJ6_bitCount_0f7a4_42 : decode cJ6_bitCount_0f7a4 42 = .ok (.iload_n 0, 1) := by decide +kernel
theorem dJ6_bitCount_0f7a4_43 : decode cJ6_bitCount_0f7a4 43 = .ok (.bipush 16, 2) := by decide +kernel
theorem dJ6_bitCount_0f7a4_45 : decode cJ6_bitCount_0f7a4 45 = .ok (.iushr, 1) := by decide +kernel
theorem dJ6_bitCount_0f7a4_46 : decode cJ6_bitCount_0f7a4 46 = .ok (.iadd, 1) := by decide +kernel
theorem dJ6_bitCount_0f7a4_47 : decode cJ6_bitCount_0f7a4 47 = .ok (.istore_n 0, 1) := by decide +kernel
theorem dJ6_bitCount_0f7a4_48 : decode cJ6_bitCount_0f7a4 48 = .ok (.iload_n 0, 1) := by decide +kernel
theorem dJ6_bitCount_0f7a4_49 : decode cJ6_bitCount_0f7a4 49 = .ok (.bipush 63, 2) := by decide +kernel
theorem dJ6_bitCount_0f7a4_51 : decode cJ6_bitCount_0f7a4 51 = .ok (.iand, 1) := by decide +kernel
theorem dJ6_bitCount_0f7a4_52 : decode cJ6_bitCount_0f7a4 52 = .ok (.ireturn, 1) := by decide +kernel
theorem dJ13_bitCount_95d88_0 : decode cJ13_bitCount_95d88 0 = .ok (.lload_n 0, 1) := by decide +kernel
theorem dJ13_bitCount_95d88_1 : decode cJ13_bitCount_95d88 1 = .ok (.lload_n 0, 1) := by decide +kernel
theorem dJ13_bitCount_95d88_2 : decode cJ13_bitCount_95d88 2 = .ok (.iconst 1, 1) := by decide +kernel
theorem dJ13_bitCount_95d88_3 : decode cJ13_bitCount_95d88 3 = .ok (.lushr, 1) := by decide +kernel
theorem dJ13_bitCount_95d88_4 : decode cJ13_bitCount_95d88 4 = .ok (.ldc2_w 314, 3) := by decide +kernel
theorem dJ13_bitCount_95d88_7 : decode cJ13_bitCount_95d88 7 = .ok (.land, 1) := by decide +kernel
theorem dJ13_bitCount_95d88_8 : decode cJ13_bitCount_95d88 8 = .ok (.lsub, 1) := by decide +kernel
theorem dJ13_bitCount_95d88_9 : decode cJ13_bitCount_95d88 9 = .ok (.lstore_n 0, 1) := by decide +kernel
theorem dJ13_bitCount_95d88_10 : decode cJ13_bitCount_95d88 10 = .ok (.lload_n 0, 1) := by decide +kernel
theorem dJ13_bitCount_95d88_11 : decode cJ13_bitCount_95d88 11 = .ok (.ldc2_w 316, 3) := by decide +kernel
theorem dJ13_bitCount_95d88_14 : decode cJ13_bitCount_95d88 14 = .ok (.land, 1) := by decide +kernel
theorem dJ13_bitCount_95d88_15 : decode cJ13_bitCount_95d88 15 = .ok (.lload_n 0, 1) := by decide +kernel
theorem dJ13_bitCount_95d88_16 : decode cJ13_bitCount_95d88 16 = .ok (.iconst 2, 1) := by decide +kernel
theorem dJ13_bitCount_95d88_17 : decode cJ13_bitCount_95d88 17 = .ok (.lushr, 1) := by decide +kernel
theorem dJ13_bitCount_95d88_18 : decode cJ13_bitCount_95d88 18 = .ok (.ldc2_w 316, 3) := by decide +kernel
theorem dJ13_bitCount_95d88_21 : decode cJ13_bitCount_95d88 21 = .ok (.land, 1) := by decide +kernel
theorem dJ13_bitCount_95d88_22 : decode cJ13_bitCount_95d88 22 = .ok (.ladd, 1) := by decide +kernel
theorem dJ13_bitCount_95d88_23 : decode cJ13_bitCount_95d88 23 = .ok (.lstore_n 0, 1) := by decide +kernel
theorem dJ13_bitCount_95d88_24 : decode cJ13_bitCount_95d88 24 = .ok (.lload_n 0, 1) := by decide +kernel
theorem dJ13_bitCount_95d88_25 : decode cJ13_bitCount_95d88 25 = .ok (.lload_n 0, 1) := by decide +kernel
theorem dJ13_bitCount_95d88_26 : decode cJ13_bitCount_95d88 26 = .ok (.iconst 4, 1) := by decide +kernel
theorem dJ13_bitCount_95d88_27 : decode cJ13_bitCount_95d88 27 = .ok (.lushr, 1) := by decide +kernel
theorem dJ13_bitCount_95d88_28 : decode cJ13_bitCount_95d88 28 = .ok (.ladd, 1) := by decide +kernel
theorem dJ13_bitCount_95d88_29 : decode cJ13_bitCount_95d88 29 = .ok (.ldc2_w 318, 3) := by decide +kernel
theorem dJ13_bitCount_95d88_32 : decode cJ13_bitCount_95d88 32 = .ok (.land, 1) := by decide +kernel
theorem dJ13_bitCount_95d88_33 : decode cJ13_bitCount_95d88 33 = .ok (.lstore_n 0, 1) := by decide +kernel
theorem dJ13_bitCount_95d88_34 : decode cJ13_bitCount_95d88 34 = .ok (.lload_n 0, 1) := by decide +kernel
theorem dJ13_bitCount_95d88_35 : decode cJ13_bitCount_95d88 35 = .ok (.lload_n 0, 1) := by decide +kernel
theorem dJ13_bitCount_95d88_36 : decode cJ13_bitCount_95d88 36 = .ok (.bipush 8, 2) := by decide +kernel
theorem dJ13_bitCount_95d88_38 : decode cJ13_bitCount_95d88 38 = .ok (.lushr, 1) := by decide +kernel
theorem dJ13_bitCount_95d88_39 : decode cJ13_bitCount_95d88 39 = .ok (.ladd, 1) := by decide +kernel
theorem dJ13_bitCount_95d88_40 : decode cJ13_bitCount_95d88 40 = .ok (.lstore_n 0, 1) := by decide +kernel
theorem dJ13_bitCount_95d88_41 : decode cJ13_bitCount_95d88 41 = .ok (.lload_n 0, 1) := by decide +kernel
theorem dJ13_bitCount_95d88_42 : decode cJ13_bitCount_95d88 42 = .ok (.lload_n 0, 1) := by decide +kernel
theorem dJ13_bitCount_95d88_43 : decode cJ13_bitCount_95d88 43 = .ok (.bipush 16, 2) := by decide +kernel
theorem dJ13_bitCount_95d88_45 : decode cJ13_bitCount_95d88 45 = .ok (.lushr, 1) := by decide +kernel
theorem dJ13_bitCount_95d88_46 : decode cJ13_bitCount_95d88 46 = .ok (.ladd, 1) := by decide +kernel
theorem dJ13_bitCount_95d88_47 : decode cJ13_bitCount_95d88 47 = .ok (.lstore_n 0, 1) := by decide +kernel
theorem dJ13_bitCount_95d88_48 : decode cJ13_bitCount_95d88 48 = .ok (.lload_n 0, 1) := by decide +kernel
theorem dJ13_bitCount_95d88_49 : decode cJ13_bitCount_95d88 49 = .ok (.lload_n 0, 1) := by decide +kernel
theorem dJ13_bitCount_95d88_50 : decode cJ13_bitCount_95d88 50 = .ok (.bipush 32, 2) := by decide +kernel
theorem dJ13_bitCount_95d88_52 : decode cJ13_bitCount_95d88 52 = .ok (.lushr, 1) := by decide +kernel
theorem dJ13_bitCount_95d88_53 : decode cJ13_bitCount_95d88 53 = .ok (.ladd, 1) := by decide +kernel
theorem dJ13_bitCount_95d88_54 : decode cJ13_bitCount_95d88 54 = .ok (.lstore_n 0, 1) := by decide +kernel
theorem dJ13_bitCount_95d88_55 : decode cJ13_bitCount_95d88 55 = .ok (.lload_n 0, 1) := by decide +kernel
theorem dJ13_bitCount_95d88_56 : decode cJ13_bitCount_95d88 56 = .ok (.l2i, 1) := by decide +kernel
theorem dJ13_bitCount_95d88_57 : decode cJ13_bitCount_95d88 57 = .ok (.bipush 127, 2) := by decide +kernel
theorem dJ13_bitCount_95d88_59 : decode cJ13_bitCount_95d88 59 = .ok (.iand, 1) := by decide +kernel
theorem dJ13_bitCount_95d88_60 : decode cJ13_bitCount_95d88 60 = .ok (.ireturn, 1) := by decide +kernel
theorem dJ9_floorMod_7cf53_0 : decode cJ9_floorMod_7cf53 0 = .ok (.iload_n 0, 1) := by decide +kernel
theorem dJ9_floorMod_7cf53_1 : decode cJ9_floorMod_7cf53 1 = .ok (.iload_n 1, 1) := by decide +kernel
theorem dJ9_floorMod_7cf53_2 : decode cJ9_floorMod_7cf53 2 = .ok (.irem, 1) := by decide +kernel
theorem dJ9_floorMod_7cf53_3 : decode cJ9_floorMod_7cf53 3 = .ok (.istore_n 2, 1) := by decide +kernel
theorem dJ9_floorMod_7cf53_4 : decode cJ9_floorMod_7cf53 4 = .ok (.iload_n 0, 1) := by decide +kernel
theorem dJ9_floorMod_7cf53_5 : decode cJ9_floorMod_7cf53 5 = .ok (.iload_n 1, 1) := by decide +kernel
theorem dJ9_floorMod_7cf53_6 : decode cJ9_floorMod_7cf53 6 = .ok (.ixor, 1) := by decide +kernel
theorem dJ9_floorMod_7cf53_7 : decode cJ9_floorMod_7cf53 7 = .ok (.ifCond .ge 11, 3) := by decide +kernel
theorem dJ9_floorMod_7cf53_10 : decode cJ9_floorMod_7cf53 10 = .ok (.iload_n 2, 1) := by decide +kernel
theorem dJ9_floorMod_7cf53_11 : decode cJ9_floorMod_7cf53 11 = .ok (.ifCond .eq 7, 3) := by decide +kernel
theorem dJ9_floorMod_7cf53_14 : decode cJ9_floorMod_7cf53 14 = .ok (.iload_n 2, 1) := by decide +kernel
theorem dJ9_floorMod_7cf53_15 : decode cJ9_floorMod_7cf53 15 = .ok (.iload_n 1, 1) := by decide +kernel
theorem dJ9_floorMod_7cf53_16 : decode cJ9_floorMod_7cf53 16 = .ok (.iadd, 1) := by decide +kernel
theorem dJ9_floorMod_7cf53_17 : decode cJ9_floorMod_7cf53 17 = .ok (.ireturn, 1) := by decide +kernel
theorem dJ9_floorMod_7cf53_18 : decode cJ9_floorMod_7cf53 18 = .ok (.iload_n 2, 1) := by decide +kernel
theorem dJ9_floorMod_7cf53_19 : decode cJ9_floorMod_7cf53 19 = .ok (.ireturn, 1) := by decide +kernel
theorem dJ9_abs_0f7a4_0 : decode cJ9_abs_0f7a4 0 = .ok (.iload_n 0, 1) := by decide +kernel
theorem dJ9_abs_0f7a4_1 : decode cJ9_abs_0f7a4 1 = .ok (.ifCond .ge 8, 3) := by decide +kernel
theorem dJ9_abs_0f7a4_4 : decode cJ9_abs_0f7a4 4 = .ok (.iload_n 0, 1) := by decide +kernel
theorem dJ9_abs_0f7a4_5 : decode cJ9_abs_0f7a4 5 = .ok (.ineg, 1) := by decide +kernel
theorem dJ9_abs_0f7a4_6 : decode cJ9_abs_0f7a4 6 = .ok (.goto 4, 3) := by decide +kernel
theorem dJ9_abs_0f7a4_9 : decode cJ9_abs_0f7a4 9 = .ok (.iload_n 0, 1) := by decide +kernel
theorem dJ9_abs_0f7a4_10 : decode cJ9_abs_0f7a4 10 = .ok (.ireturn, 1) := by decide +kernel
theorem dJ9_max_7cf53_0 : decode cJ9_max_7cf53 0 = .ok (.iload_n 0, 1) := by decide +kernel
theorem dJ9_max_7cf53_1 : decode cJ9_max_7cf53 1 = .ok (.iload_n 1, 1) := by decide +kernel
theorem dJ9_max_7cf53_2 : decode cJ9_max_7cf53 2 = .ok (.if_icmp .lt 7, 3) := by decide +kernel
theorem dJ9_max_7cf53_5 : decode cJ9_max_7cf53 5 = .ok (.iload_n 0, 1) := by decide +kernel
theorem dJ9_max_7cf53_6 : decode cJ9_max_7cf53 6 = .ok (.goto 4, 3) := by decide +kernel
theorem dJ9_max_7cf53_9 : decode cJ9_max_7cf53 9 = .ok (.iload_n 1, 1) := by decide +kernel
theorem dJ9_max_7cf53_10 : decode cJ9_max_7cf53 10 = .ok (.ireturn, 1) := by decide +kernel
theorem dJ9_min_7cf53_0 : decode cJ9_min_7cf53 0 = .ok (.iload_n 0, 1) := by decide +kernel
theorem dJ9_min_7cf53_1 : decode cJ9_min_7cf53 1 = .ok (.iload_n 1, 1) := by decide +kernel
theorem dJ9_min_7cf53_2 : decode cJ9_min_7cf53 2 = .ok (.if_icmp .gt 7, 3) := by decide +kernel
theorem dJ9_min_7cf53_5 : decode cJ9_min_7cf53 5 = .ok (.iload_n 0, 1) := by decide +kernel
theorem dJ9_min_7cf53_6 : decode cJ9_min_7cf53 6 = .ok (.goto 4, 3) := by decide +kernel
theorem dJ9_min_7cf53_9 : decode cJ9_min_7cf53 9 = .ok (.iload_n 1, 1) := by decide +kernel
theorem dJ9_min_7cf53_10 : decode cJ9_min_7cf53 10 = .ok (.ireturn, 1) := by decide +kernel
set_option maxRecDepth 20000 in
theorem ggJ0_charAt_5068e_J0_isLatin1_aae02 : GoodIn wsJ0_charAt_5068e wsJ0_isLatin1_aae02 := goodIn_r _ [6, 7, 8] (by decide +kernel) (by decide +kernel)
set_option maxRecDepth 20000 in
theorem gJ0_charAt_5068e_J0_isLatin1_aae02 : GoodIn wsJ0_charAt_5068e (wsV RJ0 492 RJ0 yJ0_isLatin1_aae02 wsJ0_isLatin1_aae02) := goodIn_app (goodIn_of _ (by decide +kernel)) ggJ0_charAt_5068e_J0_isLatin1_aae02
set_option maxRecDepth 20000 in
theorem ggJ0_charAt_5068e_J1_charAt_3b067 : GoodIn wsJ0_charAt_5068e wsJ1_charAt_3b067 := goodIn_r _ [12, 13, 14, 5, 15, 16, 17, 18, 19, 20] (by decide +kernel) (by decide +kernel)
set_option maxRecDepth 20000 in
theorem gJ0_charAt_5068e_J1_charAt_3b067 : GoodIn wsJ0_charAt_5068e (va_wsS RJ0 495 yJ1_charAt_3b067 wsJ1_charAt_3b067) := goodIn_app (goodIn_of _ (by decide +kernel)) ggJ0_charAt_5068e_J1_charAt_3b067
set_option maxRecDepth 20000 in
theorem ggJ0_charAt_5068e_J2_charAt_3b067 : GoodIn wsJ0_charAt_5068e wsJ2_charAt_3b067 := goodIn_r _ [24, 25, 26, 23, 27, 28, 29, 30, 31, 14, 5, 15, 16, 17, 18, 19, 20, 32, 33, 34, 35, 36, 37] (by decide +kernel) (by decide +kernel)
set_option maxRecDepth 20000 in
theorem gJ0_charAt_5068e_J2_charAt_3b067 : GoodIn wsJ0_charAt_5068e (va_wsS RJ0 498 yJ2_charAt_3b067 wsJ2_charAt_3b067) := goodIn_app (goodIn_of _ (by decide +kernel)) ggJ0_charAt_5068e_J2_charAt_3b067
theorem dJ0_charAt_5068e_0 : decode cJ0_charAt_5068e 0 = .ok (.aload_n 0, 1) := by decide +kernel
theorem dJ0_charAt_5068e_1 : decode cJ0_charAt_5068e 1 = .ok (.invokevirtual 492, 3) := by decide +kernel
theorem dJ0_charAt_5068e_4 : decode cJ0_charAt_5068e 4 = .ok (.ifCond .eq 12, 3) := by decide +kernel
theorem dJ0_charAt_5068e_7 : decode cJ0_charAt_5068e 7 = .ok (.aload_n 0, 1) := by decide +kernel
theorem dJ0_charAt_5068e_8 : decode cJ0_charAt_5068e 8 = .ok (.getfield 9, 3) := by decide +kernel
theorem dJ0_charAt_5068e_11 : decode cJ0_charAt_5068e 11 = .ok (.iload_n 1, 1) := by decide +kernel
theorem dJ0_charAt_5068e_12 : decode cJ0_charAt_5068e 12 = .ok (.invokestatic 495, 3) := by decide +kernel
theorem dJ0_charAt_5068e_15 : decode cJ0_charAt_5068e 15 = .ok (.ireturn, 1) := by decide +kernel
theorem dJ0_charAt_5068e_16 : decode cJ0_charAt_5068e 16 = .ok (.aload_n 0, 1) := by decide +kernel
theorem dJ0_charAt_5068e_17 : decode cJ0_charAt_5068e 17 = .ok (.getfield 9, 3) := by decide +kernel
theorem dJ0_charAt_5068e_20 : decode cJ0_charAt_5068e 20 = .ok (.iload_n 1, 1) := by decide +kernel
theorem dJ0_charAt_5068e_21 : decode cJ0_charAt_5068e 21 = .ok (.invokestatic 498, 3) := by decide +kernel
theorem dJ0_charAt_5068e_24 : decode cJ0_charAt_5068e 24 = .ok (.ireturn, 1) := by decide +kernel
theorem dJ0_isLatin1_aae02_0 : decode cJ0_isLatin1_aae02 0 = .ok (.getstatic 38, 3) := by decide +kernel
theorem dJ0_isLatin1_aae02_3 : decode cJ0_isLatin1_aae02 3 = .ok (.ifCond .eq 14, 3) := by decide +kernel
theorem dJ0_isLatin1_aae02_6 : decode cJ0_isLatin1_aae02 6 = .ok (.aload_n 0, 1) := by decide +kernel
theorem dJ0_isLatin1_aae02_7 : decode cJ0_isLatin1_aae02 7 = .ok (.getfield 15, 3) := by decide +kernel
theorem dJ0_isLatin1_aae02_10 : decode cJ0_isLatin1_aae02 10 = .ok (.ifCond .ne 7, 3) := by decide +kernel
theorem dJ0_isLatin1_aae02_13 : decode cJ0_isLatin1_aae02 13 = .ok (.iconst 1, 1) := by decide +kernel
theorem dJ0_isLatin1_aae02_14 : decode cJ0_isLatin1_aae02 14 = .ok (.goto 4, 3) := by decide +kernel
theorem dJ0_isLatin1_aae02_17 : decode cJ0_isLatin1_aae02 17 = .ok (.iconst 0, 1) := by decide +kernel
theorem dJ0_isLatin1_aae02_18 : decode cJ0_isLatin1_aae02 18 = .ok (.ireturn, 1) := by decide +kernel
set_option maxRecDepth 20000 in
theorem ggJ0_checkIndex_df160_J3_checkIndex_8e157 : GoodIn wsJ0_checkIndex_df160 wsJ3_checkIndex_8e157 := goodIn_r _ [5] (by decide +kernel) (by decide +kernel)
set_option maxRecDepth 20000 in
theorem gJ0_checkIndex_df160_J3_checkIndex_8e157 : GoodIn wsJ0_checkIndex_df160 (va_wsS RJ0 1059 yJ3_checkIndex_8e157 wsJ3_checkIndex_8e157) := goodIn_app (goodIn_of _ (by decide +kernel)) ggJ0_checkIndex_df160_J3_checkIndex_8e157
theorem dJ0_checkIndex_df160_0 : decode cJ0_checkIndex_df160 0 = .ok (.iload_n 0, 1) := by decide +kernel
theorem dJ0_checkIndex_df160_1 : decode cJ0_checkIndex_df160 1 = .ok (.iload_n 1, 1) := by decide +kernel
theorem dJ0_checkIndex_df160_2 : decode cJ0_checkIndex_df160 2 = .ok (.getstatic 1053, 3) := by decide +kernel
theorem dJ0_checkIndex_df160_5 : decode cJ0_checkIndex_df160 5 = .ok (.invokestatic 1059, 3) := by decide +kernel
theorem dJ0_checkIndex_df160_8 : decode cJ0_checkIndex_df160 8 = .ok (.pop, 1) := by decide +kernel
theorem dJ0_checkIndex_df160_9 : decode cJ0_checkIndex_df160 9 = .ok (.return_, 1) := by decide +kernel
set_option maxRecDepth 20000 in
theorem ggJ1_charAt_3b067_J0_checkIndex_df160 : GoodIn wsJ1_charAt_3b067 wsJ0_checkIndex_df160 := goodIn_r _ [4, 5, 6, 7, 8, 9] (by decide +kernel) (by decide +kernel)
set_option maxRecDepth 20000 in
theorem gJ1_charAt_3b067_J0_checkIndex_df160 : GoodIn wsJ1_charAt_3b067 (va_wsS RJ1 9 yJ0_checkIndex_df160 wsJ0_checkIndex_df160) := goodIn_app (goodIn_of _ (by decide +kernel)) ggJ1_charAt_3b067_J0_checkIndex_df160
theorem dJ1_charAt_3b067_0 : decode cJ1_charAt_3b067 0 = .ok (.iload_n 1, 1) := by decide +kernel
theorem dJ1_charAt_3b067_1 : decode cJ1_charAt_3b067 1 = .ok (.aload_n 0, 1) := by decide +kernel
theorem dJ1_charAt_3b067_2 : decode cJ1_charAt_3b067 2 = .ok (.arraylength, 1) := by decide +kernel
theorem dJ1_charAt_3b067_3 : decode cJ1_charAt_3b067 3 = .ok (.invokestatic 9, 3) := by decide +kernel
theorem dJ1_charAt_3b067_6 : decode cJ1_charAt_3b067 6 = .ok (.aload_n 0, 1) := by decide +kernel
theorem dJ1_charAt_3b067_7 : decode cJ1_charAt_3b067 7 = .ok (.iload_n 1, 1) := by decide +kernel
theorem dJ1_charAt_3b067_8 : decode cJ1_charAt_3b067 8 = .ok (.baload, 1) := by decide +kernel
theorem dJ1_charAt_3b067_9 : decode cJ1_charAt_3b067 9 = .ok (.sipush 255, 3) := by decide +kernel
theorem dJ1_charAt_3b067_12 : decode cJ1_charAt_3b067 12 = .ok (.iand, 1) := by decide +kernel
theorem dJ1_charAt_3b067_13 : decode cJ1_charAt_3b067 13 = .ok (.i2c, 1) := by decide +kernel
theorem dJ1_charAt_3b067_14 : decode cJ1_charAt_3b067 14 = .ok (.ireturn, 1) := by decide +kernel
set_option maxRecDepth 20000 in
theorem ggJ2_getChar_3b067_J2_length_9d52b : GoodIn wsJ2_getChar_3b067 wsJ2_length_9d52b := goodIn_r _ [7] (by decide +kernel) (by decide +kernel)
set_option maxRecDepth 20000 in
theorem gJ2_getChar_3b067_J2_length_9d52b : GoodIn wsJ2_getChar_3b067 (va_wsS RJ2 48 yJ2_length_9d52b wsJ2_length_9d52b) := goodIn_app (goodIn_of _ (by decide +kernel)) ggJ2_getChar_3b067_J2_length_9d52b
theorem dJ2_getChar_3b067_0 : decode cJ2_getChar_3b067 0 = .ok (.getstatic 44, 3) := by decide +kernel
theorem dJ2_getChar_3b067_3 : decode cJ2_getChar_3b067 3 = .ok (.ifCond .ne 25, 3) := by decide +kernel
theorem dJ2_getChar_3b067_6 : decode cJ2_getChar_3b067 6 = .ok (.iload_n 1, 1) := by decide +kernel
theorem dJ2_getChar_3b067_7 : decode cJ2_getChar_3b067 7 = .ok (.ifCond .lt 11, 3) := by decide +kernel
theorem dJ2_getChar_3b067_10 : decode cJ2_getChar_3b067 10 = .ok (.iload_n 1, 1) := by decide +kernel
theorem dJ2_getChar_3b067_11 : decode cJ2_getChar_3b067 11 = .ok (.aload_n 0, 1) := by decide +kernel
theorem dJ2_getChar_3b067_12 : decode cJ2_getChar_3b067 12 = .ok (.invokestatic 48, 3) := by decide +kernel
theorem dJ2_getChar_3b067_15 : decode cJ2_getChar_3b067 15 = .ok (.if_icmp .lt 13, 3) := by decide +kernel
theorem dJ2_getChar_3b067_18 : decode cJ2_getChar_3b067 18 = .ok (.new 52, 3) := by decide +kernel
theorem dJ2_getChar_3b067_21 : decode cJ2_getChar_3b067 21 = .ok (.dup, 1) := by decide +kernel
theorem dJ2_getChar_3b067_22 : decode cJ2_getChar_3b067 22 = .ok (.ldc 54, 2) := by decide +kernel
theorem dJ2_getChar_3b067_24 : decode cJ2_getChar_3b067 24 = .ok (.invokespecial 56, 3) := by decide +kernel
theorem dJ2_getChar_3b067_27 : decode cJ2_getChar_3b067 27 = .ok (.athrow, 1) := by decide +kernel
theorem dJ2_getChar_3b067_28 : decode cJ2_getChar_3b067 28 = .ok (.iload_n 1, 1) := by decide +kernel
theorem dJ2_getChar_3b067_29 : decode cJ2_getChar_3b067 29 = .ok (.iconst 1, 1) := by decide +kernel
theorem dJ2_getChar_3b067_30 : decode cJ2_getChar_3b067 30 = .ok (.ishl, 1) := by decide +kernel
theorem dJ2_getChar_3b067_31 : decode cJ2_getChar_3b067 31 = .ok (.istore_n 1, 1) := by decide +kernel
theorem dJ2_getChar_3b067_32 : decode cJ2_getChar_3b067 32 = .ok (.aload_n 0, 1) := by decide +kernel
theorem dJ2_getChar_3b067_33 : decode cJ2_getChar_3b067 33 = .ok (.iload_n 1, 1) := by decide +kernel
theorem dJ2_getChar_3b067_34 : decode cJ2_getChar_3b067 34 = .ok (.iinc 1 1, 3) := by decide +kernel
theorem dJ2_getChar_3b067_37 : decode cJ2_getChar_3b067 37 = .ok (.baload, 1) := by decide +kernel
theorem dJ2_getChar_3b067_38 : decode cJ2_getChar_3b067 38 = .ok (.sipush 255, 3) := by decide +kernel
theorem dJ2_getChar_3b067_41 : decode cJ2_getChar_3b067 41 = .ok (.iand, 1) := by decide +kernel
theorem dJ2_getChar_3b067_42 : decode cJ2_getChar_3b067 42 = .ok (.getstatic 59, 3) := by decide +kernel
theorem dJ2_getChar_3b067_45 : decode cJ2_getChar_3b067 45 = .ok (.ishl, 1) := by decide +kernel
theorem dJ2_getChar_3b067_46 : decode cJ2_getChar_3b067 46 = .ok (.aload_n 0, 1) := by decide +kernel
theorem dJ2_getChar_3b067_47 : decode cJ2_getChar_3b067 47 = .ok (.iload_n 1, 1) := by decide +kernel
theorem dJ2_getChar_3b067_48 : decode cJ2_getChar_3b067 48 = .ok (.baload, 1) := by decide +kernel
theorem dJ2_getChar_3b067_49 : decode cJ2_getChar_3b067 49 = .ok (.sipush 255, 3) := by decide +kernel
theorem dJ2_getChar_3b067_52 : decode cJ2_getChar_3b067 52 = .ok (.iand, 1) := by decide +kernel
theorem dJ2_getChar_3b067_53 : decode cJ2_getChar_3b067 53 = .ok (.getstatic 63, 3) := by decide +kernel
theorem dJ2_getChar_3b067_56 : decode cJ2_getChar_3b067 56 = .ok (.ishl, 1) := by decide +kernel
theorem dJ2_getChar_3b067_57 : decode cJ2_getChar_3b067 57 = .ok (.ior, 1) := by decide +kernel
theorem dJ2_getChar_3b067_58 : decode cJ2_getChar_3b067 58 = .ok (.i2c, 1) := by decide +kernel
theorem dJ2_getChar_3b067_59 : decode cJ2_getChar_3b067 59 = .ok (.ireturn, 1) := by decide +kernel
theorem dJ2_length_9d52b_0 : decode cJ2_length_9d52b 0 = .ok (.aload_n 0, 1) := by decide +kernel
theorem dJ2_length_9d52b_1 : decode cJ2_length_9d52b 1 = .ok (.arraylength, 1) := by decide +kernel
theorem dJ2_length_9d52b_2 : decode cJ2_length_9d52b 2 = .ok (.iconst 1, 1) := by decide +kernel
theorem dJ2_length_9d52b_3 : decode cJ2_length_9d52b 3 = .ok (.ishr, 1) := by decide +kernel
theorem dJ2_length_9d52b_4 : decode cJ2_length_9d52b 4 = .ok (.ireturn, 1) := by decide +kernel
set_option maxRecDepth 20000 in
theorem ggJ2_charAt_3b067_J2_checkIndex_2214a : GoodIn wsJ2_charAt_3b067 wsJ2_checkIndex_2214a := goodIn_r _ [4, 5, 6, 3, 7, 8, 9, 10, 11, 12, 13, 14, 15, 16] (by decide +kernel) (by decide +kernel)
set_option maxRecDepth 20000 in
theorem gJ2_charAt_3b067_J2_checkIndex_2214a : GoodIn wsJ2_charAt_3b067 (va_wsS RJ2 67 yJ2_checkIndex_2214a wsJ2_checkIndex_2214a) := goodIn_app (goodIn_of _ (by decide +kernel)) ggJ2_charAt_3b067_J2_checkIndex_2214a
set_option maxRecDepth 20000 in
theorem ggJ2_charAt_3b067_J2_getChar_3b067 : GoodIn wsJ2_charAt_3b067 wsJ2_getChar_3b067 := goodIn_r _ [19, 20, 21, 22, 5, 6, 3, 7] (by decide +kernel) (by decide +kernel)
set_option maxRecDepth 20000 in
theorem gJ2_charAt_3b067_J2_getChar_3b067 : GoodIn wsJ2_charAt_3b067 (va_wsS RJ2 71 yJ2_getChar_3b067 wsJ2_getChar_3b067) := goodIn_app (goodIn_of _ (by decide +kernel)) ggJ2_charAt_3b067_J2_getChar_3b067
theorem dJ2_charAt_3b067_0 : decode cJ2_charAt_3b067 0 = .ok (.iload_n 1, 1) := by decide +kernel
theorem dJ2_charAt_3b067_1 : decode cJ2_charAt_3b067 1 = .ok (.aload_n 0, 1) := by decide +kernel
theorem dJ2_charAt_3b067_2 : decode cJ2_charAt_3b067 2 = .ok (.invokestatic 67, 3) := by decide +kernel
theorem dJ2_charAt_3b067_5 : decode cJ2_charAt_3b067 5 = .ok (.aload_n 0, 1) := by decide +kernel
theorem dJ2_charAt_3b067_6 : decode cJ2_charAt_3b067 6 = .ok (.iload_n 1, 1) := by decide +kernel
theorem dJ2_charAt_3b067_7 : decode cJ2_charAt_3b067 7 = .ok (.invokestatic 71, 3) := by decide +kernel
theorem dJ2_charAt_3b067_10 : decode cJ2_charAt_3b067 10 = .ok (.ireturn, 1) := by decide +kernel
set_option maxRecDepth 20000 in
theorem ggJ2_checkIndex_2214a_J2_length_9d52b : GoodIn wsJ2_checkIndex_2214a wsJ2_length_9d52b := goodIn_r _ [4] (by decide +kernel) (by decide +kernel)
set_option maxRecDepth 20000 in
theorem gJ2_checkIndex_2214a_J2_length_9d52b : GoodIn wsJ2_checkIndex_2214a (va_wsS RJ2 48 yJ2_length_9d52b wsJ2_length_9d52b) := goodIn_app (goodIn_of _ (by decide +kernel)) ggJ2_checkIndex_2214a_J2_length_9d52b
set_option maxRecDepth 20000 in
theorem ggJ2_checkIndex_2214a_J0_checkIndex_df160 : GoodIn wsJ2_checkIndex_2214a wsJ0_checkIndex_df160 := goodIn_r _ [8, 9, 10, 11, 12, 13] (by decide +kernel) (by decide +kernel)
set_option maxRecDepth 20000 in
theorem gJ2_checkIndex_2214a_J0_checkIndex_df160 : GoodIn wsJ2_checkIndex_2214a (va_wsS RJ2 414 yJ0_checkIndex_df160 wsJ0_checkIndex_df160) := goodIn_app (goodIn_of _ (by decide +kernel)) ggJ2_checkIndex_2214a_J0_checkIndex_df160
theorem dJ2_checkIndex_2214a_0 : decode cJ2_checkIndex_2214a 0 = .ok (.iload_n 0, 1) := by decide +kernel
theorem dJ2_checkIndex_2214a_1 : decode cJ2_checkIndex_2214a 1 = .ok (.aload_n 1, 1) := by decide +kernel
theorem dJ2_checkIndex_2214a_2 : decode cJ2_checkIndex_2214a 2 = .ok (.invokestatic 48, 3) := by decide +kernel
theorem dJ2_checkIndex_2214a_5 : decode cJ2_checkIndex_2214a 5 = .ok (.invokestatic 414, 3) := by decide +kernel
theorem dJ2_checkIndex_2214a_8 : decode cJ2_checkIndex_2214a 8 = .ok (.return_, 1) := by decide +kernel
theorem dJ3_checkIndex_8e157_0 : decode cJ3_checkIndex_8e157 0 = .ok (.iload_n 0, 1) := by decide +kernel
theorem dJ3_checkIndex_8e157_1 : decode cJ3_checkIndex_8e157 1 = .ok (.ifCond .lt 8, 3) := by decide +kernel
theorem dJ3_checkIndex_8e157_4 : decode cJ3_checkIndex_8e157 4 = .ok (.iload_n 0, 1) := by decide +kernel
theorem dJ3_checkIndex_8e157_5 : decode cJ3_checkIndex_8e157 5 = .ok (.iload_n 1, 1) := by decide +kernel
theorem dJ3_checkIndex_8e157_6 : decode cJ3_checkIndex_8e157 6 = .ok (.if_icmp .lt 10, 3) := by decide +kernel
theorem dJ3_checkIndex_8e157_9 : decode cJ3_checkIndex_8e157 9 = .ok (.aload_n 2, 1) := by decide +kernel
theorem dJ3_checkIndex_8e157_10 : decode cJ3_checkIndex_8e157 10 = .ok (.iload_n 0, 1) := by decide +kernel
