/-! ===== methods: their functions and rows ===== -/
theorem dX11_init_0 : decode cX11_init 0 = .ok (.aload_n 0, 1) := by decide +kernel
theorem dX11_init_1 : decode cX11_init 1 = .ok (.invokespecial 1, 3) := by decide +kernel
theorem dX11_init_4 : decode cX11_init 4 = .ok (.aload_n 0, 1) := by decide +kernel
theorem dX11_init_5 : decode cX11_init 5 = .ok (.bipush 40, 2) := by decide +kernel
theorem dX11_init_7 : decode cX11_init 7 = .ok (.newarray .boolean, 2) := by decide +kernel
theorem dX11_init_9 : decode cX11_init 9 = .ok (.putfield 7, 3) := by decide +kernel
theorem dX11_init_12 : decode cX11_init 12 = .ok (.aload_n 0, 1) := by decide +kernel
theorem dX11_init_13 : decode cX11_init 13 = .ok (.bipush 40, 2) := by decide +kernel
theorem dX11_init_15 : decode cX11_init 15 = .ok (.newarray .int, 2) := by decide +kernel
theorem dX11_init_17 : decode cX11_init 17 = .ok (.putfield 13, 3) := by decide +kernel
theorem dX11_init_20 : decode cX11_init 20 = .ok (.aload_n 0, 1) := by decide +kernel
theorem dX11_init_21 : decode cX11_init 21 = .ok (.bipush 40, 2) := by decide +kernel
theorem dX11_init_23 : decode cX11_init 23 = .ok (.newarray .int, 2) := by decide +kernel
theorem dX11_init_25 : decode cX11_init 25 = .ok (.putfield 17, 3) := by decide +kernel
theorem dX11_init_28 : decode cX11_init 28 = .ok (.aload_n 0, 1) := by decide +kernel
theorem dX11_init_29 : decode cX11_init 29 = .ok (.sipush 400, 3) := by decide +kernel
theorem dX11_init_32 : decode cX11_init 32 = .ok (.newarray .int, 2) := by decide +kernel
theorem dX11_init_34 : decode cX11_init 34 = .ok (.putfield 20, 3) := by decide +kernel
theorem dX11_init_37 : decode cX11_init 37 = .ok (.aload_n 0, 1) := by decide +kernel
theorem dX11_init_38 : decode cX11_init 38 = .ok (.bipush 40, 2) := by decide +kernel
theorem dX11_init_40 : decode cX11_init 40 = .ok (.newarray .int, 2) := by decide +kernel
theorem dX11_init_42 : decode cX11_init 42 = .ok (.putfield 23, 3) := by decide +kernel
theorem dX11_init_45 : decode cX11_init 45 = .ok (.aload_n 0, 1) := by decide +kernel
theorem dX11_init_46 : decode cX11_init 46 = .ok (.sipush 480, 3) := by decide +kernel
theorem dX11_init_49 : decode cX11_init 49 = .ok (.newarray .int, 2) := by decide +kernel
theorem dX11_init_51 : decode cX11_init 51 = .ok (.putfield 26, 3) := by decide +kernel
theorem dX11_init_54 : decode cX11_init 54 = .ok (.aload_n 0, 1) := by decide +kernel
theorem dX11_init_55 : decode cX11_init 55 = .ok (.bipush 40, 2) := by decide +kernel
theorem dX11_init_57 : decode cX11_init 57 = .ok (.newarray .int, 2) := by decide +kernel
theorem dX11_init_59 : decode cX11_init 59 = .ok (.putfield 29, 3) := by decide +kernel
theorem dX11_init_62 : decode cX11_init 62 = .ok (.aload_n 0, 1) := by decide +kernel
theorem dX11_init_63 : decode cX11_init 63 = .ok (.sipush 480, 3) := by decide +kernel
theorem dX11_init_66 : decode cX11_init 66 = .ok (.newarray .int, 2) := by decide +kernel
theorem dX11_init_68 : decode cX11_init 68 = .ok (.putfield 32, 3) := by decide +kernel
theorem dX11_init_71 : decode cX11_init 71 = .ok (.aload_n 0, 1) := by decide +kernel
theorem dX11_init_72 : decode cX11_init 72 = .ok (.bipush 40, 2) := by decide +kernel
theorem dX11_init_74 : decode cX11_init 74 = .ok (.newarray .int, 2) := by decide +kernel
theorem dX11_init_76 : decode cX11_init 76 = .ok (.putfield 35, 3) := by decide +kernel
theorem dX11_init_79 : decode cX11_init 79 = .ok (.aload_n 0, 1) := by decide +kernel
theorem dX11_init_80 : decode cX11_init 80 = .ok (.bipush 40, 2) := by decide +kernel
theorem dX11_init_82 : decode cX11_init 82 = .ok (.newarray .boolean, 2) := by decide +kernel
theorem dX11_init_84 : decode cX11_init 84 = .ok (.putfield 38, 3) := by decide +kernel
theorem dX11_init_87 : decode cX11_init 87 = .ok (.aload_n 0, 1) := by decide +kernel
theorem dX11_init_88 : decode cX11_init 88 = .ok (.bipush 40, 2) := by decide +kernel
theorem dX11_init_90 : decode cX11_init 90 = .ok (.newarray .int, 2) := by decide +kernel
theorem dX11_init_92 : decode cX11_init 92 = .ok (.putfield 41, 3) := by decide +kernel
theorem dX11_init_95 : decode cX11_init 95 = .ok (.aload_n 0, 1) := by decide +kernel
theorem dX11_init_96 : decode cX11_init 96 = .ok (.bipush 40, 2) := by decide +kernel
theorem dX11_init_98 : decode cX11_init 98 = .ok (.newarray .boolean, 2) := by decide +kernel
theorem dX11_init_100 : decode cX11_init 100 = .ok (.putfield 44, 3) := by decide +kernel
theorem dX11_init_103 : decode cX11_init 103 = .ok (.aload_n 0, 1) := by decide +kernel
theorem dX11_init_104 : decode cX11_init 104 = .ok (.bipush 40, 2) := by decide +kernel
theorem dX11_init_106 : decode cX11_init 106 = .ok (.newarray .int, 2) := by decide +kernel
theorem dX11_init_108 : decode cX11_init 108 = .ok (.putfield 47, 3) := by decide +kernel
theorem dX11_init_111 : decode cX11_init 111 = .ok (.aload_n 0, 1) := by decide +kernel
theorem dX11_init_112 : decode cX11_init 112 = .ok (.bipush 40, 2) := by decide +kernel
theorem dX11_init_114 : decode cX11_init 114 = .ok (.newarray .int, 2) := by decide +kernel
theorem dX11_init_116 : decode cX11_init 116 = .ok (.putfield 50, 3) := by decide +kernel
theorem dX11_init_119 : decode cX11_init 119 = .ok (.aload_n 0, 1) := by decide +kernel
theorem dX11_init_120 : decode cX11_init 120 = .ok (.bipush 40, 2) := by decide +kernel
theorem dX11_init_122 : decode cX11_init 122 = .ok (.newarray .int, 2) := by decide +kernel
theorem dX11_init_124 : decode cX11_init 124 = .ok (.putfield 53, 3) := by decide +kernel
theorem dX11_init_127 : decode cX11_init 127 = .ok (.aload_n 0, 1) := by decide +kernel
theorem dX11_init_128 : decode cX11_init 128 = .ok (.bipush 40, 2) := by decide +kernel
theorem dX11_init_130 : decode cX11_init 130 = .ok (.newarray .int, 2) := by decide +kernel
theorem dX11_init_132 : decode cX11_init 132 = .ok (.putfield 56, 3) := by decide +kernel
theorem dX11_init_135 : decode cX11_init 135 = .ok (.aload_n 0, 1) := by decide +kernel
theorem dX11_init_136 : decode cX11_init 136 = .ok (.sipush 4000, 3) := by decide +kernel
theorem dX11_init_139 : decode cX11_init 139 = .ok (.newarray .int, 2) := by decide +kernel
theorem dX11_init_141 : decode cX11_init 141 = .ok (.putfield 59, 3) := by decide +kernel
theorem dX11_init_144 : decode cX11_init 144 = .ok (.aload_n 0, 1) := by decide +kernel
theorem dX11_init_145 : decode cX11_init 145 = .ok (.bipush 12, 2) := by decide +kernel
theorem dX11_init_147 : decode cX11_init 147 = .ok (.newarray .int, 2) := by decide +kernel
theorem dX11_init_149 : decode cX11_init 149 = .ok (.putfield 62, 3) := by decide +kernel
theorem dX11_init_152 : decode cX11_init 152 = .ok (.aload_n 0, 1) := by decide +kernel
theorem dX11_init_153 : decode cX11_init 153 = .ok (.bipush 100, 2) := by decide +kernel
theorem dX11_init_155 : decode cX11_init 155 = .ok (.newarray .int, 2) := by decide +kernel
theorem dX11_init_157 : decode cX11_init 157 = .ok (.putfield 65, 3) := by decide +kernel
theorem dX11_init_160 : decode cX11_init 160 = .ok (.aload_n 0, 1) := by decide +kernel
theorem dX11_init_161 : decode cX11_init 161 = .ok (.sipush 700, 3) := by decide +kernel
theorem dX11_init_164 : decode cX11_init 164 = .ok (.newarray .int, 2) := by decide +kernel
theorem dX11_init_166 : decode cX11_init 166 = .ok (.putfield 68, 3) := by decide +kernel
theorem dX11_init_169 : decode cX11_init 169 = .ok (.aload_n 0, 1) := by decide +kernel
theorem dX11_init_170 : decode cX11_init 170 = .ok (.bipush 7, 2) := by decide +kernel
theorem dX11_init_172 : decode cX11_init 172 = .ok (.newarray .int, 2) := by decide +kernel
theorem dX11_init_174 : decode cX11_init 174 = .ok (.putfield 71, 3) := by decide +kernel
theorem dX11_init_177 : decode cX11_init 177 = .ok (.aload_n 0, 1) := by decide +kernel
theorem dX11_init_178 : decode cX11_init 178 = .ok (.bipush 100, 2) := by decide +kernel
theorem dX11_init_180 : decode cX11_init 180 = .ok (.newarray .int, 2) := by decide +kernel
theorem dX11_init_182 : decode cX11_init 182 = .ok (.putfield 74, 3) := by decide +kernel
theorem dX11_init_185 : decode cX11_init 185 = .ok (.aload_n 0, 1) := by decide +kernel
theorem dX11_init_186 : decode cX11_init 186 = .ok (.sipush 2400, 3) := by decide +kernel
theorem dX11_init_189 : decode cX11_init 189 = .ok (.newarray .int, 2) := by decide +kernel
theorem dX11_init_191 : decode cX11_init 191 = .ok (.putfield 77, 3) := by decide +kernel
theorem dX11_init_194 : decode cX11_init 194 = .ok (.aload_n 0, 1) := by decide +kernel
theorem dX11_init_195 : decode cX11_init 195 = .ok (.bipush 24, 2) := by decide +kernel
theorem dX11_init_197 : decode cX11_init 197 = .ok (.newarray .int, 2) := by decide +kernel
theorem dX11_init_199 : decode cX11_init 199 = .ok (.putfield 80, 3) := by decide +kernel
theorem dX11_init_202 : decode cX11_init 202 = .ok (.aload_n 0, 1) := by decide +kernel
theorem dX11_init_203 : decode cX11_init 203 = .ok (.bipush 100, 2) := by decide +kernel
theorem dX11_init_205 : decode cX11_init 205 = .ok (.newarray .int, 2) := by decide +kernel
theorem dX11_init_207 : decode cX11_init 207 = .ok (.putfield 83, 3) := by decide +kernel
theorem dX11_init_210 : decode cX11_init 210 = .ok (.aload_n 0, 1) := by decide +kernel
theorem dX11_init_211 : decode cX11_init 211 = .ok (.bipush 100, 2) := by decide +kernel
theorem dX11_init_213 : decode cX11_init 213 = .ok (.newarray .int, 2) := by decide +kernel
theorem dX11_init_215 : decode cX11_init 215 = .ok (.putfield 86, 3) := by decide +kernel
theorem dX11_init_218 : decode cX11_init 218 = .ok (.aload_n 0, 1) := by decide +kernel
theorem dX11_init_219 : decode cX11_init 219 = .ok (.bipush 10, 2) := by decide +kernel
theorem dX11_init_221 : decode cX11_init 221 = .ok (.newarray .int, 2) := by decide +kernel
theorem dX11_init_223 : decode cX11_init 223 = .ok (.putfield 89, 3) := by decide +kernel
theorem dX11_init_226 : decode cX11_init 226 = .ok (.aload_n 0, 1) := by decide +kernel
theorem dX11_init_227 : decode cX11_init 227 = .ok (.bipush 40, 2) := by decide +kernel
theorem dX11_init_229 : decode cX11_init 229 = .ok (.newarray .int, 2) := by decide +kernel
theorem dX11_init_231 : decode cX11_init 231 = .ok (.putfield 92, 3) := by decide +kernel
theorem dX11_init_234 : decode cX11_init 234 = .ok (.aload_n 0, 1) := by decide +kernel
theorem dX11_init_235 : decode cX11_init 235 = .ok (.bipush 40, 2) := by decide +kernel
theorem dX11_init_237 : decode cX11_init 237 = .ok (.newarray .int, 2) := by decide +kernel
theorem dX11_init_239 : decode cX11_init 239 = .ok (.putfield 95, 3) := by decide +kernel
theorem dX11_init_242 : decode cX11_init 242 = .ok (.aload_n 0, 1) := by decide +kernel
theorem dX11_init_243 : decode cX11_init 243 = .ok (.bipush 100, 2) := by decide +kernel
theorem dX11_init_245 : decode cX11_init 245 = .ok (.newarray .int, 2) := by decide +kernel
theorem dX11_init_247 : decode cX11_init 247 = .ok (.putfield 98, 3) := by decide +kernel
theorem dX11_init_250 : decode cX11_init 250 = .ok (.aload_n 0, 1) := by decide +kernel
theorem dX11_init_251 : decode cX11_init 251 = .ok (.iconst 1, 1) := by decide +kernel
theorem dX11_init_252 : decode cX11_init 252 = .ok (.putfield 101, 3) := by decide +kernel
theorem dX11_init_255 : decode cX11_init 255 = .ok (.aload_n 0, 1) := by decide +kernel
theorem dX11_init_256 : decode cX11_init 256 = .ok (.getfield 7, 3) := by decide +kernel
theorem dX11_init_259 : decode cX11_init 259 = .ok (.iconst 0, 1) := by decide +kernel
theorem dX11_init_260 : decode cX11_init 260 = .ok (.iconst 1, 1) := by decide +kernel
theorem dX11_init_261 : decode cX11_init 261 = .ok (.bastore, 1) := by decide +kernel
theorem dX11_init_262 : decode cX11_init 262 = .ok (.aload_n 0, 1) := by decide +kernel
theorem dX11_init_263 : decode cX11_init 263 = .ok (.getfield 17, 3) := by decide +kernel
theorem dX11_init_266 : decode cX11_init 266 = .ok (.iconst 0, 1) := by decide +kernel
theorem dX11_init_267 : decode cX11_init 267 = .ok (.iconst (-1), 1) := by decide +kernel
theorem dX11_init_268 : decode cX11_init 268 = .ok (.iastore, 1) := by decide +kernel
theorem dX11_init_269 : decode cX11_init 269 = .ok (.aload_n 0, 1) := by decide +kernel
theorem dX11_init_270 : decode cX11_init 270 = .ok (.getfield 47, 3) := by decide +kernel
theorem dX11_init_273 : decode cX11_init 273 = .ok (.iconst 0, 1) := by decide +kernel
theorem dX11_init_274 : decode cX11_init 274 = .ok (.iconst (-1), 1) := by decide +kernel
theorem dX11_init_275 : decode cX11_init 275 = .ok (.iastore, 1) := by decide +kernel
theorem dX11_init_276 : decode cX11_init 276 = .ok (.aload_n 0, 1) := by decide +kernel
theorem dX11_init_277 : decode cX11_init 277 = .ok (.iconst (-1), 1) := by decide +kernel
theorem dX11_init_278 : decode cX11_init 278 = .ok (.putfield 105, 3) := by decide +kernel
theorem dX11_init_281 : decode cX11_init 281 = .ok (.aload_n 0, 1) := by decide +kernel
theorem dX11_init_282 : decode cX11_init 282 = .ok (.iconst (-1), 1) := by decide +kernel
theorem dX11_init_283 : decode cX11_init 283 = .ok (.putfield 108, 3) := by decide +kernel
theorem dX11_init_286 : decode cX11_init 286 = .ok (.aload_n 0, 1) := by decide +kernel
theorem dX11_init_287 : decode cX11_init 287 = .ok (.getfield 89, 3) := by decide +kernel
theorem dX11_init_290 : decode cX11_init 290 = .ok (.iconst 0, 1) := by decide +kernel
theorem dX11_init_291 : decode cX11_init 291 = .ok (.iconst 1, 1) := by decide +kernel
theorem dX11_init_292 : decode cX11_init 292 = .ok (.iastore, 1) := by decide +kernel
theorem dX11_init_293 : decode cX11_init 293 = .ok (.aload_n 0, 1) := by decide +kernel
theorem dX11_init_294 : decode cX11_init 294 = .ok (.getfield 89, 3) := by decide +kernel
theorem dX11_init_297 : decode cX11_init 297 = .ok (.iconst 1, 1) := by decide +kernel
theorem dX11_init_298 : decode cX11_init 298 = .ok (.iconst 3, 1) := by decide +kernel
theorem dX11_init_299 : decode cX11_init 299 = .ok (.iastore, 1) := by decide +kernel
theorem dX11_init_300 : decode cX11_init 300 = .ok (.aload_n 0, 1) := by decide +kernel
theorem dX11_init_301 : decode cX11_init 301 = .ok (.getfield 89, 3) := by decide +kernel
theorem dX11_init_304 : decode cX11_init 304 = .ok (.iconst 2, 1) := by decide +kernel
theorem dX11_init_305 : decode cX11_init 305 = .ok (.bipush 9, 2) := by decide +kernel
theorem dX11_init_307 : decode cX11_init 307 = .ok (.iastore, 1) := by decide +kernel
theorem dX11_init_308 : decode cX11_init 308 = .ok (.aload_n 0, 1) := by decide +kernel
theorem dX11_init_309 : decode cX11_init 309 = .ok (.getfield 89, 3) := by decide +kernel
theorem dX11_init_312 : decode cX11_init 312 = .ok (.iconst 3, 1) := by decide +kernel
theorem dX11_init_313 : decode cX11_init 313 = .ok (.bipush 25, 2) := by decide +kernel
theorem dX11_init_315 : decode cX11_init 315 = .ok (.iastore, 1) := by decide +kernel
theorem dX11_init_316 : decode cX11_init 316 = .ok (.aload_n 0, 1) := by decide +kernel
theorem dX11_init_317 : decode cX11_init 317 = .ok (.getfield 89, 3) := by decide +kernel
theorem dX11_init_320 : decode cX11_init 320 = .ok (.iconst 4, 1) := by decide +kernel
theorem dX11_init_321 : decode cX11_init 321 = .ok (.bipush 17, 2) := by decide +kernel
theorem dX11_init_323 : decode cX11_init 323 = .ok (.iastore, 1) := by decide +kernel
theorem dX11_init_324 : decode cX11_init 324 = .ok (.aload_n 0, 1) := by decide +kernel
theorem dX11_init_325 : decode cX11_init 325 = .ok (.getfield 89, 3) := by decide +kernel
theorem dX11_init_328 : decode cX11_init 328 = .ok (.iconst 5, 1) := by decide +kernel
theorem dX11_init_329 : decode cX11_init 329 = .ok (.bipush 11, 2) := by decide +kernel
theorem dX11_init_331 : decode cX11_init 331 = .ok (.iastore, 1) := by decide +kernel
theorem dX11_init_332 : decode cX11_init 332 = .ok (.aload_n 0, 1) := by decide +kernel
theorem dX11_init_333 : decode cX11_init 333 = .ok (.getfield 89, 3) := by decide +kernel
theorem dX11_init_336 : decode cX11_init 336 = .ok (.bipush 6, 2) := by decide +kernel
theorem dX11_init_338 : decode cX11_init 338 = .ok (.bipush 27, 2) := by decide +kernel
theorem dX11_init_340 : decode cX11_init 340 = .ok (.iastore, 1) := by decide +kernel
theorem dX11_init_341 : decode cX11_init 341 = .ok (.aload_n 0, 1) := by decide +kernel
theorem dX11_init_342 : decode cX11_init 342 = .ok (.getfield 89, 3) := by decide +kernel
theorem dX11_init_345 : decode cX11_init 345 = .ok (.bipush 7, 2) := by decide +kernel
theorem dX11_init_347 : decode cX11_init 347 = .ok (.bipush 19, 2) := by decide +kernel
theorem dX11_init_349 : decode cX11_init 349 = .ok (.iastore, 1) := by decide +kernel
theorem dX11_init_350 : decode cX11_init 350 = .ok (.aload_n 0, 1) := by decide +kernel
theorem dX11_init_351 : decode cX11_init 351 = .ok (.getfield 89, 3) := by decide +kernel
theorem dX11_init_354 : decode cX11_init 354 = .ok (.bipush 8, 2) := by decide +kernel
theorem dX11_init_356 : decode cX11_init 356 = .ok (.bipush 10, 2) := by decide +kernel
theorem dX11_init_358 : decode cX11_init 358 = .ok (.iastore, 1) := by decide +kernel
theorem dX11_init_359 : decode cX11_init 359 = .ok (.aload_n 0, 1) := by decide +kernel
theorem dX11_init_360 : decode cX11_init 360 = .ok (.getfield 89, 3) := by decide +kernel
theorem dX11_init_363 : decode cX11_init 363 = .ok (.bipush 9, 2) := by decide +kernel
theorem dX11_init_365 : decode cX11_init 365 = .ok (.bipush 26, 2) := by decide +kernel
theorem dX11_init_367 : decode cX11_init 367 = .ok (.iastore, 1) := by decide +kernel
theorem dX11_init_368 : decode cX11_init 368 = .ok (.return_, 1) := by decide +kernel
theorem dX11_thrown_0 : decode cX11_thrown 0 = .ok (.aload_n 0, 1) := by decide +kernel
theorem dX11_thrown_1 : decode cX11_thrown 1 = .ok (.getfield 111, 3) := by decide +kernel
theorem dX11_thrown_4 : decode cX11_thrown 4 = .ok (.ireturn, 1) := by decide +kernel
theorem dX11_in_0 : decode cX11_in 0 = .ok (.iload_n 0, 1) := by decide +kernel
theorem dX11_in_1 : decode cX11_in 1 = .ok (.iload_n 1, 1) := by decide +kernel
theorem dX11_in_2 : decode cX11_in 2 = .ok (.if_icmp .lt 12, 3) := by decide +kernel
theorem dX11_in_5 : decode cX11_in 5 = .ok (.iload_n 0, 1) := by decide +kernel
theorem dX11_in_6 : decode cX11_in 6 = .ok (.iload_n 2, 1) := by decide +kernel
theorem dX11_in_7 : decode cX11_in 7 = .ok (.if_icmp .gt 7, 3) := by decide +kernel
theorem dX11_in_10 : decode cX11_in 10 = .ok (.iconst 1, 1) := by decide +kernel
theorem dX11_in_11 : decode cX11_in 11 = .ok (.goto 4, 3) := by decide +kernel
theorem dX11_in_14 : decode cX11_in 14 = .ok (.iconst 0, 1) := by decide +kernel
theorem dX11_in_15 : decode cX11_in 15 = .ok (.ireturn, 1) := by decide +kernel
theorem dX11_isElement_0 : decode cX11_isElement 0 = .ok (.iload_n 1, 1) := by decide +kernel
theorem dX11_isElement_1 : decode cX11_isElement 1 = .ok (.iconst 0, 1) := by decide +kernel
theorem dX11_isElement_2 : decode cX11_isElement 2 = .ok (.aload_n 0, 1) := by decide +kernel
theorem dX11_isElement_3 : decode cX11_isElement 3 = .ok (.getfield 101, 3) := by decide +kernel
theorem dX11_isElement_6 : decode cX11_isElement 6 = .ok (.iconst 1, 1) := by decide +kernel
theorem dX11_isElement_7 : decode cX11_isElement 7 = .ok (.isub, 1) := by decide +kernel
theorem dX11_isElement_8 : decode cX11_isElement 8 = .ok (.invokestatic 114, 3) := by decide +kernel
theorem dX11_isElement_11 : decode cX11_isElement 11 = .ok (.ifCond .eq 16, 3) := by decide +kernel
theorem dX11_isElement_14 : decode cX11_isElement 14 = .ok (.aload_n 0, 1) := by decide +kernel
theorem dX11_isElement_15 : decode cX11_isElement 15 = .ok (.getfield 7, 3) := by decide +kernel
theorem dX11_isElement_18 : decode cX11_isElement 18 = .ok (.iload_n 1, 1) := by decide +kernel
theorem dX11_isElement_19 : decode cX11_isElement 19 = .ok (.baload, 1) := by decide +kernel
theorem dX11_isElement_20 : decode cX11_isElement 20 = .ok (.ifCond .eq 7, 3) := by decide +kernel
theorem dX11_isElement_23 : decode cX11_isElement 23 = .ok (.iconst 1, 1) := by decide +kernel
theorem dX11_isElement_24 : decode cX11_isElement 24 = .ok (.goto 4, 3) := by decide +kernel
theorem dX11_isElement_27 : decode cX11_isElement 27 = .ok (.iconst 0, 1) := by decide +kernel
theorem dX11_isElement_28 : decode cX11_isElement 28 = .ok (.ireturn, 1) := by decide +kernel
theorem dX11_asksFor_0 : decode cX11_asksFor 0 = .ok (.aload_n 0, 1) := by decide +kernel
theorem dX11_asksFor_1 : decode cX11_asksFor 1 = .ok (.aload_n 0, 1) := by decide +kernel
theorem dX11_asksFor_2 : decode cX11_asksFor 2 = .ok (.iload_n 1, 1) := by decide +kernel
theorem dX11_asksFor_3 : decode cX11_asksFor 3 = .ok (.invokevirtual 118, 3) := by decide +kernel
theorem dX11_asksFor_6 : decode cX11_asksFor 6 = .ok (.ifCond .eq 7, 3) := by decide +kernel
theorem dX11_asksFor_9 : decode cX11_asksFor 9 = .ok (.iconst 0, 1) := by decide +kernel
theorem dX11_asksFor_10 : decode cX11_asksFor 10 = .ok (.goto 4, 3) := by decide +kernel
theorem dX11_asksFor_13 : decode cX11_asksFor 13 = .ok (.iconst 1, 1) := by decide +kernel
theorem dX11_asksFor_14 : decode cX11_asksFor 14 = .ok (.putfield 111, 3) := by decide +kernel
theorem dX11_asksFor_17 : decode cX11_asksFor 17 = .ok (.aload_n 0, 1) := by decide +kernel
theorem dX11_asksFor_18 : decode cX11_asksFor 18 = .ok (.getfield 111, 3) := by decide +kernel
theorem dX11_asksFor_21 : decode cX11_asksFor 21 = .ok (.ifCond .ne 7, 3) := by decide +kernel
theorem dX11_asksFor_24 : decode cX11_asksFor 24 = .ok (.iconst 1, 1) := by decide +kernel
theorem dX11_asksFor_25 : decode cX11_asksFor 25 = .ok (.goto 4, 3) := by decide +kernel
theorem dX11_asksFor_28 : decode cX11_asksFor 28 = .ok (.iconst 0, 1) := by decide +kernel
theorem dX11_asksFor_29 : decode cX11_asksFor 29 = .ok (.ireturn, 1) := by decide +kernel
theorem dX11_shows_0 : decode cX11_shows 0 = .ok (.iconst 1, 1) := by decide +kernel
theorem dX11_shows_1 : decode cX11_shows 1 = .ok (.istore_n 2, 1) := by decide +kernel
theorem dX11_shows_2 : decode cX11_shows 2 = .ok (.iload_n 1, 1) := by decide +kernel
theorem dX11_shows_3 : decode cX11_shows 3 = .ok (.istore_n 3, 1) := by decide +kernel
theorem dX11_shows_4 : decode cX11_shows 4 = .ok (.iload_n 3, 1) := by decide +kernel
theorem dX11_shows_5 : decode cX11_shows 5 = .ok (.iconst (-1), 1) := by decide +kernel
theorem dX11_shows_6 : decode cX11_shows 6 = .ok (.if_icmp .eq 32, 3) := by decide +kernel
theorem dX11_shows_9 : decode cX11_shows 9 = .ok (.iload_n 2, 1) := by decide +kernel
theorem dX11_shows_10 : decode cX11_shows 10 = .ok (.ifCond .eq 16, 3) := by decide +kernel
theorem dX11_shows_13 : decode cX11_shows 13 = .ok (.aload_n 0, 1) := by decide +kernel
theorem dX11_shows_14 : decode cX11_shows 14 = .ok (.getfield 44, 3) := by decide +kernel
theorem dX11_shows_17 : decode cX11_shows 17 = .ok (.iload_n 3, 1) := by decide +kernel
theorem dX11_shows_18 : decode cX11_shows 18 = .ok (.baload, 1) := by decide +kernel
theorem dX11_shows_19 : decode cX11_shows 19 = .ok (.ifCond .ne 7, 3) := by decide +kernel
theorem dX11_shows_22 : decode cX11_shows 22 = .ok (.iconst 1, 1) := by decide +kernel
theorem dX11_shows_23 : decode cX11_shows 23 = .ok (.goto 4, 3) := by decide +kernel
theorem dX11_shows_26 : decode cX11_shows 26 = .ok (.iconst 0, 1) := by decide +kernel
theorem dX11_shows_27 : decode cX11_shows 27 = .ok (.istore_n 2, 1) := by decide +kernel
theorem dX11_shows_28 : decode cX11_shows 28 = .ok (.aload_n 0, 1) := by decide +kernel
theorem dX11_shows_29 : decode cX11_shows 29 = .ok (.getfield 17, 3) := by decide +kernel
theorem dX11_shows_32 : decode cX11_shows 32 = .ok (.iload_n 3, 1) := by decide +kernel
theorem dX11_shows_33 : decode cX11_shows 33 = .ok (.iaload, 1) := by decide +kernel
theorem dX11_shows_34 : decode cX11_shows 34 = .ok (.istore_n 3, 1) := by decide +kernel
theorem dX11_shows_35 : decode cX11_shows 35 = .ok (.goto (-31), 3) := by decide +kernel
theorem dX11_shows_38 : decode cX11_shows 38 = .ok (.iload_n 2, 1) := by decide +kernel
theorem dX11_shows_39 : decode cX11_shows 39 = .ok (.ireturn, 1) := by decide +kernel
theorem dX11_levelOf_0 : decode cX11_levelOf 0 = .ok (.iload_n 1, 1) := by decide +kernel
theorem dX11_levelOf_1 : decode cX11_levelOf 1 = .ok (.istore_n 2, 1) := by decide +kernel
theorem dX11_levelOf_2 : decode cX11_levelOf 2 = .ok (.iload_n 2, 1) := by decide +kernel
theorem dX11_levelOf_3 : decode cX11_levelOf 3 = .ok (.iconst (-1), 1) := by decide +kernel
theorem dX11_levelOf_4 : decode cX11_levelOf 4 = .ok (.if_icmp .eq 23, 3) := by decide +kernel
theorem dX11_levelOf_7 : decode cX11_levelOf 7 = .ok (.aload_n 0, 1) := by decide +kernel
theorem dX11_levelOf_8 : decode cX11_levelOf 8 = .ok (.getfield 47, 3) := by decide +kernel
theorem dX11_levelOf_11 : decode cX11_levelOf 11 = .ok (.iload_n 2, 1) := by decide +kernel
theorem dX11_levelOf_12 : decode cX11_levelOf 12 = .ok (.iaload, 1) := by decide +kernel
theorem dX11_levelOf_13 : decode cX11_levelOf 13 = .ok (.iconst (-1), 1) := by decide +kernel
theorem dX11_levelOf_14 : decode cX11_levelOf 14 = .ok (.if_icmp .ne 13, 3) := by decide +kernel
theorem dX11_levelOf_17 : decode cX11_levelOf 17 = .ok (.aload_n 0, 1) := by decide +kernel
theorem dX11_levelOf_18 : decode cX11_levelOf 18 = .ok (.getfield 17, 3) := by decide +kernel
theorem dX11_levelOf_21 : decode cX11_levelOf 21 = .ok (.iload_n 2, 1) := by decide +kernel
theorem dX11_levelOf_22 : decode cX11_levelOf 22 = .ok (.iaload, 1) := by decide +kernel
theorem dX11_levelOf_23 : decode cX11_levelOf 23 = .ok (.istore_n 2, 1) := by decide +kernel
theorem dX11_levelOf_24 : decode cX11_levelOf 24 = .ok (.goto (-22), 3) := by decide +kernel
theorem dX11_levelOf_27 : decode cX11_levelOf 27 = .ok (.iload_n 2, 1) := by decide +kernel
theorem dX11_levelOf_28 : decode cX11_levelOf 28 = .ok (.iconst (-1), 1) := by decide +kernel
theorem dX11_levelOf_29 : decode cX11_levelOf 29 = .ok (.if_icmp .ne 7, 3) := by decide +kernel
theorem dX11_levelOf_32 : decode cX11_levelOf 32 = .ok (.iconst 1, 1) := by decide +kernel
theorem dX11_levelOf_33 : decode cX11_levelOf 33 = .ok (.goto 9, 3) := by decide +kernel
theorem dX11_levelOf_36 : decode cX11_levelOf 36 = .ok (.aload_n 0, 1) := by decide +kernel
theorem dX11_levelOf_37 : decode cX11_levelOf 37 = .ok (.getfield 47, 3) := by decide +kernel
theorem dX11_levelOf_40 : decode cX11_levelOf 40 = .ok (.iload_n 2, 1) := by decide +kernel
theorem dX11_levelOf_41 : decode cX11_levelOf 41 = .ok (.iaload, 1) := by decide +kernel
theorem dX11_levelOf_42 : decode cX11_levelOf 42 = .ok (.ireturn, 1) := by decide +kernel
theorem dX11_regionOf_0 : decode cX11_regionOf 0 = .ok (.aload_n 0, 1) := by decide +kernel
theorem dX11_regionOf_1 : decode cX11_regionOf 1 = .ok (.getfield 17, 3) := by decide +kernel
theorem dX11_regionOf_4 : decode cX11_regionOf 4 = .ok (.iload_n 1, 1) := by decide +kernel
theorem dX11_regionOf_5 : decode cX11_regionOf 5 = .ok (.iaload, 1) := by decide +kernel
theorem dX11_regionOf_6 : decode cX11_regionOf 6 = .ok (.istore_n 2, 1) := by decide +kernel
theorem dX11_regionOf_7 : decode cX11_regionOf 7 = .ok (.iload_n 2, 1) := by decide +kernel
theorem dX11_regionOf_8 : decode cX11_regionOf 8 = .ok (.iconst (-1), 1) := by decide +kernel
theorem dX11_regionOf_9 : decode cX11_regionOf 9 = .ok (.if_icmp .eq 24, 3) := by decide +kernel
theorem dX11_regionOf_12 : decode cX11_regionOf 12 = .ok (.aload_n 0, 1) := by decide +kernel
theorem dX11_regionOf_13 : decode cX11_regionOf 13 = .ok (.getfield 13, 3) := by decide +kernel
theorem dX11_regionOf_16 : decode cX11_regionOf 16 = .ok (.iload_n 2, 1) := by decide +kernel
theorem dX11_regionOf_17 : decode cX11_regionOf 17 = .ok (.iaload, 1) := by decide +kernel
theorem dX11_regionOf_18 : decode cX11_regionOf 18 = .ok (.bipush 7, 2) := by decide +kernel
theorem dX11_regionOf_20 : decode cX11_regionOf 20 = .ok (.if_icmp .eq 13, 3) := by decide +kernel
theorem dX11_regionOf_23 : decode cX11_regionOf 23 = .ok (.aload_n 0, 1) := by decide +kernel
theorem dX11_regionOf_24 : decode cX11_regionOf 24 = .ok (.getfield 17, 3) := by decide +kernel
theorem dX11_regionOf_27 : decode cX11_regionOf 27 = .ok (.iload_n 2, 1) := by decide +kernel
theorem dX11_regionOf_28 : decode cX11_regionOf 28 = .ok (.iaload, 1) := by decide +kernel
theorem dX11_regionOf_29 : decode cX11_regionOf 29 = .ok (.istore_n 2, 1) := by decide +kernel
theorem dX11_regionOf_30 : decode cX11_regionOf 30 = .ok (.goto (-23), 3) := by decide +kernel
theorem dX11_regionOf_33 : decode cX11_regionOf 33 = .ok (.iload_n 2, 1) := by decide +kernel
theorem dX11_regionOf_34 : decode cX11_regionOf 34 = .ok (.ireturn, 1) := by decide +kernel
theorem dX11_placeOf_0 : decode cX11_placeOf 0 = .ok (.iconst 0, 1) := by decide +kernel
theorem dX11_placeOf_1 : decode cX11_placeOf 1 = .ok (.istore_n 2, 1) := by decide +kernel
theorem dX11_placeOf_2 : decode cX11_placeOf 2 = .ok (.aload_n 0, 1) := by decide +kernel
theorem dX11_placeOf_3 : decode cX11_placeOf 3 = .ok (.getfield 20, 3) := by decide +kernel
theorem dX11_placeOf_6 : decode cX11_placeOf 6 = .ok (.bipush 10, 2) := by decide +kernel
theorem dX11_placeOf_8 : decode cX11_placeOf 8 = .ok (.aload_n 0, 1) := by decide +kernel
theorem dX11_placeOf_9 : decode cX11_placeOf 9 = .ok (.getfield 17, 3) := by decide +kernel
theorem dX11_placeOf_12 : decode cX11_placeOf 12 = .ok (.iload_n 1, 1) := by decide +kernel
theorem dX11_placeOf_13 : decode cX11_placeOf 13 = .ok (.iaload, 1) := by decide +kernel
theorem dX11_placeOf_14 : decode cX11_placeOf 14 = .ok (.imul, 1) := by decide +kernel
theorem dX11_placeOf_15 : decode cX11_placeOf 15 = .ok (.iload_n 2, 1) := by decide +kernel
theorem dX11_placeOf_16 : decode cX11_placeOf 16 = .ok (.iadd, 1) := by decide +kernel
theorem dX11_placeOf_17 : decode cX11_placeOf 17 = .ok (.iaload, 1) := by decide +kernel
theorem dX11_placeOf_18 : decode cX11_placeOf 18 = .ok (.iload_n 1, 1) := by decide +kernel
theorem dX11_placeOf_19 : decode cX11_placeOf 19 = .ok (.if_icmp .eq 9, 3) := by decide +kernel
theorem dX11_placeOf_22 : decode cX11_placeOf 22 = .ok (.iinc 2 1, 3) := by decide +kernel
theorem dX11_placeOf_25 : decode cX11_placeOf 25 = .ok (.goto (-23), 3) := by decide +kernel
theorem dX11_placeOf_28 : decode cX11_placeOf 28 = .ok (.iload_n 2, 1) := by decide +kernel
theorem dX11_placeOf_29 : decode cX11_placeOf 29 = .ok (.ireturn, 1) := by decide +kernel
abbrev mX11_init : gM := (yX11_init, cX11_init, 1, (Option.none : Option FieldType), [])
theorem caX11_init : cal mX11_init 0 := ⟨xw 1395 (by decide +kernel) rfl, xw 102 (by decide +kernel) rfl, by decide, by decide +kernel⟩
theorem ciX11_init : Cond.instanceMethod yX11_init ∈ XW := xw 1394 (by decide +kernel) rfl
abbrev mX11_thrown : gM := (yX11_thrown, cX11_thrown, 1, (Option.some FieldType.int), [])
theorem caX11_thrown : cal mX11_thrown 0 := ⟨xw 1564 (by decide +kernel) rfl, xw 102 (by decide +kernel) rfl, by decide, by decide +kernel⟩
theorem cvX11_thrown : calV mX11_thrown := ⟨xw 1562 (by decide +kernel) rfl, xw 1563 (by decide +kernel) rfl⟩
abbrev mX11_in : gM := (yX11_in, cX11_in, 3, (Option.some FieldType.boolean), [])
theorem caX11_in : cal mX11_in 3 := ⟨xw 1574 (by decide +kernel) rfl, xw 102 (by decide +kernel) rfl, by decide, by decide +kernel⟩
theorem csX11_in : Cond.static yX11_in ∈ XW := xw 1573 (by decide +kernel) rfl
abbrev mX11_isElement : gM := (yX11_isElement, cX11_isElement, 2, (Option.some FieldType.boolean), [])
theorem caX11_isElement : cal mX11_isElement 1 := ⟨xw 1584 (by decide +kernel) rfl, xw 102 (by decide +kernel) rfl, by decide, by decide +kernel⟩
theorem cvX11_isElement : calV mX11_isElement := ⟨xw 1583 (by decide +kernel) rfl, xw 28 (by decide +kernel) rfl⟩
abbrev mX11_asksFor : gM := (yX11_asksFor, cX11_asksFor, 2, (Option.some FieldType.boolean), [])
theorem caX11_asksFor : cal mX11_asksFor 1 := ⟨xw 1773 (by decide +kernel) rfl, xw 102 (by decide +kernel) rfl, by decide, by decide +kernel⟩
theorem cvX11_asksFor : calV mX11_asksFor := ⟨xw 1772 (by decide +kernel) rfl, xw 60 (by decide +kernel) rfl⟩
abbrev mX11_shows : gM := (yX11_shows, cX11_shows, 4, (Option.some FieldType.boolean), [])
theorem caX11_shows : cal mX11_shows 1 := ⟨xw 1602 (by decide +kernel) rfl, xw 102 (by decide +kernel) rfl, by decide, by decide +kernel⟩
theorem cvX11_shows : calV mX11_shows := ⟨xw 1601 (by decide +kernel) rfl, xw 31 (by decide +kernel) rfl⟩
abbrev mX11_levelOf : gM := (yX11_levelOf, cX11_levelOf, 3, (Option.some FieldType.int), [])
theorem caX11_levelOf : cal mX11_levelOf 1 := ⟨xw 1610 (by decide +kernel) rfl, xw 102 (by decide +kernel) rfl, by decide, by decide +kernel⟩
theorem cvX11_levelOf : calV mX11_levelOf := ⟨xw 1609 (by decide +kernel) rfl, xw 33 (by decide +kernel) rfl⟩
abbrev mX11_regionOf : gM := (yX11_regionOf, cX11_regionOf, 3, (Option.some FieldType.int), [])
theorem caX11_regionOf : cal mX11_regionOf 1 := ⟨xw 1654 (by decide +kernel) rfl, xw 102 (by decide +kernel) rfl, by decide, by decide +kernel⟩
theorem cvX11_regionOf : calV mX11_regionOf := ⟨xw 1653 (by decide +kernel) rfl, xw 42 (by decide +kernel) rfl⟩
abbrev mX11_placeOf : gM := (yX11_placeOf, cX11_placeOf, 3, (Option.some FieldType.int), [])
theorem caX11_placeOf : cal mX11_placeOf 1 := ⟨xw 1725 (by decide +kernel) rfl, xw 102 (by decide +kernel) rfl, by decide, by decide +kernel⟩
theorem cvX11_placeOf : calV mX11_placeOf := ⟨xw 1724 (by decide +kernel) rfl, xw 55 (by decide +kernel) rfl⟩
theorem lkX11_1 : Cond.methodLink RX11 1 objectInit ∈ XW := xw 1396 (by decide +kernel) rfl
theorem flX11_7 : fl RX11 7 10 1 := ⟨by decide, by decide, xw 1398 (by decide +kernel) rfl⟩
theorem flX11_13 : fl RX11 13 10 2 := ⟨by decide, by decide, xw 1399 (by decide +kernel) rfl⟩
theorem flX11_17 : fl RX11 17 10 3 := ⟨by decide, by decide, xw 1400 (by decide +kernel) rfl⟩
theorem flX11_20 : fl RX11 20 10 4 := ⟨by decide, by decide, xw 1401 (by decide +kernel) rfl⟩
theorem flX11_23 : fl RX11 23 10 5 := ⟨by decide, by decide, xw 1402 (by decide +kernel) rfl⟩
theorem flX11_26 : fl RX11 26 10 6 := ⟨by decide, by decide, xw 1403 (by decide +kernel) rfl⟩
theorem flX11_29 : fl RX11 29 10 7 := ⟨by decide, by decide, xw 1404 (by decide +kernel) rfl⟩
theorem flX11_32 : fl RX11 32 10 8 := ⟨by decide, by decide, xw 1405 (by decide +kernel) rfl⟩
theorem flX11_35 : fl RX11 35 10 9 := ⟨by decide, by decide, xw 1406 (by decide +kernel) rfl⟩
theorem flX11_38 : fl RX11 38 10 10 := ⟨by decide, by decide, xw 1407 (by decide +kernel) rfl⟩
theorem flX11_41 : fl RX11 41 10 11 := ⟨by decide, by decide, xw 1408 (by decide +kernel) rfl⟩
theorem flX11_44 : fl RX11 44 10 12 := ⟨by decide, by decide, xw 1409 (by decide +kernel) rfl⟩
theorem flX11_47 : fl RX11 47 10 13 := ⟨by decide, by decide, xw 1410 (by decide +kernel) rfl⟩
theorem flX11_50 : fl RX11 50 10 14 := ⟨by decide, by decide, xw 1411 (by decide +kernel) rfl⟩
theorem flX11_53 : fl RX11 53 10 15 := ⟨by decide, by decide, xw 1412 (by decide +kernel) rfl⟩
theorem flX11_56 : fl RX11 56 10 16 := ⟨by decide, by decide, xw 1413 (by decide +kernel) rfl⟩
theorem flX11_59 : fl RX11 59 10 17 := ⟨by decide, by decide, xw 1414 (by decide +kernel) rfl⟩
theorem flX11_62 : fl RX11 62 10 18 := ⟨by decide, by decide, xw 1415 (by decide +kernel) rfl⟩
theorem flX11_65 : fl RX11 65 10 28 := ⟨by decide, by decide, xw 1425 (by decide +kernel) rfl⟩
theorem flX11_68 : fl RX11 68 10 30 := ⟨by decide, by decide, xw 1427 (by decide +kernel) rfl⟩
theorem flX11_71 : fl RX11 71 10 31 := ⟨by decide, by decide, xw 1428 (by decide +kernel) rfl⟩
theorem flX11_74 : fl RX11 74 10 33 := ⟨by decide, by decide, xw 1430 (by decide +kernel) rfl⟩
theorem flX11_77 : fl RX11 77 10 35 := ⟨by decide, by decide, xw 1432 (by decide +kernel) rfl⟩
theorem flX11_80 : fl RX11 80 10 36 := ⟨by decide, by decide, xw 1433 (by decide +kernel) rfl⟩
theorem flX11_83 : fl RX11 83 10 39 := ⟨by decide, by decide, xw 1436 (by decide +kernel) rfl⟩
theorem flX11_86 : fl RX11 86 10 42 := ⟨by decide, by decide, xw 1439 (by decide +kernel) rfl⟩
theorem flX11_89 : fl RX11 89 10 47 := ⟨by decide, by decide, xw 1444 (by decide +kernel) rfl⟩
theorem flX11_92 : fl RX11 92 10 49 := ⟨by decide, by decide, xw 1446 (by decide +kernel) rfl⟩
theorem flX11_95 : fl RX11 95 10 51 := ⟨by decide, by decide, xw 1448 (by decide +kernel) rfl⟩
theorem flX11_98 : fl RX11 98 10 52 := ⟨by decide, by decide, xw 1449 (by decide +kernel) rfl⟩
theorem flX11_101 : fl RX11 101 10 0 := ⟨by decide, by decide, xw 1397 (by decide +kernel) rfl⟩
theorem flX11_105 : fl RX11 105 10 21 := ⟨by decide, by decide, xw 1418 (by decide +kernel) rfl⟩
theorem flX11_108 : fl RX11 108 10 38 := ⟨by decide, by decide, xw 1435 (by decide +kernel) rfl⟩
theorem pl_X11 : plainName RX11 = true := by decide +kernel
theorem flX11_111 : fl RX11 111 10 48 := ⟨by decide, by decide, xw 1445 (by decide +kernel) rfl⟩
theorem lkX11_114 : Cond.methodLink RX11 114 yX11_in ∈ XW := xw 1572 (by decide +kernel) rfl
theorem lkX11_118 : Cond.methodLink RX11 118 yX11_isElement ∈ XW := xw 1581 (by decide +kernel) rfl
/-! BrailleDeskModel.<init> -/
theorem tX11_init {G : gG} (a0 : Nat) (h : hp) (Q : hQ) (hF : okB (fX11_init a0 h) (pH gU Q)) : gS G mX11_init 1 30 9613 [sr (some a0)] h Q := by
  delta fX11_init at hF
  refine gS_at [some (sr (some a0))] pl_X11 rfl (Nat.le_of_ble_eq_true rfl) rfl ?_
  refine v_aload_n (pc := 0) (i := 0) dX11_init_0 rfl rfl ?_
  refine v_objI (pc := 1) dX11_init_1 lkX11_1 oi_c oi_d (Nat.le_of_ble_eq_true rfl) (by decide) ?_
  refine v_aload_n (pc := 4) (i := 0) dX11_init_4 rfl rfl ?_
  refine v_bipush (pc := 5) (v := (40 : Int32)) dX11_init_5 rfl ?_
  refine v_newZ (pc := 7) (k := 29) (n := 9573) (len := 40) dX11_init_7 rfl (by decide) ?_
  refine s_putR (pc := 9) dX11_init_9 flX11_7 (Or.inr ⟨rfl, rfl, rfl⟩) rfl hF (fun h1 hF => ?_)
  refine v_aload_n (pc := 12) (i := 0) dX11_init_12 rfl rfl ?_
  refine v_bipush (pc := 13) (v := (40 : Int32)) dX11_init_13 rfl ?_
  refine v_newI (pc := 15) (k := 28) (n := 9533) (len := 40) dX11_init_15 rfl (by decide) ?_
  refine s_putR (pc := 17) dX11_init_17 flX11_13 (Or.inr ⟨rfl, rfl, rfl⟩) rfl hF (fun h2 hF => ?_)
  refine v_aload_n (pc := 20) (i := 0) dX11_init_20 rfl rfl ?_
  refine v_bipush (pc := 21) (v := (40 : Int32)) dX11_init_21 rfl ?_
  refine v_newI (pc := 23) (k := 27) (n := 9493) (len := 40) dX11_init_23 rfl (by decide) ?_
  refine s_putR (pc := 25) dX11_init_25 flX11_17 (Or.inr ⟨rfl, rfl, rfl⟩) rfl hF (fun h3 hF => ?_)
  refine v_aload_n (pc := 28) (i := 0) dX11_init_28 rfl rfl ?_
  refine v_sipush (pc := 29) (v := (400 : Int32)) dX11_init_29 rfl ?_
  refine v_newI (pc := 32) (k := 26) (n := 9093) (len := 400) dX11_init_32 rfl (by decide) ?_
  refine s_putR (pc := 34) dX11_init_34 flX11_20 (Or.inr ⟨rfl, rfl, rfl⟩) rfl hF (fun h4 hF => ?_)
  refine v_aload_n (pc := 37) (i := 0) dX11_init_37 rfl rfl ?_
  refine v_bipush (pc := 38) (v := (40 : Int32)) dX11_init_38 rfl ?_
  refine v_newI (pc := 40) (k := 25) (n := 9053) (len := 40) dX11_init_40 rfl (by decide) ?_
  refine s_putR (pc := 42) dX11_init_42 flX11_23 (Or.inr ⟨rfl, rfl, rfl⟩) rfl hF (fun h5 hF => ?_)
  refine v_aload_n (pc := 45) (i := 0) dX11_init_45 rfl rfl ?_
  refine v_sipush (pc := 46) (v := (480 : Int32)) dX11_init_46 rfl ?_
  refine v_newI (pc := 49) (k := 24) (n := 8573) (len := 480) dX11_init_49 rfl (by decide) ?_
  refine s_putR (pc := 51) dX11_init_51 flX11_26 (Or.inr ⟨rfl, rfl, rfl⟩) rfl hF (fun h6 hF => ?_)
  refine v_aload_n (pc := 54) (i := 0) dX11_init_54 rfl rfl ?_
  refine v_bipush (pc := 55) (v := (40 : Int32)) dX11_init_55 rfl ?_
  refine v_newI (pc := 57) (k := 23) (n := 8533) (len := 40) dX11_init_57 rfl (by decide) ?_
  refine s_putR (pc := 59) dX11_init_59 flX11_29 (Or.inr ⟨rfl, rfl, rfl⟩) rfl hF (fun h7 hF => ?_)
  refine v_aload_n (pc := 62) (i := 0) dX11_init_62 rfl rfl ?_
  refine v_sipush (pc := 63) (v := (480 : Int32)) dX11_init_63 rfl ?_
  refine v_newI (pc := 66) (k := 22) (n := 8053) (len := 480) dX11_init_66 rfl (by decide) ?_
  refine s_putR (pc := 68) dX11_init_68 flX11_32 (Or.inr ⟨rfl, rfl, rfl⟩) rfl hF (fun h8 hF => ?_)
  refine v_aload_n (pc := 71) (i := 0) dX11_init_71 rfl rfl ?_
  refine v_bipush (pc := 72) (v := (40 : Int32)) dX11_init_72 rfl ?_
  refine v_newI (pc := 74) (k := 21) (n := 8013) (len := 40) dX11_init_74 rfl (by decide) ?_
  refine s_putR (pc := 76) dX11_init_76 flX11_35 (Or.inr ⟨rfl, rfl, rfl⟩) rfl hF (fun h9 hF => ?_)
  refine v_aload_n (pc := 79) (i := 0) dX11_init_79 rfl rfl ?_
  refine v_bipush (pc := 80) (v := (40 : Int32)) dX11_init_80 rfl ?_
  refine v_newZ (pc := 82) (k := 20) (n := 7973) (len := 40) dX11_init_82 rfl (by decide) ?_
  refine s_putR (pc := 84) dX11_init_84 flX11_38 (Or.inr ⟨rfl, rfl, rfl⟩) rfl hF (fun h10 hF => ?_)
  refine v_aload_n (pc := 87) (i := 0) dX11_init_87 rfl rfl ?_
  refine v_bipush (pc := 88) (v := (40 : Int32)) dX11_init_88 rfl ?_
  refine v_newI (pc := 90) (k := 19) (n := 7933) (len := 40) dX11_init_90 rfl (by decide) ?_
  refine s_putR (pc := 92) dX11_init_92 flX11_41 (Or.inr ⟨rfl, rfl, rfl⟩) rfl hF (fun h11 hF => ?_)
  refine v_aload_n (pc := 95) (i := 0) dX11_init_95 rfl rfl ?_
  refine v_bipush (pc := 96) (v := (40 : Int32)) dX11_init_96 rfl ?_
  refine v_newZ (pc := 98) (k := 18) (n := 7893) (len := 40) dX11_init_98 rfl (by decide) ?_
  refine s_putR (pc := 100) dX11_init_100 flX11_44 (Or.inr ⟨rfl, rfl, rfl⟩) rfl hF (fun h12 hF => ?_)
  refine v_aload_n (pc := 103) (i := 0) dX11_init_103 rfl rfl ?_
  refine v_bipush (pc := 104) (v := (40 : Int32)) dX11_init_104 rfl ?_
  refine v_newI (pc := 106) (k := 17) (n := 7853) (len := 40) dX11_init_106 rfl (by decide) ?_
  refine s_putR (pc := 108) dX11_init_108 flX11_47 (Or.inr ⟨rfl, rfl, rfl⟩) rfl hF (fun h13 hF => ?_)
  refine v_aload_n (pc := 111) (i := 0) dX11_init_111 rfl rfl ?_
  refine v_bipush (pc := 112) (v := (40 : Int32)) dX11_init_112 rfl ?_
  refine v_newI (pc := 114) (k := 16) (n := 7813) (len := 40) dX11_init_114 rfl (by decide) ?_
  refine s_putR (pc := 116) dX11_init_116 flX11_50 (Or.inr ⟨rfl, rfl, rfl⟩) rfl hF (fun h14 hF => ?_)
  refine v_aload_n (pc := 119) (i := 0) dX11_init_119 rfl rfl ?_
  refine v_bipush (pc := 120) (v := (40 : Int32)) dX11_init_120 rfl ?_
  refine v_newI (pc := 122) (k := 15) (n := 7773) (len := 40) dX11_init_122 rfl (by decide) ?_
  refine s_putR (pc := 124) dX11_init_124 flX11_53 (Or.inr ⟨rfl, rfl, rfl⟩) rfl hF (fun h15 hF => ?_)
  refine v_aload_n (pc := 127) (i := 0) dX11_init_127 rfl rfl ?_
  refine v_bipush (pc := 128) (v := (40 : Int32)) dX11_init_128 rfl ?_
  refine v_newI (pc := 130) (k := 14) (n := 7733) (len := 40) dX11_init_130 rfl (by decide) ?_
  refine s_putR (pc := 132) dX11_init_132 flX11_56 (Or.inr ⟨rfl, rfl, rfl⟩) rfl hF (fun h16 hF => ?_)
  refine v_aload_n (pc := 135) (i := 0) dX11_init_135 rfl rfl ?_
  refine v_sipush (pc := 136) (v := (4000 : Int32)) dX11_init_136 rfl ?_
  refine v_newI (pc := 139) (k := 13) (n := 3733) (len := 4000) dX11_init_139 rfl (by decide) ?_
  refine s_putR (pc := 141) dX11_init_141 flX11_59 (Or.inr ⟨rfl, rfl, rfl⟩) rfl hF (fun h17 hF => ?_)
  refine v_aload_n (pc := 144) (i := 0) dX11_init_144 rfl rfl ?_
  refine v_bipush (pc := 145) (v := (12 : Int32)) dX11_init_145 rfl ?_
  refine v_newI (pc := 147) (k := 12) (n := 3721) (len := 12) dX11_init_147 rfl (by decide) ?_
  refine s_putR (pc := 149) dX11_init_149 flX11_62 (Or.inr ⟨rfl, rfl, rfl⟩) rfl hF (fun h18 hF => ?_)
  refine v_aload_n (pc := 152) (i := 0) dX11_init_152 rfl rfl ?_
  refine v_bipush (pc := 153) (v := (100 : Int32)) dX11_init_153 rfl ?_
  refine v_newI (pc := 155) (k := 11) (n := 3621) (len := 100) dX11_init_155 rfl (by decide) ?_
  refine s_putR (pc := 157) dX11_init_157 flX11_65 (Or.inr ⟨rfl, rfl, rfl⟩) rfl hF (fun h19 hF => ?_)
  refine v_aload_n (pc := 160) (i := 0) dX11_init_160 rfl rfl ?_
  refine v_sipush (pc := 161) (v := (700 : Int32)) dX11_init_161 rfl ?_
  refine v_newI (pc := 164) (k := 10) (n := 2921) (len := 700) dX11_init_164 rfl (by decide) ?_
  refine s_putR (pc := 166) dX11_init_166 flX11_68 (Or.inr ⟨rfl, rfl, rfl⟩) rfl hF (fun h20 hF => ?_)
  refine v_aload_n (pc := 169) (i := 0) dX11_init_169 rfl rfl ?_
  refine v_bipush (pc := 170) (v := (7 : Int32)) dX11_init_170 rfl ?_
  refine v_newI (pc := 172) (k := 9) (n := 2914) (len := 7) dX11_init_172 rfl (by decide) ?_
  refine s_putR (pc := 174) dX11_init_174 flX11_71 (Or.inr ⟨rfl, rfl, rfl⟩) rfl hF (fun h21 hF => ?_)
  refine v_aload_n (pc := 177) (i := 0) dX11_init_177 rfl rfl ?_
  refine v_bipush (pc := 178) (v := (100 : Int32)) dX11_init_178 rfl ?_
  refine v_newI (pc := 180) (k := 8) (n := 2814) (len := 100) dX11_init_180 rfl (by decide) ?_
  refine s_putR (pc := 182) dX11_init_182 flX11_74 (Or.inr ⟨rfl, rfl, rfl⟩) rfl hF (fun h22 hF => ?_)
  refine v_aload_n (pc := 185) (i := 0) dX11_init_185 rfl rfl ?_
  refine v_sipush (pc := 186) (v := (2400 : Int32)) dX11_init_186 rfl ?_
  refine v_newI (pc := 189) (k := 7) (n := 414) (len := 2400) dX11_init_189 rfl (by decide) ?_
  refine s_putR (pc := 191) dX11_init_191 flX11_77 (Or.inr ⟨rfl, rfl, rfl⟩) rfl hF (fun h23 hF => ?_)
  refine v_aload_n (pc := 194) (i := 0) dX11_init_194 rfl rfl ?_
  refine v_bipush (pc := 195) (v := (24 : Int32)) dX11_init_195 rfl ?_
  refine v_newI (pc := 197) (k := 6) (n := 390) (len := 24) dX11_init_197 rfl (by decide) ?_
  refine s_putR (pc := 199) dX11_init_199 flX11_80 (Or.inr ⟨rfl, rfl, rfl⟩) rfl hF (fun h24 hF => ?_)
  refine v_aload_n (pc := 202) (i := 0) dX11_init_202 rfl rfl ?_
  refine v_bipush (pc := 203) (v := (100 : Int32)) dX11_init_203 rfl ?_
  refine v_newI (pc := 205) (k := 5) (n := 290) (len := 100) dX11_init_205 rfl (by decide) ?_
  refine s_putR (pc := 207) dX11_init_207 flX11_83 (Or.inr ⟨rfl, rfl, rfl⟩) rfl hF (fun h25 hF => ?_)
  refine v_aload_n (pc := 210) (i := 0) dX11_init_210 rfl rfl ?_
  refine v_bipush (pc := 211) (v := (100 : Int32)) dX11_init_211 rfl ?_
  refine v_newI (pc := 213) (k := 4) (n := 190) (len := 100) dX11_init_213 rfl (by decide) ?_
  refine s_putR (pc := 215) dX11_init_215 flX11_86 (Or.inr ⟨rfl, rfl, rfl⟩) rfl hF (fun h26 hF => ?_)
  refine v_aload_n (pc := 218) (i := 0) dX11_init_218 rfl rfl ?_
  refine v_bipush (pc := 219) (v := (10 : Int32)) dX11_init_219 rfl ?_
  refine v_newI (pc := 221) (k := 3) (n := 180) (len := 10) dX11_init_221 rfl (by decide) ?_
  refine s_putR (pc := 223) dX11_init_223 flX11_89 (Or.inr ⟨rfl, rfl, rfl⟩) rfl hF (fun h27 hF => ?_)
  refine v_aload_n (pc := 226) (i := 0) dX11_init_226 rfl rfl ?_
  refine v_bipush (pc := 227) (v := (40 : Int32)) dX11_init_227 rfl ?_
  refine v_newI (pc := 229) (k := 2) (n := 140) (len := 40) dX11_init_229 rfl (by decide) ?_
  refine s_putR (pc := 231) dX11_init_231 flX11_92 (Or.inr ⟨rfl, rfl, rfl⟩) rfl hF (fun h28 hF => ?_)
  refine v_aload_n (pc := 234) (i := 0) dX11_init_234 rfl rfl ?_
  refine v_bipush (pc := 235) (v := (40 : Int32)) dX11_init_235 rfl ?_
  refine v_newI (pc := 237) (k := 1) (n := 100) (len := 40) dX11_init_237 rfl (by decide) ?_
  refine s_putR (pc := 239) dX11_init_239 flX11_95 (Or.inr ⟨rfl, rfl, rfl⟩) rfl hF (fun h29 hF => ?_)
  refine v_aload_n (pc := 242) (i := 0) dX11_init_242 rfl rfl ?_
  refine v_bipush (pc := 243) (v := (100 : Int32)) dX11_init_243 rfl ?_
  refine v_newI (pc := 245) (k := 0) (n := 0) (len := 100) dX11_init_245 rfl (by decide) ?_
  refine s_putR (pc := 247) dX11_init_247 flX11_98 (Or.inr ⟨rfl, rfl, rfl⟩) rfl hF (fun h30 hF => ?_)
  refine v_aload_n (pc := 250) (i := 0) dX11_init_250 rfl rfl ?_
  refine v_iconst (pc := 251) (v := (1 : Int32)) dX11_init_251 rfl ?_
  refine s_putI (pc := 252) dX11_init_252 flX11_101 (Or.inl rfl) rfl hF (fun h31 hF => ?_)
  refine v_aload_n (pc := 255) (i := 0) dX11_init_255 rfl rfl ?_
  refine s_getR (pc := 256) dX11_init_256 flX11_7 rfl hF (fun x32 hF => ?_)
  refine v_iconst (pc := 259) (v := (0 : Int32)) dX11_init_259 rfl ?_
  refine v_iconst (pc := 260) (v := (1 : Int32)) dX11_init_260 rfl ?_
  refine s_zast (pc := 261) dX11_init_261 hF (fun h33 hF => ?_)
  refine v_aload_n (pc := 262) (i := 0) dX11_init_262 rfl rfl ?_
  refine s_getR (pc := 263) dX11_init_263 flX11_17 rfl hF (fun x34 hF => ?_)
  refine v_iconst (pc := 266) (v := (0 : Int32)) dX11_init_266 rfl ?_
  refine v_iconst (pc := 267) (v := (-1 : Int32)) dX11_init_267 rfl ?_
  refine s_iast (pc := 268) dX11_init_268 hF (fun h35 hF => ?_)
  refine v_aload_n (pc := 269) (i := 0) dX11_init_269 rfl rfl ?_
  refine s_getR (pc := 270) dX11_init_270 flX11_47 rfl hF (fun x36 hF => ?_)
  refine v_iconst (pc := 273) (v := (0 : Int32)) dX11_init_273 rfl ?_
  refine v_iconst (pc := 274) (v := (-1 : Int32)) dX11_init_274 rfl ?_
  refine s_iast (pc := 275) dX11_init_275 hF (fun h37 hF => ?_)
  refine v_aload_n (pc := 276) (i := 0) dX11_init_276 rfl rfl ?_
  refine v_iconst (pc := 277) (v := (-1 : Int32)) dX11_init_277 rfl ?_
  refine s_putI (pc := 278) dX11_init_278 flX11_105 (Or.inl rfl) rfl hF (fun h38 hF => ?_)
  refine v_aload_n (pc := 281) (i := 0) dX11_init_281 rfl rfl ?_
  refine v_iconst (pc := 282) (v := (-1 : Int32)) dX11_init_282 rfl ?_
  refine s_putI (pc := 283) dX11_init_283 flX11_108 (Or.inl rfl) rfl hF (fun h39 hF => ?_)
  refine v_aload_n (pc := 286) (i := 0) dX11_init_286 rfl rfl ?_
  refine s_getR (pc := 287) dX11_init_287 flX11_89 rfl hF (fun x40 hF => ?_)
  refine v_iconst (pc := 290) (v := (0 : Int32)) dX11_init_290 rfl ?_
  refine v_iconst (pc := 291) (v := (1 : Int32)) dX11_init_291 rfl ?_
  refine s_iast (pc := 292) dX11_init_292 hF (fun h41 hF => ?_)
  refine v_aload_n (pc := 293) (i := 0) dX11_init_293 rfl rfl ?_
  refine s_getR (pc := 294) dX11_init_294 flX11_89 rfl hF (fun x42 hF => ?_)
  refine v_iconst (pc := 297) (v := (1 : Int32)) dX11_init_297 rfl ?_
  refine v_iconst (pc := 298) (v := (3 : Int32)) dX11_init_298 rfl ?_
  refine s_iast (pc := 299) dX11_init_299 hF (fun h43 hF => ?_)
  refine v_aload_n (pc := 300) (i := 0) dX11_init_300 rfl rfl ?_
  refine s_getR (pc := 301) dX11_init_301 flX11_89 rfl hF (fun x44 hF => ?_)
  refine v_iconst (pc := 304) (v := (2 : Int32)) dX11_init_304 rfl ?_
  refine v_bipush (pc := 305) (v := (9 : Int32)) dX11_init_305 rfl ?_
  refine s_iast (pc := 307) dX11_init_307 hF (fun h45 hF => ?_)
  refine v_aload_n (pc := 308) (i := 0) dX11_init_308 rfl rfl ?_
  refine s_getR (pc := 309) dX11_init_309 flX11_89 rfl hF (fun x46 hF => ?_)
  refine v_iconst (pc := 312) (v := (3 : Int32)) dX11_init_312 rfl ?_
  refine v_bipush (pc := 313) (v := (25 : Int32)) dX11_init_313 rfl ?_
  refine s_iast (pc := 315) dX11_init_315 hF (fun h47 hF => ?_)
  refine v_aload_n (pc := 316) (i := 0) dX11_init_316 rfl rfl ?_
  refine s_getR (pc := 317) dX11_init_317 flX11_89 rfl hF (fun x48 hF => ?_)
  refine v_iconst (pc := 320) (v := (4 : Int32)) dX11_init_320 rfl ?_
  refine v_bipush (pc := 321) (v := (17 : Int32)) dX11_init_321 rfl ?_
  refine s_iast (pc := 323) dX11_init_323 hF (fun h49 hF => ?_)
  refine v_aload_n (pc := 324) (i := 0) dX11_init_324 rfl rfl ?_
  refine s_getR (pc := 325) dX11_init_325 flX11_89 rfl hF (fun x50 hF => ?_)
  refine v_iconst (pc := 328) (v := (5 : Int32)) dX11_init_328 rfl ?_
  refine v_bipush (pc := 329) (v := (11 : Int32)) dX11_init_329 rfl ?_
  refine s_iast (pc := 331) dX11_init_331 hF (fun h51 hF => ?_)
  refine v_aload_n (pc := 332) (i := 0) dX11_init_332 rfl rfl ?_
  refine s_getR (pc := 333) dX11_init_333 flX11_89 rfl hF (fun x52 hF => ?_)
  refine v_bipush (pc := 336) (v := (6 : Int32)) dX11_init_336 rfl ?_
  refine v_bipush (pc := 338) (v := (27 : Int32)) dX11_init_338 rfl ?_
  refine s_iast (pc := 340) dX11_init_340 hF (fun h53 hF => ?_)
  refine v_aload_n (pc := 341) (i := 0) dX11_init_341 rfl rfl ?_
  refine s_getR (pc := 342) dX11_init_342 flX11_89 rfl hF (fun x54 hF => ?_)
  refine v_bipush (pc := 345) (v := (7 : Int32)) dX11_init_345 rfl ?_
  refine v_bipush (pc := 347) (v := (19 : Int32)) dX11_init_347 rfl ?_
  refine s_iast (pc := 349) dX11_init_349 hF (fun h55 hF => ?_)
  refine v_aload_n (pc := 350) (i := 0) dX11_init_350 rfl rfl ?_
  refine s_getR (pc := 351) dX11_init_351 flX11_89 rfl hF (fun x56 hF => ?_)
  refine v_bipush (pc := 354) (v := (8 : Int32)) dX11_init_354 rfl ?_
  refine v_bipush (pc := 356) (v := (10 : Int32)) dX11_init_356 rfl ?_
  refine s_iast (pc := 358) dX11_init_358 hF (fun h57 hF => ?_)
  refine v_aload_n (pc := 359) (i := 0) dX11_init_359 rfl rfl ?_
  refine s_getR (pc := 360) dX11_init_360 flX11_89 rfl hF (fun x58 hF => ?_)
  refine v_bipush (pc := 363) (v := (9 : Int32)) dX11_init_363 rfl ?_
  refine v_bipush (pc := 365) (v := (26 : Int32)) dX11_init_365 rfl ?_
  refine s_iast (pc := 367) dX11_init_367 hF (fun h59 hF => ?_)
  exact v_ret (pc := 368) dX11_init_368 rfl (okr hF fun q => q)
/-! BrailleDeskModel.thrown -/
theorem tX11_thrown {G : gG} (a0 : Nat) (h : hp)  (m : mm) (Q : hQ) (hF : okB (fX11_thrown m) (pP gI Q (jn a0 h m))) : gS G mX11_thrown 0 0 0 [sr (some a0)] (jn a0 h m) Q := by
  delta fX11_thrown at hF
  refine gS_at [some (sr (some a0))] pl_X11 rfl (Nat.le_of_ble_eq_true rfl) rfl ?_
  refine v_aload_n (pc := 0) (i := 0) dX11_thrown_0 rfl rfl ?_
  refine m_getI (pc := 1) (j := 48) dX11_thrown_1 flX11_111 rfl rfl ?_
  exact v_iret (pc := 4) dX11_thrown_4 rfl rfl (okr hF fun q => q)
/-! BrailleDeskModel.in -/
theorem tX11_in {G : gG} (a0 : Int32) (a1 : Int32) (a2 : Int32) (h : hp) (Q : hQ) (hF : okB (fX11_in a0 a1 a2) (pP gI Q h)) : gS G mX11_in 0 0 0 [si a0, si a1, si a2] h Q := by
  delta fX11_in at hF
  refine gS_at [some (si a0), some (si a1), some (si a2)] pl_X11 rfl (Nat.le_of_ble_eq_true rfl) rfl ?_
  refine v_iload_n (pc := 0) (i := 0) dX11_in_0 rfl rfl ?_
  refine v_iload_n (pc := 1) (i := 1) dX11_in_1 rfl rfl ?_
  refine v_icmp_lt (pc := 2) 14 dX11_in_2 rfl (fun hc => ?_) (fun hc => ?_)
  · replace hF := (okB_if hF).1 hc
    refine v_iconst (pc := 14) (v := (0 : Int32)) dX11_in_14 rfl ?_
    exact v_iret (pc := 15) dX11_in_15 rfl rfl (okr hF fun q => q)
  replace hF := (okB_if hF).2 hc
  refine v_iload_n (pc := 5) (i := 0) dX11_in_5 rfl rfl ?_
  refine v_iload_n (pc := 6) (i := 2) dX11_in_6 rfl rfl ?_
  refine v_icmp_gt (pc := 7) 14 dX11_in_7 rfl (fun hc => ?_) (fun hc => ?_)
  · replace hF := (okB_if hF).1 hc
    refine v_iconst (pc := 14) (v := (0 : Int32)) dX11_in_14 rfl ?_
    exact v_iret (pc := 15) dX11_in_15 rfl rfl (okr hF fun q => q)
  replace hF := (okB_if hF).2 hc
  refine v_iconst (pc := 10) (v := (1 : Int32)) dX11_in_10 rfl ?_
  refine v_goto (pc := 11) 15 dX11_in_11 rfl ?_
  exact v_iret (pc := 15) dX11_in_15 rfl rfl (okr hF fun q => q)
/-! BrailleDeskModel.isElement -/
theorem tX11_isElement {G : gG} (a0 : Nat) (h : hp) (a1 : Int32) (m : mm) (Q : hQ) (hF : okB (fX11_isElement a1 m) (pP gI Q (jn a0 h m))) : gS G mX11_isElement 1 0 0 [sr (some a0), si a1] (jn a0 h m) Q := by
  delta fX11_isElement at hF
  refine gS_at [some (sr (some a0)), some (si a1)] pl_X11 rfl (Nat.le_of_ble_eq_true rfl) rfl ?_
  refine v_iload_n (pc := 0) (i := 1) dX11_isElement_0 rfl rfl ?_
  refine v_iconst (pc := 1) (v := (0 : Int32)) dX11_isElement_1 rfl ?_
  refine v_aload_n (pc := 2) (i := 0) dX11_isElement_2 rfl rfl ?_
  refine m_getI (pc := 3) (j := 0) dX11_isElement_3 flX11_101 rfl rfl ?_
  refine v_iconst (pc := 6) (v := (1 : Int32)) dX11_isElement_6 rfl ?_
  refine v_isub (pc := 7) dX11_isElement_7 ?_
  refine cp_S (pc := 8) gI (as := [si a1, si (0 : Int32), si ((m 0 0) - (1 : Int32))]) (st := []) (N := mX11_in) (k := 0) (n := 0) (k1 := 0) (n1 := 0) dX11_isElement_8 lkX11_114 caX11_in csX11_in rfl (fun Q1 hq => tX11_in a1 (0 : Int32) ((m 0 0) - (1 : Int32)) (jn a0 h m) Q1 hq) ⟨by decide, by decide⟩ (Nat.le_of_ble_eq_true rfl) rfl hF (fun x1 hF => ?_)
  show gV G mX11_isElement 1 Q 11 [some (sr (some a0)), some (si a1)] [si x1] (0) (0) (jn a0 h m)
  refine v_if_eq (pc := 11) 27 dX11_isElement_11 rfl (fun hc => ?_) (fun hc => ?_)
  · replace hF := (okB_if hF).1 hc
    refine v_iconst (pc := 27) (v := (0 : Int32)) dX11_isElement_27 rfl ?_
    exact v_iret (pc := 28) dX11_isElement_28 rfl rfl (okr hF fun q => q)
  replace hF := (okB_if hF).2 hc
  refine v_aload_n (pc := 14) (i := 0) dX11_isElement_14 rfl rfl ?_
  refine m_getA (pc := 15) (j := 1) dX11_isElement_15 flX11_7 rfl (by decide) ?_
  refine v_iload_n (pc := 18) (i := 1) dX11_isElement_18 rfl rfl ?_
  refine m_zald (pc := 19) (j := 1) dX11_isElement_19 hF (fun x2 hF => ?_)
  refine v_if_eq (pc := 20) 27 dX11_isElement_20 rfl (fun hc => ?_) (fun hc => ?_)
  · replace hF := (okB_if hF).1 hc
    refine v_iconst (pc := 27) (v := (0 : Int32)) dX11_isElement_27 rfl ?_
    exact v_iret (pc := 28) dX11_isElement_28 rfl rfl (okr hF fun q => q)
  replace hF := (okB_if hF).2 hc
  refine v_iconst (pc := 23) (v := (1 : Int32)) dX11_isElement_23 rfl ?_
  refine v_goto (pc := 24) 28 dX11_isElement_24 rfl ?_
  exact v_iret (pc := 28) dX11_isElement_28 rfl rfl (okr hF fun q => q)
/-! BrailleDeskModel.asksFor -/
theorem tX11_asksFor {G : gG} (a0 : Nat) (h : hp) (a1 : Int32) (m : mm) (Q : hQ) (hF : okB (fX11_asksFor a1 m) (pM gI Q a0 h)) : gS G mX11_asksFor 2 0 0 [sr (some a0), si a1] (jn a0 h m) Q := by
  delta fX11_asksFor at hF
  refine gS_at [some (sr (some a0)), some (si a1)] pl_X11 rfl (Nat.le_of_ble_eq_true rfl) rfl ?_
  refine v_aload_n (pc := 0) (i := 0) dX11_asksFor_0 rfl rfl ?_
  refine v_aload_n (pc := 1) (i := 0) dX11_asksFor_1 rfl rfl ?_
  refine v_iload_n (pc := 2) (i := 1) dX11_asksFor_2 rfl rfl ?_
  refine cpM_V (pc := 3) gI (as := [si a1]) (st := [sr (some a0)]) (N := mX11_isElement) (k := 0) (n := 0) (k1 := 0) (n1 := 0) dX11_asksFor_3 lkX11_118 caX11_isElement cvX11_isElement rfl rfl (fun Q1 hq => tX11_isElement a0 h a1 m Q1 hq) ⟨by decide, by decide⟩ (Nat.le_of_ble_eq_true rfl) rfl hF (fun x1 hF => ?_)
  show gV G mX11_asksFor 2 Q 6 [some (sr (some a0)), some (si a1)] [si x1, sr (some a0)] (0) (0) (jn a0 h m)
  refine mg (X := fun q2 => gV G mX11_asksFor 2 Q 14 [some (sr (some a0)), none] [si q2, sr (some a0)] (0) (0) (jn a0 h m)) hF (fun _ hj3 hF => ?_) (fun q2 hF => ?_)
  · refine v_if_eq (pc := 6) 13 dX11_asksFor_6 rfl (fun hc => ?_) (fun hc => ?_)
    · replace hF := (okB_if hF).1 hc
      refine v_iconst (pc := 13) (v := (1 : Int32)) dX11_asksFor_13 rfl ?_
      exact v_lle [some (sr (some a0)), none] ⟨rfl, trivial⟩ (hj3 (1 : Int32) (okB_some hF))
    replace hF := (okB_if hF).2 hc
    refine v_iconst (pc := 9) (v := (0 : Int32)) dX11_asksFor_9 rfl ?_
    refine v_goto (pc := 10) 14 dX11_asksFor_10 rfl ?_
    exact v_lle [some (sr (some a0)), none] ⟨rfl, trivial⟩ (hj3 (0 : Int32) (okB_some hF))
  refine m_putI (pc := 14) (j := 48) dX11_asksFor_14 flX11_111 rfl rfl rfl hF (fun m4 hF => ?_)
  refine v_aload_n (pc := 17) (i := 0) dX11_asksFor_17 rfl rfl ?_
  refine m_getI (pc := 18) (j := 48) dX11_asksFor_18 flX11_111 rfl rfl ?_
  refine v_if_ne (pc := 21) 28 dX11_asksFor_21 rfl (fun hc => ?_) (fun hc => ?_)
  · replace hF := (okB_if hF).2 hc
    refine v_iconst (pc := 28) (v := (0 : Int32)) dX11_asksFor_28 rfl ?_
    exact v_iret (pc := 29) dX11_asksFor_29 rfl rfl (okr hF fun q => q)
  replace hF := (okB_if hF).1 hc
  refine v_iconst (pc := 24) (v := (1 : Int32)) dX11_asksFor_24 rfl ?_
  refine v_goto (pc := 25) 29 dX11_asksFor_25 rfl ?_
  exact v_iret (pc := 29) dX11_asksFor_29 rfl rfl (okr hF fun q => q)
/-! BrailleDeskModel.shows -/
theorem lX11_shows_4 {G : gG} {Q : hQ} {P : Int32 → Prop} {k n : Nat} (a0 : Nat) (h : hp) (m : mm) (hJ : ∀ q : Int32, P q → gV G mX11_shows 0 Q 38 [none, none, some (si q), none] [] (k) (n) (jn a0 h m)) : ∀ (fu : Nat) (a : (Int32 × Int32)), okB (itr (fX11_shows_B4 m) fu a) P → gV G mX11_shows 0 Q 4 [some (sr (some a0)), none, some (si a.1), some (si a.2)] [] (k) (n) (jn a0 h m) :=
  lpg (X := fun (a : (Int32 × Int32)) => gV G mX11_shows 0 Q 4 [some (sr (some a0)), none, some (si a.1), some (si a.2)] [] (k) (n) (jn a0 h m)) (fun a P2 hL hE hF => by
    delta fX11_shows_B4 at hF
    refine v_iload_n (pc := 4) (i := 3) dX11_shows_4 rfl rfl ?_
    refine v_iconst (pc := 5) (v := (-1 : Int32)) dX11_shows_5 rfl ?_
    refine v_icmp_eq (pc := 6) 38 dX11_shows_6 rfl (fun hc => ?_) (fun hc => ?_)
    · replace hF := (okB_if hF).1 hc
      exact v_lle [none, none, some (si a.1), none] ⟨rfl, trivial⟩ (hJ a.1 (hE _ (okB_some hF)))
    replace hF := (okB_if hF).2 hc
    refine v_iload_n (pc := 9) (i := 2) dX11_shows_9 rfl rfl ?_
    refine mg (X := fun q1 => gV G mX11_shows 0 Q 27 [some (sr (some a0)), none, none, some (si a.2)] [si q1] (k) (n) (jn a0 h m)) hF (fun _ hj2 hF => ?_) (fun q1 hF => ?_)
    · refine v_if_eq (pc := 10) 26 dX11_shows_10 rfl (fun hc => ?_) (fun hc => ?_)
      · replace hF := (okB_if hF).1 hc
        refine v_iconst (pc := 26) (v := (0 : Int32)) dX11_shows_26 rfl ?_
        exact v_lle [some (sr (some a0)), none, none, some (si a.2)] ⟨rfl, rfl, trivial⟩ (hj2 (0 : Int32) (okB_some hF))
      replace hF := (okB_if hF).2 hc
      refine v_aload_n (pc := 13) (i := 0) dX11_shows_13 rfl rfl ?_
      refine m_getA (pc := 14) (j := 12) dX11_shows_14 flX11_44 rfl (by decide) ?_
      refine v_iload_n (pc := 17) (i := 3) dX11_shows_17 rfl rfl ?_
      refine m_zald (pc := 18) (j := 12) dX11_shows_18 hF (fun x3 hF => ?_)
      refine v_if_ne (pc := 19) 26 dX11_shows_19 rfl (fun hc => ?_) (fun hc => ?_)
      · replace hF := (okB_if hF).2 hc
        refine v_iconst (pc := 26) (v := (0 : Int32)) dX11_shows_26 rfl ?_
        exact v_lle [some (sr (some a0)), none, none, some (si a.2)] ⟨rfl, rfl, trivial⟩ (hj2 (0 : Int32) (okB_some hF))
      replace hF := (okB_if hF).1 hc
      refine v_iconst (pc := 22) (v := (1 : Int32)) dX11_shows_22 rfl ?_
      refine v_goto (pc := 23) 27 dX11_shows_23 rfl ?_
      exact v_lle [some (sr (some a0)), none, none, some (si a.2)] ⟨rfl, rfl, trivial⟩ (hj2 (1 : Int32) (okB_some hF))
    refine v_istore_n (pc := 27) (i := 2) [some (sr (some a0)), none, some (si q1), some (si a.2)] dX11_shows_27 rfl (by decide) rfl rfl ?_
    refine v_aload_n (pc := 28) (i := 0) dX11_shows_28 rfl rfl ?_
    refine m_getA (pc := 29) (j := 3) dX11_shows_29 flX11_17 rfl (by decide) ?_
    refine v_iload_n (pc := 32) (i := 3) dX11_shows_32 rfl rfl ?_
    refine m_iald (pc := 33) (j := 3) dX11_shows_33 hF (fun x4 hF => ?_)
    refine v_istore_n (pc := 34) (i := 3) [some (sr (some a0)), none, some (si q1), some (si x4)] dX11_shows_34 rfl (by decide) rfl rfl ?_
    refine v_goto (pc := 35) 4 dX11_shows_35 rfl ?_
    exact v_lle [some (sr (some a0)), none, some (si q1), some (si x4)] ⟨rfl, rfl, rfl, trivial⟩ (hL (q1, x4) (okB_some hF)))
theorem tX11_shows {G : gG} (a0 : Nat) (h : hp) (a1 : Int32) (m : mm) (Q : hQ) (hF : okB (fX11_shows a1 m) (pP gI Q (jn a0 h m))) : gS G mX11_shows 0 0 0 [sr (some a0), si a1] (jn a0 h m) Q := by
  delta fX11_shows at hF
  refine gS_at [some (sr (some a0)), some (si a1), none, none] pl_X11 rfl (Nat.le_of_ble_eq_true rfl) rfl ?_
  refine v_iconst (pc := 0) (v := (1 : Int32)) dX11_shows_0 rfl ?_
  refine v_istore_n (pc := 1) (i := 2) [some (sr (some a0)), some (si a1), some (si (1 : Int32)), none] dX11_shows_1 rfl (by decide) rfl rfl ?_
  refine v_iload_n (pc := 2) (i := 1) dX11_shows_2 rfl rfl ?_
  refine v_istore_n (pc := 3) (i := 3) [some (sr (some a0)), some (si a1), some (si (1 : Int32)), some (si a1)] dX11_shows_3 rfl (by decide) rfl rfl ?_
  refine mg (X := fun q1 => gV G mX11_shows 0 Q 38 [none, none, some (si q1), none] [] (0) (0) (jn a0 h m)) hF (fun _ hj2 hF => v_lle [some (sr (some a0)), none, some (si (1 : Int32)), some (si a1)] ⟨rfl, rfl, rfl, trivial⟩ (lX11_shows_4 a0 h m hj2 FU ((1 : Int32), a1) hF)) (fun q1 hF => ?_)
  refine v_iload_n (pc := 38) (i := 2) dX11_shows_38 rfl rfl ?_
  exact s_zret (pc := 39) dX11_shows_39 rfl hF (fun hF => (okr hF fun q => q))
/-! BrailleDeskModel.levelOf -/
theorem lX11_levelOf_2 {G : gG} {Q : hQ} {P : Int32 → Prop} {k n : Nat} (a0 : Nat) (h : hp) (m : mm) (hJ : ∀ q : Int32, P q → gV G mX11_levelOf 0 Q 27 [some (sr (some a0)), none, some (si q)] [] (k) (n) (jn a0 h m)) : ∀ (fu : Nat) (a : Int32), okB (itr (fX11_levelOf_B2 m) fu a) P → gV G mX11_levelOf 0 Q 2 [some (sr (some a0)), none, some (si a)] [] (k) (n) (jn a0 h m) :=
  lpg (X := fun (a : Int32) => gV G mX11_levelOf 0 Q 2 [some (sr (some a0)), none, some (si a)] [] (k) (n) (jn a0 h m)) (fun a P2 hL hE hF => by
    delta fX11_levelOf_B2 at hF
    refine v_iload_n (pc := 2) (i := 2) dX11_levelOf_2 rfl rfl ?_
    refine v_iconst (pc := 3) (v := (-1 : Int32)) dX11_levelOf_3 rfl ?_
    refine v_icmp_eq (pc := 4) 27 dX11_levelOf_4 rfl (fun hc => ?_) (fun hc => ?_)
    · replace hF := (okB_if hF).1 hc
      exact v_lle [some (sr (some a0)), none, some (si a)] ⟨rfl, rfl, trivial⟩ (hJ a (hE _ (okB_some hF)))
    replace hF := (okB_if hF).2 hc
    refine v_aload_n (pc := 7) (i := 0) dX11_levelOf_7 rfl rfl ?_
    refine m_getA (pc := 8) (j := 13) dX11_levelOf_8 flX11_47 rfl (by decide) ?_
    refine v_iload_n (pc := 11) (i := 2) dX11_levelOf_11 rfl rfl ?_
    refine m_iald (pc := 12) (j := 13) dX11_levelOf_12 hF (fun x1 hF => ?_)
    refine v_iconst (pc := 13) (v := (-1 : Int32)) dX11_levelOf_13 rfl ?_
    refine v_icmp_ne (pc := 14) 27 dX11_levelOf_14 rfl (fun hc => ?_) (fun hc => ?_)
    · replace hF := (okB_if hF).2 hc
      exact v_lle [some (sr (some a0)), none, some (si a)] ⟨rfl, rfl, trivial⟩ (hJ a (hE _ (okB_some hF)))
    replace hF := (okB_if hF).1 hc
    refine v_aload_n (pc := 17) (i := 0) dX11_levelOf_17 rfl rfl ?_
    refine m_getA (pc := 18) (j := 3) dX11_levelOf_18 flX11_17 rfl (by decide) ?_
    refine v_iload_n (pc := 21) (i := 2) dX11_levelOf_21 rfl rfl ?_
    refine m_iald (pc := 22) (j := 3) dX11_levelOf_22 hF (fun x2 hF => ?_)
    refine v_istore_n (pc := 23) (i := 2) [some (sr (some a0)), none, some (si x2)] dX11_levelOf_23 rfl (by decide) rfl rfl ?_
    refine v_goto (pc := 24) 2 dX11_levelOf_24 rfl ?_
    exact v_lle [some (sr (some a0)), none, some (si x2)] ⟨rfl, rfl, trivial⟩ (hL x2 (okB_some hF)))
theorem tX11_levelOf {G : gG} (a0 : Nat) (h : hp) (a1 : Int32) (m : mm) (Q : hQ) (hF : okB (fX11_levelOf a1 m) (pP gI Q (jn a0 h m))) : gS G mX11_levelOf 0 0 0 [sr (some a0), si a1] (jn a0 h m) Q := by
  delta fX11_levelOf at hF
  refine gS_at [some (sr (some a0)), some (si a1), none] pl_X11 rfl (Nat.le_of_ble_eq_true rfl) rfl ?_
  refine v_iload_n (pc := 0) (i := 1) dX11_levelOf_0 rfl rfl ?_
  refine v_istore_n (pc := 1) (i := 2) [some (sr (some a0)), some (si a1), some (si a1)] dX11_levelOf_1 rfl (by decide) rfl rfl ?_
  refine mg (X := fun q1 => gV G mX11_levelOf 0 Q 27 [some (sr (some a0)), none, some (si q1)] [] (0) (0) (jn a0 h m)) hF (fun _ hj3 hF => v_lle [some (sr (some a0)), none, some (si a1)] ⟨rfl, rfl, trivial⟩ (lX11_levelOf_2 a0 h m hj3 FU a1 hF)) (fun q1 hF => ?_)
  refine v_iload_n (pc := 27) (i := 2) dX11_levelOf_27 rfl rfl ?_
  refine v_iconst (pc := 28) (v := (-1 : Int32)) dX11_levelOf_28 rfl ?_
  refine v_icmp_ne (pc := 29) 36 dX11_levelOf_29 rfl (fun hc => ?_) (fun hc => ?_)
  · replace hF := (okB_if hF).2 hc
    refine v_aload_n (pc := 36) (i := 0) dX11_levelOf_36 rfl rfl ?_
    refine m_getA (pc := 37) (j := 13) dX11_levelOf_37 flX11_47 rfl (by decide) ?_
    refine v_iload_n (pc := 40) (i := 2) dX11_levelOf_40 rfl rfl ?_
    refine m_iald (pc := 41) (j := 13) dX11_levelOf_41 hF (fun x2 hF => ?_)
    exact v_iret (pc := 42) dX11_levelOf_42 rfl rfl (okr hF fun q => q)
  replace hF := (okB_if hF).1 hc
  refine v_iconst (pc := 32) (v := (1 : Int32)) dX11_levelOf_32 rfl ?_
  refine v_goto (pc := 33) 42 dX11_levelOf_33 rfl ?_
  exact v_iret (pc := 42) dX11_levelOf_42 rfl rfl (okr hF fun q => q)
/-! BrailleDeskModel.regionOf -/
theorem lX11_regionOf_7 {G : gG} {Q : hQ} {P : Int32 → Prop} {k n : Nat} (a0 : Nat) (h : hp) (m : mm) (hJ : ∀ q : Int32, P q → gV G mX11_regionOf 0 Q 33 [none, none, some (si q)] [] (k) (n) (jn a0 h m)) : ∀ (fu : Nat) (a : Int32), okB (itr (fX11_regionOf_B7 m) fu a) P → gV G mX11_regionOf 0 Q 7 [some (sr (some a0)), none, some (si a)] [] (k) (n) (jn a0 h m) :=
  lpg (X := fun (a : Int32) => gV G mX11_regionOf 0 Q 7 [some (sr (some a0)), none, some (si a)] [] (k) (n) (jn a0 h m)) (fun a P2 hL hE hF => by
    delta fX11_regionOf_B7 at hF
    refine v_iload_n (pc := 7) (i := 2) dX11_regionOf_7 rfl rfl ?_
    refine v_iconst (pc := 8) (v := (-1 : Int32)) dX11_regionOf_8 rfl ?_
    refine v_icmp_eq (pc := 9) 33 dX11_regionOf_9 rfl (fun hc => ?_) (fun hc => ?_)
    · replace hF := (okB_if hF).1 hc
      exact v_lle [none, none, some (si a)] ⟨rfl, trivial⟩ (hJ a (hE _ (okB_some hF)))
    replace hF := (okB_if hF).2 hc
    refine v_aload_n (pc := 12) (i := 0) dX11_regionOf_12 rfl rfl ?_
    refine m_getA (pc := 13) (j := 2) dX11_regionOf_13 flX11_13 rfl (by decide) ?_
    refine v_iload_n (pc := 16) (i := 2) dX11_regionOf_16 rfl rfl ?_
    refine m_iald (pc := 17) (j := 2) dX11_regionOf_17 hF (fun x1 hF => ?_)
    refine v_bipush (pc := 18) (v := (7 : Int32)) dX11_regionOf_18 rfl ?_
    refine v_icmp_eq (pc := 20) 33 dX11_regionOf_20 rfl (fun hc => ?_) (fun hc => ?_)
    · replace hF := (okB_if hF).1 hc
      exact v_lle [none, none, some (si a)] ⟨rfl, trivial⟩ (hJ a (hE _ (okB_some hF)))
    replace hF := (okB_if hF).2 hc
    refine v_aload_n (pc := 23) (i := 0) dX11_regionOf_23 rfl rfl ?_
    refine m_getA (pc := 24) (j := 3) dX11_regionOf_24 flX11_17 rfl (by decide) ?_
    refine v_iload_n (pc := 27) (i := 2) dX11_regionOf_27 rfl rfl ?_
    refine m_iald (pc := 28) (j := 3) dX11_regionOf_28 hF (fun x2 hF => ?_)
    refine v_istore_n (pc := 29) (i := 2) [some (sr (some a0)), none, some (si x2)] dX11_regionOf_29 rfl (by decide) rfl rfl ?_
    refine v_goto (pc := 30) 7 dX11_regionOf_30 rfl ?_
    exact v_lle [some (sr (some a0)), none, some (si x2)] ⟨rfl, rfl, trivial⟩ (hL x2 (okB_some hF)))
theorem tX11_regionOf {G : gG} (a0 : Nat) (h : hp) (a1 : Int32) (m : mm) (Q : hQ) (hF : okB (fX11_regionOf a1 m) (pP gI Q (jn a0 h m))) : gS G mX11_regionOf 0 0 0 [sr (some a0), si a1] (jn a0 h m) Q := by
  delta fX11_regionOf at hF
  refine gS_at [some (sr (some a0)), some (si a1), none] pl_X11 rfl (Nat.le_of_ble_eq_true rfl) rfl ?_
  refine v_aload_n (pc := 0) (i := 0) dX11_regionOf_0 rfl rfl ?_
  refine m_getA (pc := 1) (j := 3) dX11_regionOf_1 flX11_17 rfl (by decide) ?_
  refine v_iload_n (pc := 4) (i := 1) dX11_regionOf_4 rfl rfl ?_
  refine m_iald (pc := 5) (j := 3) dX11_regionOf_5 hF (fun x1 hF => ?_)
  refine v_istore_n (pc := 6) (i := 2) [some (sr (some a0)), some (si a1), some (si x1)] dX11_regionOf_6 rfl (by decide) rfl rfl ?_
  refine mg (X := fun q2 => gV G mX11_regionOf 0 Q 33 [none, none, some (si q2)] [] (0) (0) (jn a0 h m)) hF (fun _ hj3 hF => v_lle [some (sr (some a0)), none, some (si x1)] ⟨rfl, rfl, trivial⟩ (lX11_regionOf_7 a0 h m hj3 FU x1 hF)) (fun q2 hF => ?_)
  refine v_iload_n (pc := 33) (i := 2) dX11_regionOf_33 rfl rfl ?_
  exact v_iret (pc := 34) dX11_regionOf_34 rfl rfl (okr hF fun q => q)
/-! BrailleDeskModel.placeOf -/
theorem lX11_placeOf_2 {G : gG} {Q : hQ} {P : Int32 → Prop} {k n : Nat} (a0 : Nat) (h : hp) (c1 : Int32) (m : mm) (hJ : ∀ q : Int32, P q → gV G mX11_placeOf 0 Q 28 [none, none, some (si q)] [] (k) (n) (jn a0 h m)) : ∀ (fu : Nat) (a : Int32), okB (itr (fX11_placeOf_B2 c1 m) fu a) P → gV G mX11_placeOf 0 Q 2 [some (sr (some a0)), some (si c1), some (si a)] [] (k) (n) (jn a0 h m) :=
  lpg (X := fun (a : Int32) => gV G mX11_placeOf 0 Q 2 [some (sr (some a0)), some (si c1), some (si a)] [] (k) (n) (jn a0 h m)) (fun a P2 hL hE hF => by
    delta fX11_placeOf_B2 at hF
    refine v_aload_n (pc := 2) (i := 0) dX11_placeOf_2 rfl rfl ?_
    refine m_getA (pc := 3) (j := 4) dX11_placeOf_3 flX11_20 rfl (by decide) ?_
    refine v_bipush (pc := 6) (v := (10 : Int32)) dX11_placeOf_6 rfl ?_
    refine v_aload_n (pc := 8) (i := 0) dX11_placeOf_8 rfl rfl ?_
    refine m_getA (pc := 9) (j := 3) dX11_placeOf_9 flX11_17 rfl (by decide) ?_
    refine v_iload_n (pc := 12) (i := 1) dX11_placeOf_12 rfl rfl ?_
    refine m_iald (pc := 13) (j := 3) dX11_placeOf_13 hF (fun x1 hF => ?_)
    refine v_imul (pc := 14) dX11_placeOf_14 ?_
    refine v_iload_n (pc := 15) (i := 2) dX11_placeOf_15 rfl rfl ?_
    refine v_iadd (pc := 16) dX11_placeOf_16 ?_
    refine m_iald (pc := 17) (j := 4) dX11_placeOf_17 hF (fun x2 hF => ?_)
    refine v_iload_n (pc := 18) (i := 1) dX11_placeOf_18 rfl rfl ?_
    refine v_icmp_eq (pc := 19) 28 dX11_placeOf_19 rfl (fun hc => ?_) (fun hc => ?_)
    · replace hF := (okB_if hF).1 hc
      exact v_lle [none, none, some (si a)] ⟨rfl, trivial⟩ (hJ a (hE _ (okB_some hF)))
    replace hF := (okB_if hF).2 hc
    refine v_iinc (pc := 22) (i := 2) (a + (1 : Int32)) [some (sr (some a0)), some (si c1), some (si (a + (1 : Int32)))] dX11_placeOf_22 rfl rfl rfl rfl ?_
    refine v_goto (pc := 25) 2 dX11_placeOf_25 rfl ?_
    exact v_lle [some (sr (some a0)), some (si c1), some (si (a + (1 : Int32)))] ⟨rfl, rfl, rfl, trivial⟩ (hL (a + (1 : Int32)) (okB_some hF)))
theorem tX11_placeOf {G : gG} (a0 : Nat) (h : hp) (a1 : Int32) (m : mm) (Q : hQ) (hF : okB (fX11_placeOf a1 m) (pP gI Q (jn a0 h m))) : gS G mX11_placeOf 0 0 0 [sr (some a0), si a1] (jn a0 h m) Q := by
  delta fX11_placeOf at hF
  refine gS_at [some (sr (some a0)), some (si a1), none] pl_X11 rfl (Nat.le_of_ble_eq_true rfl) rfl ?_
  refine v_iconst (pc := 0) (v := (0 : Int32)) dX11_placeOf_0 rfl ?_
  refine v_istore_n (pc := 1) (i := 2) [some (sr (some a0)), some (si a1), some (si (0 : Int32))] dX11_placeOf_1 rfl (by decide) rfl rfl ?_
  refine mg (X := fun q1 => gV G mX11_placeOf 0 Q 28 [none, none, some (si q1)] [] (0) (0) (jn a0 h m)) hF (fun _ hj2 hF => v_lle [some (sr (some a0)), some (si a1), some (si (0 : Int32))] ⟨rfl, rfl, rfl, trivial⟩ (lX11_placeOf_2 a0 h a1 m hj2 FU (0 : Int32) hF)) (fun q1 hF => ?_)
  refine v_iload_n (pc := 28) (i := 2) dX11_placeOf_28 rfl rfl ?_
  exact v_iret (pc := 29) dX11_placeOf_29 rfl rfl (okr hF fun q => q)
