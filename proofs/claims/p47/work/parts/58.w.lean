/-! ===== the law's methods that call the desk ===== -/
theorem dL_isDesk_0 : decode cL_isDesk 0 = .ok (.bipush 64, 2) := by decide +kernel
theorem dL_isDesk_2 : decode cL_isDesk 2 = .ok (.newarray .int, 2) := by decide +kernel
theorem dL_isDesk_4 : decode cL_isDesk 4 = .ok (.astore 7, 2) := by decide +kernel
theorem dL_isDesk_6 : decode cL_isDesk 6 = .ok (.iconst 0, 1) := by decide +kernel
theorem dL_isDesk_7 : decode cL_isDesk 7 = .ok (.istore 8, 2) := by decide +kernel
theorem dL_isDesk_9 : decode cL_isDesk 9 = .ok (.iconst 0, 1) := by decide +kernel
theorem dL_isDesk_10 : decode cL_isDesk 10 = .ok (.istore 9, 2) := by decide +kernel
theorem dL_isDesk_12 : decode cL_isDesk 12 = .ok (.aload_n 0, 1) := by decide +kernel
theorem dL_isDesk_13 : decode cL_isDesk 13 = .ok (.invokevirtual 139, 3) := by decide +kernel
theorem dL_isDesk_16 : decode cL_isDesk 16 = .ok (.aload_n 1, 1) := by decide +kernel
theorem dL_isDesk_17 : decode cL_isDesk 17 = .ok (.iconst 1, 1) := by decide +kernel
theorem dL_isDesk_18 : decode cL_isDesk 18 = .ok (.iaload, 1) := by decide +kernel
theorem dL_isDesk_19 : decode cL_isDesk 19 = .ok (.if_icmp .ne 48, 3) := by decide +kernel
theorem dL_isDesk_22 : decode cL_isDesk 22 = .ok (.aload_n 0, 1) := by decide +kernel
theorem dL_isDesk_23 : decode cL_isDesk 23 = .ok (.invokevirtual 143, 3) := by decide +kernel
theorem dL_isDesk_26 : decode cL_isDesk 26 = .ok (.aload_n 1, 1) := by decide +kernel
theorem dL_isDesk_27 : decode cL_isDesk 27 = .ok (.iconst 2, 1) := by decide +kernel
theorem dL_isDesk_28 : decode cL_isDesk 28 = .ok (.iaload, 1) := by decide +kernel
theorem dL_isDesk_29 : decode cL_isDesk 29 = .ok (.iconst 1, 1) := by decide +kernel
theorem dL_isDesk_30 : decode cL_isDesk 30 = .ok (.isub, 1) := by decide +kernel
theorem dL_isDesk_31 : decode cL_isDesk 31 = .ok (.if_icmp .ne 36, 3) := by decide +kernel
theorem dL_isDesk_34 : decode cL_isDesk 34 = .ok (.aload_n 0, 1) := by decide +kernel
theorem dL_isDesk_35 : decode cL_isDesk 35 = .ok (.invokevirtual 146, 3) := by decide +kernel
theorem dL_isDesk_38 : decode cL_isDesk 38 = .ok (.aload_n 1, 1) := by decide +kernel
theorem dL_isDesk_39 : decode cL_isDesk 39 = .ok (.iconst 3, 1) := by decide +kernel
theorem dL_isDesk_40 : decode cL_isDesk 40 = .ok (.iaload, 1) := by decide +kernel
theorem dL_isDesk_41 : decode cL_isDesk 41 = .ok (.if_icmp .ne 26, 3) := by decide +kernel
theorem dL_isDesk_44 : decode cL_isDesk 44 = .ok (.aload_n 0, 1) := by decide +kernel
theorem dL_isDesk_45 : decode cL_isDesk 45 = .ok (.invokevirtual 149, 3) := by decide +kernel
theorem dL_isDesk_48 : decode cL_isDesk 48 = .ok (.aload_n 1, 1) := by decide +kernel
theorem dL_isDesk_49 : decode cL_isDesk 49 = .ok (.iconst 4, 1) := by decide +kernel
theorem dL_isDesk_50 : decode cL_isDesk 50 = .ok (.iaload, 1) := by decide +kernel
theorem dL_isDesk_51 : decode cL_isDesk 51 = .ok (.iconst 1, 1) := by decide +kernel
theorem dL_isDesk_52 : decode cL_isDesk 52 = .ok (.if_icmp .ne 7, 3) := by decide +kernel
theorem dL_isDesk_55 : decode cL_isDesk 55 = .ok (.iconst 1, 1) := by decide +kernel
theorem dL_isDesk_56 : decode cL_isDesk 56 = .ok (.goto 4, 3) := by decide +kernel
theorem dL_isDesk_59 : decode cL_isDesk 59 = .ok (.iconst 0, 1) := by decide +kernel
theorem dL_isDesk_60 : decode cL_isDesk 60 = .ok (.if_icmp .ne 7, 3) := by decide +kernel
theorem dL_isDesk_63 : decode cL_isDesk 63 = .ok (.iconst 1, 1) := by decide +kernel
theorem dL_isDesk_64 : decode cL_isDesk 64 = .ok (.goto 4, 3) := by decide +kernel
theorem dL_isDesk_67 : decode cL_isDesk 67 = .ok (.iconst 0, 1) := by decide +kernel
theorem dL_isDesk_68 : decode cL_isDesk 68 = .ok (.istore 10, 2) := by decide +kernel
theorem dL_isDesk_70 : decode cL_isDesk 70 = .ok (.iconst 0, 1) := by decide +kernel
theorem dL_isDesk_71 : decode cL_isDesk 71 = .ok (.istore 11, 2) := by decide +kernel
theorem dL_isDesk_73 : decode cL_isDesk 73 = .ok (.iload 11, 2) := by decide +kernel
theorem dL_isDesk_75 : decode cL_isDesk 75 = .ok (.ifCond .lt 41, 3) := by decide +kernel
theorem dL_isDesk_78 : decode cL_isDesk 78 = .ok (.iload 10, 2) := by decide +kernel
theorem dL_isDesk_80 : decode cL_isDesk 80 = .ok (.ifCond .eq 36, 3) := by decide +kernel
theorem dL_isDesk_83 : decode cL_isDesk 83 = .ok (.aload_n 0, 1) := by decide +kernel
theorem dL_isDesk_84 : decode cL_isDesk 84 = .ok (.iload 9, 2) := by decide +kernel
theorem dL_isDesk_86 : decode cL_isDesk 86 = .ok (.invokevirtual 153, 3) := by decide +kernel
theorem dL_isDesk_89 : decode cL_isDesk 89 = .ok (.iload 11, 2) := by decide +kernel
theorem dL_isDesk_91 : decode cL_isDesk 91 = .ok (.if_icmp .ne 7, 3) := by decide +kernel
theorem dL_isDesk_94 : decode cL_isDesk 94 = .ok (.iconst 1, 1) := by decide +kernel
theorem dL_isDesk_95 : decode cL_isDesk 95 = .ok (.goto 4, 3) := by decide +kernel
theorem dL_isDesk_98 : decode cL_isDesk 98 = .ok (.iconst 0, 1) := by decide +kernel
theorem dL_isDesk_99 : decode cL_isDesk 99 = .ok (.istore 10, 2) := by decide +kernel
theorem dL_isDesk_101 : decode cL_isDesk 101 = .ok (.iinc 9 1, 3) := by decide +kernel
theorem dL_isDesk_104 : decode cL_isDesk 104 = .ok (.aload_n 1, 1) := by decide +kernel
theorem dL_isDesk_105 : decode cL_isDesk 105 = .ok (.aload_n 2, 1) := by decide +kernel
theorem dL_isDesk_106 : decode cL_isDesk 106 = .ok (.iload 11, 2) := by decide +kernel
theorem dL_isDesk_108 : decode cL_isDesk 108 = .ok (.invokestatic 67, 3) := by decide +kernel
theorem dL_isDesk_111 : decode cL_isDesk 111 = .ok (.istore 11, 2) := by decide +kernel
theorem dL_isDesk_113 : decode cL_isDesk 113 = .ok (.goto (-40), 3) := by decide +kernel
theorem dL_isDesk_116 : decode cL_isDesk 116 = .ok (.iconst 0, 1) := by decide +kernel
theorem dL_isDesk_117 : decode cL_isDesk 117 = .ok (.istore 11, 2) := by decide +kernel
theorem dL_isDesk_119 : decode cL_isDesk 119 = .ok (.iload 11, 2) := by decide +kernel
theorem dL_isDesk_121 : decode cL_isDesk 121 = .ok (.aload_n 1, 1) := by decide +kernel
theorem dL_isDesk_122 : decode cL_isDesk 122 = .ok (.iconst 0, 1) := by decide +kernel
theorem dL_isDesk_123 : decode cL_isDesk 123 = .ok (.iaload, 1) := by decide +kernel
theorem dL_isDesk_124 : decode cL_isDesk 124 = .ok (.if_icmp .ge 241, 3) := by decide +kernel
theorem dL_isDesk_127 : decode cL_isDesk 127 = .ok (.iload 10, 2) := by decide +kernel
theorem dL_isDesk_129 : decode cL_isDesk 129 = .ok (.ifCond .eq 236, 3) := by decide +kernel
theorem dL_isDesk_132 : decode cL_isDesk 132 = .ok (.aload_n 2, 1) := by decide +kernel
theorem dL_isDesk_133 : decode cL_isDesk 133 = .ok (.iload 11, 2) := by decide +kernel
theorem dL_isDesk_135 : decode cL_isDesk 135 = .ok (.invokestatic 7, 3) := by decide +kernel
theorem dL_isDesk_138 : decode cL_isDesk 138 = .ok (.ifCond .eq 221, 3) := by decide +kernel
theorem dL_isDesk_141 : decode cL_isDesk 141 = .ok (.iinc 8 1, 3) := by decide +kernel
theorem dL_isDesk_144 : decode cL_isDesk 144 = .ok (.iload 6, 2) := by decide +kernel
theorem dL_isDesk_146 : decode cL_isDesk 146 = .ok (.bipush 11, 2) := by decide +kernel
theorem dL_isDesk_148 : decode cL_isDesk 148 = .ok (.irem, 1) := by decide +kernel
theorem dL_isDesk_149 : decode cL_isDesk 149 = .ok (.istore 12, 2) := by decide +kernel
theorem dL_isDesk_151 : decode cL_isDesk 151 = .ok (.aload_n 1, 1) := by decide +kernel
theorem dL_isDesk_152 : decode cL_isDesk 152 = .ok (.aload_n 2, 1) := by decide +kernel
theorem dL_isDesk_153 : decode cL_isDesk 153 = .ok (.iload 11, 2) := by decide +kernel
theorem dL_isDesk_155 : decode cL_isDesk 155 = .ok (.iload 12, 2) := by decide +kernel
theorem dL_isDesk_157 : decode cL_isDesk 157 = .ok (.iconst 1, 1) := by decide +kernel
theorem dL_isDesk_158 : decode cL_isDesk 158 = .ok (.invokestatic 16, 3) := by decide +kernel
theorem dL_isDesk_161 : decode cL_isDesk 161 = .ok (.istore 13, 2) := by decide +kernel
theorem dL_isDesk_163 : decode cL_isDesk 163 = .ok (.aload_n 0, 1) := by decide +kernel
theorem dL_isDesk_164 : decode cL_isDesk 164 = .ok (.iload 11, 2) := by decide +kernel
theorem dL_isDesk_166 : decode cL_isDesk 166 = .ok (.invokevirtual 156, 3) := by decide +kernel
theorem dL_isDesk_169 : decode cL_isDesk 169 = .ok (.aload_n 2, 1) := by decide +kernel
theorem dL_isDesk_170 : decode cL_isDesk 170 = .ok (.bipush 6, 2) := by decide +kernel
theorem dL_isDesk_172 : decode cL_isDesk 172 = .ok (.iload 11, 2) := by decide +kernel
theorem dL_isDesk_174 : decode cL_isDesk 174 = .ok (.imul, 1) := by decide +kernel
theorem dL_isDesk_175 : decode cL_isDesk 175 = .ok (.iaload, 1) := by decide +kernel
theorem dL_isDesk_176 : decode cL_isDesk 176 = .ok (.if_icmp .ne 180, 3) := by decide +kernel
theorem dL_isDesk_179 : decode cL_isDesk 179 = .ok (.aload_n 0, 1) := by decide +kernel
theorem dL_isDesk_180 : decode cL_isDesk 180 = .ok (.iload 11, 2) := by decide +kernel
theorem dL_isDesk_182 : decode cL_isDesk 182 = .ok (.invokevirtual 159, 3) := by decide +kernel
theorem dL_isDesk_185 : decode cL_isDesk 185 = .ok (.aload_n 2, 1) := by decide +kernel
theorem dL_isDesk_186 : decode cL_isDesk 186 = .ok (.bipush 6, 2) := by decide +kernel
theorem dL_isDesk_188 : decode cL_isDesk 188 = .ok (.iload 11, 2) := by decide +kernel
theorem dL_isDesk_190 : decode cL_isDesk 190 = .ok (.imul, 1) := by decide +kernel
theorem dL_isDesk_191 : decode cL_isDesk 191 = .ok (.iconst 1, 1) := by decide +kernel
theorem dL_isDesk_192 : decode cL_isDesk 192 = .ok (.iadd, 1) := by decide +kernel
theorem dL_isDesk_193 : decode cL_isDesk 193 = .ok (.iaload, 1) := by decide +kernel
theorem dL_isDesk_194 : decode cL_isDesk 194 = .ok (.if_icmp .ne 162, 3) := by decide +kernel
theorem dL_isDesk_197 : decode cL_isDesk 197 = .ok (.aload_n 0, 1) := by decide +kernel
theorem dL_isDesk_198 : decode cL_isDesk 198 = .ok (.iload 11, 2) := by decide +kernel
theorem dL_isDesk_200 : decode cL_isDesk 200 = .ok (.invokevirtual 162, 3) := by decide +kernel
theorem dL_isDesk_203 : decode cL_isDesk 203 = .ok (.aload_n 1, 1) := by decide +kernel
theorem dL_isDesk_204 : decode cL_isDesk 204 = .ok (.aload_n 2, 1) := by decide +kernel
theorem dL_isDesk_205 : decode cL_isDesk 205 = .ok (.iload 11, 2) := by decide +kernel
theorem dL_isDesk_207 : decode cL_isDesk 207 = .ok (.invokestatic 71, 3) := by decide +kernel
theorem dL_isDesk_210 : decode cL_isDesk 210 = .ok (.if_icmp .ne 146, 3) := by decide +kernel
theorem dL_isDesk_213 : decode cL_isDesk 213 = .ok (.iload 13, 2) := by decide +kernel
theorem dL_isDesk_215 : decode cL_isDesk 215 = .ok (.ifCond .lt 30, 3) := by decide +kernel
theorem dL_isDesk_218 : decode cL_isDesk 218 = .ok (.aload_n 2, 1) := by decide +kernel
theorem dL_isDesk_219 : decode cL_isDesk 219 = .ok (.bipush 6, 2) := by decide +kernel
theorem dL_isDesk_221 : decode cL_isDesk 221 = .ok (.iload 13, 2) := by decide +kernel
theorem dL_isDesk_223 : decode cL_isDesk 223 = .ok (.imul, 1) := by decide +kernel
theorem dL_isDesk_224 : decode cL_isDesk 224 = .ok (.iconst 2, 1) := by decide +kernel
theorem dL_isDesk_225 : decode cL_isDesk 225 = .ok (.iadd, 1) := by decide +kernel
theorem dL_isDesk_226 : decode cL_isDesk 226 = .ok (.iaload, 1) := by decide +kernel
theorem dL_isDesk_227 : decode cL_isDesk 227 = .ok (.iload 12, 2) := by decide +kernel
theorem dL_isDesk_229 : decode cL_isDesk 229 = .ok (.if_icmp .ne 16, 3) := by decide +kernel
theorem dL_isDesk_232 : decode cL_isDesk 232 = .ok (.aload_n 0, 1) := by decide +kernel
theorem dL_isDesk_233 : decode cL_isDesk 233 = .ok (.iload 11, 2) := by decide +kernel
theorem dL_isDesk_235 : decode cL_isDesk 235 = .ok (.iload 12, 2) := by decide +kernel
theorem dL_isDesk_237 : decode cL_isDesk 237 = .ok (.invokevirtual 165, 3) := by decide +kernel
theorem dL_isDesk_240 : decode cL_isDesk 240 = .ok (.iload 13, 2) := by decide +kernel
theorem dL_isDesk_242 : decode cL_isDesk 242 = .ok (.if_icmp .ne 114, 3) := by decide +kernel
theorem dL_isDesk_245 : decode cL_isDesk 245 = .ok (.aload_n 0, 1) := by decide +kernel
theorem dL_isDesk_246 : decode cL_isDesk 246 = .ok (.iload 11, 2) := by decide +kernel
theorem dL_isDesk_248 : decode cL_isDesk 248 = .ok (.invokevirtual 168, 3) := by decide +kernel
theorem dL_isDesk_251 : decode cL_isDesk 251 = .ok (.aload_n 3, 1) := by decide +kernel
theorem dL_isDesk_252 : decode cL_isDesk 252 = .ok (.iload 11, 2) := by decide +kernel
theorem dL_isDesk_254 : decode cL_isDesk 254 = .ok (.laload, 1) := by decide +kernel
theorem dL_isDesk_255 : decode cL_isDesk 255 = .ok (.invokestatic 34, 3) := by decide +kernel
theorem dL_isDesk_258 : decode cL_isDesk 258 = .ok (.if_icmp .ne 98, 3) := by decide +kernel
theorem dL_isDesk_261 : decode cL_isDesk 261 = .ok (.aload_n 0, 1) := by decide +kernel
theorem dL_isDesk_262 : decode cL_isDesk 262 = .ok (.iload 11, 2) := by decide +kernel
theorem dL_isDesk_264 : decode cL_isDesk 264 = .ok (.invokevirtual 171, 3) := by decide +kernel
theorem dL_isDesk_267 : decode cL_isDesk 267 = .ok (.aload 5, 2) := by decide +kernel
theorem dL_isDesk_269 : decode cL_isDesk 269 = .ok (.iload 11, 2) := by decide +kernel
theorem dL_isDesk_271 : decode cL_isDesk 271 = .ok (.iaload, 1) := by decide +kernel
theorem dL_isDesk_272 : decode cL_isDesk 272 = .ok (.if_icmp .ne 84, 3) := by decide +kernel
theorem dL_isDesk_275 : decode cL_isDesk 275 = .ok (.aload_n 0, 1) := by decide +kernel
theorem dL_isDesk_276 : decode cL_isDesk 276 = .ok (.iload 11, 2) := by decide +kernel
theorem dL_isDesk_278 : decode cL_isDesk 278 = .ok (.invokevirtual 174, 3) := by decide +kernel
theorem dL_isDesk_281 : decode cL_isDesk 281 = .ok (.aload_n 2, 1) := by decide +kernel
theorem dL_isDesk_282 : decode cL_isDesk 282 = .ok (.bipush 6, 2) := by decide +kernel
theorem dL_isDesk_284 : decode cL_isDesk 284 = .ok (.iload 11, 2) := by decide +kernel
theorem dL_isDesk_286 : decode cL_isDesk 286 = .ok (.imul, 1) := by decide +kernel
theorem dL_isDesk_287 : decode cL_isDesk 287 = .ok (.iconst 3, 1) := by decide +kernel
theorem dL_isDesk_288 : decode cL_isDesk 288 = .ok (.iadd, 1) := by decide +kernel
theorem dL_isDesk_289 : decode cL_isDesk 289 = .ok (.iaload, 1) := by decide +kernel
theorem dL_isDesk_290 : decode cL_isDesk 290 = .ok (.iconst 4, 1) := by decide +kernel
theorem dL_isDesk_291 : decode cL_isDesk 291 = .ok (.iand, 1) := by decide +kernel
theorem dL_isDesk_292 : decode cL_isDesk 292 = .ok (.iconst 4, 1) := by decide +kernel
theorem dL_isDesk_293 : decode cL_isDesk 293 = .ok (.if_icmp .ne 7, 3) := by decide +kernel
theorem dL_isDesk_296 : decode cL_isDesk 296 = .ok (.iconst 1, 1) := by decide +kernel
theorem dL_isDesk_297 : decode cL_isDesk 297 = .ok (.goto 4, 3) := by decide +kernel
theorem dL_isDesk_300 : decode cL_isDesk 300 = .ok (.iconst 0, 1) := by decide +kernel
theorem dL_isDesk_301 : decode cL_isDesk 301 = .ok (.if_icmp .ne 55, 3) := by decide +kernel
theorem dL_isDesk_304 : decode cL_isDesk 304 = .ok (.aload_n 0, 1) := by decide +kernel
theorem dL_isDesk_305 : decode cL_isDesk 305 = .ok (.iload 11, 2) := by decide +kernel
theorem dL_isDesk_307 : decode cL_isDesk 307 = .ok (.invokevirtual 177, 3) := by decide +kernel
theorem dL_isDesk_310 : decode cL_isDesk 310 = .ok (.aload_n 2, 1) := by decide +kernel
theorem dL_isDesk_311 : decode cL_isDesk 311 = .ok (.bipush 6, 2) := by decide +kernel
theorem dL_isDesk_313 : decode cL_isDesk 313 = .ok (.iload 11, 2) := by decide +kernel
theorem dL_isDesk_315 : decode cL_isDesk 315 = .ok (.imul, 1) := by decide +kernel
theorem dL_isDesk_316 : decode cL_isDesk 316 = .ok (.iconst 5, 1) := by decide +kernel
theorem dL_isDesk_317 : decode cL_isDesk 317 = .ok (.iadd, 1) := by decide +kernel
theorem dL_isDesk_318 : decode cL_isDesk 318 = .ok (.iaload, 1) := by decide +kernel
theorem dL_isDesk_319 : decode cL_isDesk 319 = .ok (.if_icmp .ne 37, 3) := by decide +kernel
theorem dL_isDesk_322 : decode cL_isDesk 322 = .ok (.aload_n 0, 1) := by decide +kernel
theorem dL_isDesk_323 : decode cL_isDesk 323 = .ok (.iload 11, 2) := by decide +kernel
theorem dL_isDesk_325 : decode cL_isDesk 325 = .ok (.invokevirtual 180, 3) := by decide +kernel
theorem dL_isDesk_328 : decode cL_isDesk 328 = .ok (.aload_n 2, 1) := by decide +kernel
theorem dL_isDesk_329 : decode cL_isDesk 329 = .ok (.iload 11, 2) := by decide +kernel
theorem dL_isDesk_331 : decode cL_isDesk 331 = .ok (.invokestatic 101, 3) := by decide +kernel
theorem dL_isDesk_334 : decode cL_isDesk 334 = .ok (.if_icmp .ne 22, 3) := by decide +kernel
theorem dL_isDesk_337 : decode cL_isDesk 337 = .ok (.aload_n 0, 1) := by decide +kernel
theorem dL_isDesk_338 : decode cL_isDesk 338 = .ok (.iload 11, 2) := by decide +kernel
theorem dL_isDesk_340 : decode cL_isDesk 340 = .ok (.invokevirtual 182, 3) := by decide +kernel
theorem dL_isDesk_343 : decode cL_isDesk 343 = .ok (.aload_n 2, 1) := by decide +kernel
theorem dL_isDesk_344 : decode cL_isDesk 344 = .ok (.iload 11, 2) := by decide +kernel
theorem dL_isDesk_346 : decode cL_isDesk 346 = .ok (.invokestatic 30, 3) := by decide +kernel
theorem dL_isDesk_349 : decode cL_isDesk 349 = .ok (.if_icmp .ne 7, 3) := by decide +kernel
theorem dL_isDesk_352 : decode cL_isDesk 352 = .ok (.iconst 1, 1) := by decide +kernel
theorem dL_isDesk_353 : decode cL_isDesk 353 = .ok (.goto 4, 3) := by decide +kernel
theorem dL_isDesk_356 : decode cL_isDesk 356 = .ok (.iconst 0, 1) := by decide +kernel
theorem dL_isDesk_357 : decode cL_isDesk 357 = .ok (.istore 10, 2) := by decide +kernel
theorem dL_isDesk_359 : decode cL_isDesk 359 = .ok (.iinc 11 1, 3) := by decide +kernel
theorem dL_isDesk_362 : decode cL_isDesk 362 = .ok (.goto (-243), 3) := by decide +kernel
theorem dL_isDesk_365 : decode cL_isDesk 365 = .ok (.iload 6, 2) := by decide +kernel
theorem dL_isDesk_367 : decode cL_isDesk 367 = .ok (.aload_n 1, 1) := by decide +kernel
theorem dL_isDesk_368 : decode cL_isDesk 368 = .ok (.iconst 0, 1) := by decide +kernel
theorem dL_isDesk_369 : decode cL_isDesk 369 = .ok (.iaload, 1) := by decide +kernel
theorem dL_isDesk_370 : decode cL_isDesk 370 = .ok (.irem, 1) := by decide +kernel
theorem dL_isDesk_371 : decode cL_isDesk 371 = .ok (.istore 11, 2) := by decide +kernel
theorem dL_isDesk_373 : decode cL_isDesk 373 = .ok (.aload_n 2, 1) := by decide +kernel
theorem dL_isDesk_374 : decode cL_isDesk 374 = .ok (.iload 11, 2) := by decide +kernel
theorem dL_isDesk_376 : decode cL_isDesk 376 = .ok (.invokestatic 101, 3) := by decide +kernel
theorem dL_isDesk_379 : decode cL_isDesk 379 = .ok (.ifCond .eq 20, 3) := by decide +kernel
theorem dL_isDesk_382 : decode cL_isDesk 382 = .ok (.aload_n 1, 1) := by decide +kernel
theorem dL_isDesk_383 : decode cL_isDesk 383 = .ok (.aload_n 2, 1) := by decide +kernel
theorem dL_isDesk_384 : decode cL_isDesk 384 = .ok (.aload_n 3, 1) := by decide +kernel
theorem dL_isDesk_385 : decode cL_isDesk 385 = .ok (.aload 4, 2) := by decide +kernel
theorem dL_isDesk_387 : decode cL_isDesk 387 = .ok (.aload 5, 2) := by decide +kernel
theorem dL_isDesk_389 : decode cL_isDesk 389 = .ok (.iload 11, 2) := by decide +kernel
theorem dL_isDesk_391 : decode cL_isDesk 391 = .ok (.aload 7, 2) := by decide +kernel
theorem dL_isDesk_393 : decode cL_isDesk 393 = .ok (.invokestatic 184, 3) := by decide +kernel
theorem dL_isDesk_396 : decode cL_isDesk 396 = .ok (.goto 4, 3) := by decide +kernel
theorem dL_isDesk_399 : decode cL_isDesk 399 = .ok (.iconst 0, 1) := by decide +kernel
theorem dL_isDesk_400 : decode cL_isDesk 400 = .ok (.istore 12, 2) := by decide +kernel
theorem dL_isDesk_402 : decode cL_isDesk 402 = .ok (.iload 10, 2) := by decide +kernel
theorem dL_isDesk_404 : decode cL_isDesk 404 = .ok (.ifCond .eq 68, 3) := by decide +kernel
theorem dL_isDesk_407 : decode cL_isDesk 407 = .ok (.aload_n 0, 1) := by decide +kernel
theorem dL_isDesk_408 : decode cL_isDesk 408 = .ok (.invokevirtual 188, 3) := by decide +kernel
theorem dL_isDesk_411 : decode cL_isDesk 411 = .ok (.iload 8, 2) := by decide +kernel
theorem dL_isDesk_413 : decode cL_isDesk 413 = .ok (.if_icmp .ne 59, 3) := by decide +kernel
theorem dL_isDesk_416 : decode cL_isDesk 416 = .ok (.aload_n 0, 1) := by decide +kernel
theorem dL_isDesk_417 : decode cL_isDesk 417 = .ok (.invokevirtual 191, 3) := by decide +kernel
theorem dL_isDesk_420 : decode cL_isDesk 420 = .ok (.iload 9, 2) := by decide +kernel
theorem dL_isDesk_422 : decode cL_isDesk 422 = .ok (.if_icmp .ne 50, 3) := by decide +kernel
theorem dL_isDesk_425 : decode cL_isDesk 425 = .ok (.aload_n 0, 1) := by decide +kernel
theorem dL_isDesk_426 : decode cL_isDesk 426 = .ok (.bipush 6, 2) := by decide +kernel
theorem dL_isDesk_428 : decode cL_isDesk 428 = .ok (.iload 11, 2) := by decide +kernel
theorem dL_isDesk_430 : decode cL_isDesk 430 = .ok (.iconst 0, 1) := by decide +kernel
theorem dL_isDesk_431 : decode cL_isDesk 431 = .ok (.iconst 0, 1) := by decide +kernel
theorem dL_isDesk_432 : decode cL_isDesk 432 = .ok (.invokestatic 194, 3) := by decide +kernel
theorem dL_isDesk_435 : decode cL_isDesk 435 = .ok (.aload_n 2, 1) := by decide +kernel
theorem dL_isDesk_436 : decode cL_isDesk 436 = .ok (.iload 11, 2) := by decide +kernel
theorem dL_isDesk_438 : decode cL_isDesk 438 = .ok (.invokestatic 7, 3) := by decide +kernel
theorem dL_isDesk_441 : decode cL_isDesk 441 = .ok (.ifCond .ne 8, 3) := by decide +kernel
theorem dL_isDesk_444 : decode cL_isDesk 444 = .ok (.bipush (-11), 2) := by decide +kernel
theorem dL_isDesk_446 : decode cL_isDesk 446 = .ok (.goto 19, 3) := by decide +kernel
theorem dL_isDesk_449 : decode cL_isDesk 449 = .ok (.aload_n 2, 1) := by decide +kernel
theorem dL_isDesk_450 : decode cL_isDesk 450 = .ok (.iload 11, 2) := by decide +kernel
theorem dL_isDesk_452 : decode cL_isDesk 452 = .ok (.invokestatic 101, 3) := by decide +kernel
theorem dL_isDesk_455 : decode cL_isDesk 455 = .ok (.ifCond .ne 8, 3) := by decide +kernel
theorem dL_isDesk_458 : decode cL_isDesk 458 = .ok (.bipush (-13), 2) := by decide +kernel
theorem dL_isDesk_460 : decode cL_isDesk 460 = .ok (.goto 5, 3) := by decide +kernel
theorem dL_isDesk_463 : decode cL_isDesk 463 = .ok (.iload 12, 2) := by decide +kernel
theorem dL_isDesk_465 : decode cL_isDesk 465 = .ok (.if_icmp .ne 7, 3) := by decide +kernel
theorem dL_isDesk_468 : decode cL_isDesk 468 = .ok (.iconst 1, 1) := by decide +kernel
theorem dL_isDesk_469 : decode cL_isDesk 469 = .ok (.goto 4, 3) := by decide +kernel
theorem dL_isDesk_472 : decode cL_isDesk 472 = .ok (.iconst 0, 1) := by decide +kernel
theorem dL_isDesk_473 : decode cL_isDesk 473 = .ok (.istore 10, 2) := by decide +kernel
theorem dL_isDesk_475 : decode cL_isDesk 475 = .ok (.iconst 0, 1) := by decide +kernel
theorem dL_isDesk_476 : decode cL_isDesk 476 = .ok (.istore 13, 2) := by decide +kernel
theorem dL_isDesk_478 : decode cL_isDesk 478 = .ok (.iload 13, 2) := by decide +kernel
theorem dL_isDesk_480 : decode cL_isDesk 480 = .ok (.iload 12, 2) := by decide +kernel
theorem dL_isDesk_482 : decode cL_isDesk 482 = .ok (.if_icmp .ge 37, 3) := by decide +kernel
theorem dL_isDesk_485 : decode cL_isDesk 485 = .ok (.iload 10, 2) := by decide +kernel
theorem dL_isDesk_487 : decode cL_isDesk 487 = .ok (.ifCond .eq 32, 3) := by decide +kernel
theorem dL_isDesk_490 : decode cL_isDesk 490 = .ok (.aload_n 0, 1) := by decide +kernel
theorem dL_isDesk_491 : decode cL_isDesk 491 = .ok (.iload 11, 2) := by decide +kernel
theorem dL_isDesk_493 : decode cL_isDesk 493 = .ok (.iload 13, 2) := by decide +kernel
theorem dL_isDesk_495 : decode cL_isDesk 495 = .ok (.invokevirtual 130, 3) := by decide +kernel
theorem dL_isDesk_498 : decode cL_isDesk 498 = .ok (.aload 7, 2) := by decide +kernel
theorem dL_isDesk_500 : decode cL_isDesk 500 = .ok (.iload 13, 2) := by decide +kernel
theorem dL_isDesk_502 : decode cL_isDesk 502 = .ok (.iaload, 1) := by decide +kernel
theorem dL_isDesk_503 : decode cL_isDesk 503 = .ok (.if_icmp .ne 7, 3) := by decide +kernel
theorem dL_isDesk_506 : decode cL_isDesk 506 = .ok (.iconst 1, 1) := by decide +kernel
theorem dL_isDesk_507 : decode cL_isDesk 507 = .ok (.goto 4, 3) := by decide +kernel
theorem dL_isDesk_510 : decode cL_isDesk 510 = .ok (.iconst 0, 1) := by decide +kernel
theorem dL_isDesk_511 : decode cL_isDesk 511 = .ok (.istore 10, 2) := by decide +kernel
theorem dL_isDesk_513 : decode cL_isDesk 513 = .ok (.iinc 13 1, 3) := by decide +kernel
theorem dL_isDesk_516 : decode cL_isDesk 516 = .ok (.goto (-38), 3) := by decide +kernel
theorem dL_isDesk_519 : decode cL_isDesk 519 = .ok (.aload_n 1, 1) := by decide +kernel
theorem dL_isDesk_520 : decode cL_isDesk 520 = .ok (.aload_n 2, 1) := by decide +kernel
theorem dL_isDesk_521 : decode cL_isDesk 521 = .ok (.aload_n 3, 1) := by decide +kernel
theorem dL_isDesk_522 : decode cL_isDesk 522 = .ok (.aload 4, 2) := by decide +kernel
theorem dL_isDesk_524 : decode cL_isDesk 524 = .ok (.aload 5, 2) := by decide +kernel
theorem dL_isDesk_526 : decode cL_isDesk 526 = .ok (.aload 7, 2) := by decide +kernel
theorem dL_isDesk_528 : decode cL_isDesk 528 = .ok (.invokestatic 198, 3) := by decide +kernel
theorem dL_isDesk_531 : decode cL_isDesk 531 = .ok (.istore 13, 2) := by decide +kernel
theorem dL_isDesk_533 : decode cL_isDesk 533 = .ok (.iload 10, 2) := by decide +kernel
theorem dL_isDesk_535 : decode cL_isDesk 535 = .ok (.ifCond .eq 16, 3) := by decide +kernel
theorem dL_isDesk_538 : decode cL_isDesk 538 = .ok (.aload_n 0, 1) := by decide +kernel
theorem dL_isDesk_539 : decode cL_isDesk 539 = .ok (.invokevirtual 202, 3) := by decide +kernel
theorem dL_isDesk_542 : decode cL_isDesk 542 = .ok (.iload 13, 2) := by decide +kernel
theorem dL_isDesk_544 : decode cL_isDesk 544 = .ok (.if_icmp .ne 7, 3) := by decide +kernel
theorem dL_isDesk_547 : decode cL_isDesk 547 = .ok (.iconst 1, 1) := by decide +kernel
theorem dL_isDesk_548 : decode cL_isDesk 548 = .ok (.goto 4, 3) := by decide +kernel
theorem dL_isDesk_551 : decode cL_isDesk 551 = .ok (.iconst 0, 1) := by decide +kernel
theorem dL_isDesk_552 : decode cL_isDesk 552 = .ok (.istore 10, 2) := by decide +kernel
theorem dL_isDesk_554 : decode cL_isDesk 554 = .ok (.iconst 0, 1) := by decide +kernel
theorem dL_isDesk_555 : decode cL_isDesk 555 = .ok (.istore 14, 2) := by decide +kernel
theorem dL_isDesk_557 : decode cL_isDesk 557 = .ok (.iload 14, 2) := by decide +kernel
theorem dL_isDesk_559 : decode cL_isDesk 559 = .ok (.bipush 10, 2) := by decide +kernel
theorem dL_isDesk_561 : decode cL_isDesk 561 = .ok (.if_icmp .ge 69, 3) := by decide +kernel
theorem dL_isDesk_564 : decode cL_isDesk 564 = .ok (.iload 10, 2) := by decide +kernel
theorem dL_isDesk_566 : decode cL_isDesk 566 = .ok (.ifCond .eq 64, 3) := by decide +kernel
theorem dL_isDesk_569 : decode cL_isDesk 569 = .ok (.aload_n 1, 1) := by decide +kernel
theorem dL_isDesk_570 : decode cL_isDesk 570 = .ok (.iconst 3, 1) := by decide +kernel
theorem dL_isDesk_571 : decode cL_isDesk 571 = .ok (.iaload, 1) := by decide +kernel
theorem dL_isDesk_572 : decode cL_isDesk 572 = .ok (.iload 14, 2) := by decide +kernel
theorem dL_isDesk_574 : decode cL_isDesk 574 = .ok (.iadd, 1) := by decide +kernel
theorem dL_isDesk_575 : decode cL_isDesk 575 = .ok (.iload 13, 2) := by decide +kernel
theorem dL_isDesk_577 : decode cL_isDesk 577 = .ok (.if_icmp .ge 15, 3) := by decide +kernel
theorem dL_isDesk_580 : decode cL_isDesk 580 = .ok (.aload 7, 2) := by decide +kernel
theorem dL_isDesk_582 : decode cL_isDesk 582 = .ok (.aload_n 1, 1) := by decide +kernel
theorem dL_isDesk_583 : decode cL_isDesk 583 = .ok (.iconst 3, 1) := by decide +kernel
theorem dL_isDesk_584 : decode cL_isDesk 584 = .ok (.iaload, 1) := by decide +kernel
theorem dL_isDesk_585 : decode cL_isDesk 585 = .ok (.iload 14, 2) := by decide +kernel
theorem dL_isDesk_587 : decode cL_isDesk 587 = .ok (.iadd, 1) := by decide +kernel
theorem dL_isDesk_588 : decode cL_isDesk 588 = .ok (.iaload, 1) := by decide +kernel
theorem dL_isDesk_589 : decode cL_isDesk 589 = .ok (.goto 4, 3) := by decide +kernel
theorem dL_isDesk_592 : decode cL_isDesk 592 = .ok (.iconst 0, 1) := by decide +kernel
theorem dL_isDesk_593 : decode cL_isDesk 593 = .ok (.istore 15, 2) := by decide +kernel
theorem dL_isDesk_595 : decode cL_isDesk 595 = .ok (.aload_n 0, 1) := by decide +kernel
theorem dL_isDesk_596 : decode cL_isDesk 596 = .ok (.iload 14, 2) := by decide +kernel
theorem dL_isDesk_598 : decode cL_isDesk 598 = .ok (.invokevirtual 205, 3) := by decide +kernel
theorem dL_isDesk_601 : decode cL_isDesk 601 = .ok (.iload 15, 2) := by decide +kernel
theorem dL_isDesk_603 : decode cL_isDesk 603 = .ok (.if_icmp .ne 18, 3) := by decide +kernel
theorem dL_isDesk_606 : decode cL_isDesk 606 = .ok (.aload_n 0, 1) := by decide +kernel
theorem dL_isDesk_607 : decode cL_isDesk 607 = .ok (.iload 14, 2) := by decide +kernel
theorem dL_isDesk_609 : decode cL_isDesk 609 = .ok (.invokevirtual 208, 3) := by decide +kernel
theorem dL_isDesk_612 : decode cL_isDesk 612 = .ok (.iload 15, 2) := by decide +kernel
theorem dL_isDesk_614 : decode cL_isDesk 614 = .ok (.if_icmp .ne 7, 3) := by decide +kernel
theorem dL_isDesk_617 : decode cL_isDesk 617 = .ok (.iconst 1, 1) := by decide +kernel
theorem dL_isDesk_618 : decode cL_isDesk 618 = .ok (.goto 4, 3) := by decide +kernel
theorem dL_isDesk_621 : decode cL_isDesk 621 = .ok (.iconst 0, 1) := by decide +kernel
theorem dL_isDesk_622 : decode cL_isDesk 622 = .ok (.istore 10, 2) := by decide +kernel
theorem dL_isDesk_624 : decode cL_isDesk 624 = .ok (.iinc 14 1, 3) := by decide +kernel
theorem dL_isDesk_627 : decode cL_isDesk 627 = .ok (.goto (-70), 3) := by decide +kernel
theorem dL_isDesk_630 : decode cL_isDesk 630 = .ok (.iload 10, 2) := by decide +kernel
theorem dL_isDesk_632 : decode cL_isDesk 632 = .ok (.ireturn, 1) := by decide +kernel
abbrev mL_isDesk : gM := (yL_isDesk, cL_isDesk, 16, (Option.some FieldType.boolean), [])
set_option maxRecDepth 100000 in
theorem caL_isDesk : cal mL_isDesk 7 := ⟨xw 1132 rfl rfl, xw 28 (by decide +kernel) rfl, by decide, by decide +kernel⟩
theorem csL_isDesk : Cond.static yL_isDesk ∈ XW := xw 1131 (by decide +kernel) rfl
theorem lkL_139 : Cond.methodLink RL 139 yX10_cursor ∈ XW := xw 1133 (by decide +kernel) rfl
theorem lkL_143 : Cond.methodLink RL 143 yX10_focus ∈ XW := xw 1137 (by decide +kernel) rfl
theorem lkL_146 : Cond.methodLink RL 146 yX10_offset ∈ XW := xw 1141 (by decide +kernel) rfl
theorem lkL_149 : Cond.methodLink RL 149 yX10_isTyping ∈ XW := xw 1145 (by decide +kernel) rfl
theorem lkL_153 : Cond.methodLink RL 153 yX10_readingAt ∈ XW := xw 1149 (by decide +kernel) rfl
theorem lkL_156 : Cond.methodLink RL 156 yX10_kind ∈ XW := xw 1155 (by decide +kernel) rfl
theorem lkL_159 : Cond.methodLink RL 159 yX10_parent ∈ XW := xw 1159 (by decide +kernel) rfl
theorem lkL_162 : Cond.methodLink RL 162 yX10_children ∈ XW := xw 1163 (by decide +kernel) rfl
theorem lkL_168 : Cond.methodLink RL 168 yX10_nameLength ∈ XW := xw 1173 (by decide +kernel) rfl
theorem lkL_171 : Cond.methodLink RL 171 yX10_contentLength ∈ XW := xw 1177 (by decide +kernel) rfl
theorem lkL_174 : Cond.methodLink RL 174 yX10_isOn ∈ XW := xw 1181 (by decide +kernel) rfl
theorem lkL_177 : Cond.methodLink RL 177 yX10_presses ∈ XW := xw 1185 (by decide +kernel) rfl
theorem lkL_180 : Cond.methodLink RL 180 yX10_isShown ∈ XW := xw 1189 (by decide +kernel) rfl
theorem lkL_182 : Cond.methodLink RL 182 yX10_level ∈ XW := xw 1193 (by decide +kernel) rfl
theorem lkL_165 : Cond.methodLink RL 165 yX10_childAt ∈ XW := xw 1167 (by decide +kernel) rfl
theorem lkL_184 : Cond.methodLink RL 184 yL_words ∈ XW := xw 1198 (by decide +kernel) rfl
theorem lkL_188 : Cond.methodLink RL 188 yX10_elements ∈ XW := xw 1201 (by decide +kernel) rfl
theorem lkL_191 : Cond.methodLink RL 191 yX10_reading ∈ XW := xw 1205 (by decide +kernel) rfl
theorem lkL_194 : Cond.methodLink RL 194 yL_does ∈ XW := xw 949 (by decide +kernel) rfl
theorem lkL_198 : Cond.methodLink RL 198 yL_line ∈ XW := xw 883 (by decide +kernel) rfl
theorem lkL_202 : Cond.methodLink RL 202 yX10_lineLength ∈ XW := xw 1209 (by decide +kernel) rfl
theorem lkL_205 : Cond.methodLink RL 205 yX10_pin ∈ XW := xw 1213 (by decide +kernel) rfl
theorem lkL_208 : Cond.methodLink RL 208 yX10_pinAnew ∈ XW := xw 1230 (by decide +kernel) rfl
/-! isDesk -/
theorem lL_isDesk_73 {G : gG} {Q : hQ} {KE : (Int32 × Int32) → Prop} {k n : Nat} (c0 : (Option Nat)) (c1 : (Option Nat)) (c2 : (Option Nat)) (c3 : (Option Nat)) (c4 : (Option Nat)) (c5 : (Option Nat)) (c6 : Int32) (c7 : (Option Nat)) (c8 : Int32) (h : hp) (hJ : ∀ q : (Int32 × Int32), KE q → gV G mL_isDesk 56 Q 116 [some (sr c0), some (sr c1), some (sr c2), some (sr c3), some (sr c4), some (sr c5), some (si c6), some (sr c7), some (si c8), some (si q.1), some (si q.2), none, none, none, none, none] [] (k) (n) h) : ∀ (fu : Nat) (a : (Int32 × Int32 × Int32)), itrW (fL_isDesk_B73 c0 c1 c2 c3 c4 c5 c6 c7 c8 h) fu a KE → gV G mL_isDesk 56 Q 73 [some (sr c0), some (sr c1), some (sr c2), some (sr c3), some (sr c4), some (sr c5), some (si c6), some (sr c7), some (si c8), some (si a.1), some (si a.2.1), some (si a.2.2), none, none, none, none] [] (1 * fu + k) (6 * fu + n) h :=
  lpW (X := fun (m : Nat) (a : (Int32 × Int32 × Int32)) => gV G mL_isDesk 56 Q 73 [some (sr c0), some (sr c1), some (sr c2), some (sr c3), some (sr c4), some (sr c5), some (si c6), some (sr c7), some (si c8), some (si a.1), some (si a.2.1), some (si a.2.2), none, none, none, none] [] (1 * m + k) (6 * m + n) h) (fun m a P1 hL hF => by
    delta fL_isDesk_B73 at hF
    refine v_room (k' := 1 * m + k + 1) (n' := 6 * m + n + 6) (by omega) (by omega) ?_
    refine v_iload (pc := 73) (i := 11) dL_isDesk_73 rfl ?_
    refine v_if_lt (pc := 75) 116 dL_isDesk_75 rfl (fun hc => ?_) (fun hc => ?_)
    · replace hF := (ifP hF).1 hc
      exact v_room (k' := k) (n' := n) (by omega) (by omega) <| v_lle [some (sr c0), some (sr c1), some (sr c2), some (sr c3), some (sr c4), some (sr c5), some (si c6), some (sr c7), some (si c8), some (si a.1), some (si a.2.1), none, none, none, none, none] ⟨rfl, rfl, rfl, rfl, rfl, rfl, rfl, rfl, rfl, rfl, rfl, trivial⟩ (hJ (a.1, a.2.1) hF)
    replace hF := (ifP hF).2 hc
    refine v_iload (pc := 78) (i := 10) dL_isDesk_78 rfl ?_
    refine v_if_eq (pc := 80) 116 dL_isDesk_80 rfl (fun hc => ?_) (fun hc => ?_)
    · replace hF := (ifP hF).1 hc
      exact v_room (k' := k) (n' := n) (by omega) (by omega) <| v_lle [some (sr c0), some (sr c1), some (sr c2), some (sr c3), some (sr c4), some (sr c5), some (si c6), some (sr c7), some (si c8), some (si a.1), some (si a.2.1), none, none, none, none, none] ⟨rfl, rfl, rfl, rfl, rfl, rfl, rfl, rfl, rfl, rfl, rfl, trivial⟩ (hJ (a.1, a.2.1) hF)
    replace hF := (ifP hF).2 hc
    refine v_aload_n (pc := 83) (i := 0) dL_isDesk_83 rfl rfl ?_
    refine v_iload (pc := 84) (i := 9) dL_isDesk_84 rfl ?_
    refine yc_V (pc := 86) gI (as := [si a.1]) (st := []) (ci := 9) (N := mX10_readingAt) (k := 1 * m + k + 0) (n := 6 * m + n + 0) (k1 := 1) (n1 := 6) dL_isDesk_86 lkL_153 caX10_readingAt cvX10_readingAt rfl (by decide) rfl (fun b Q1 hq => tX10_readingAt b a.1 h Q1 hq) ⟨by decide, by decide⟩ (Nat.le_of_ble_eq_true rfl) hF (fun x1 hF => ?_)
    show gV G mL_isDesk 56 Q 89 [some (sr c0), some (sr c1), some (sr c2), some (sr c3), some (sr c4), some (sr c5), some (si c6), some (sr c7), some (si c8), some (si a.1), some (si a.2.1), some (si a.2.2), none, none, none, none] [si x1] (1 * m + k + 0) (6 * m + n + 0) h
    refine v_iload (pc := 89) (i := 11) dL_isDesk_89 rfl ?_
    refine mgW (X := fun q2 => gV G mL_isDesk 56 Q 99 [some (sr c0), some (sr c1), some (sr c2), some (sr c3), some (sr c4), some (sr c5), some (si c6), some (sr c7), some (si c8), some (si a.1), none, some (si a.2.2), none, none, none, none] [si q2] (1 * m + k + 0) (6 * m + n + 0) h) hF (fun K2 hj2 hF => ?_) (fun q2 hF => ?_)
    · refine v_icmp_ne (pc := 91) 98 dL_isDesk_91 rfl (fun hc => ?_) (fun hc => ?_)
      · replace hF := (ifP hF).2 hc
        refine v_iconst (pc := 98) (v := (0 : Int32)) dL_isDesk_98 rfl ?_
        exact v_lle [some (sr c0), some (sr c1), some (sr c2), some (sr c3), some (sr c4), some (sr c5), some (si c6), some (sr c7), some (si c8), some (si a.1), none, some (si a.2.2), none, none, none, none] ⟨rfl, rfl, rfl, rfl, rfl, rfl, rfl, rfl, rfl, rfl, rfl, trivial⟩ (hj2 (0 : Int32) hF)
      replace hF := (ifP hF).1 hc
      refine v_iconst (pc := 94) (v := (1 : Int32)) dL_isDesk_94 rfl ?_
      refine v_goto (pc := 95) 99 dL_isDesk_95 rfl ?_
      exact v_lle [some (sr c0), some (sr c1), some (sr c2), some (sr c3), some (sr c4), some (sr c5), some (si c6), some (sr c7), some (si c8), some (si a.1), none, some (si a.2.2), none, none, none, none] ⟨rfl, rfl, rfl, rfl, rfl, rfl, rfl, rfl, rfl, rfl, rfl, trivial⟩ (hj2 (1 : Int32) hF)
    refine v_istore (pc := 99) (i := 10) [some (sr c0), some (sr c1), some (sr c2), some (sr c3), some (sr c4), some (sr c5), some (si c6), some (sr c7), some (si c8), some (si a.1), some (si q2), some (si a.2.2), none, none, none, none] dL_isDesk_99 (by decide) rfl rfl ?_
    refine v_iinc (pc := 101) (i := 9) (a.1 + (1 : Int32)) [some (sr c0), some (sr c1), some (sr c2), some (sr c3), some (sr c4), some (sr c5), some (si c6), some (sr c7), some (si c8), some (si (a.1 + (1 : Int32))), some (si q2), some (si a.2.2), none, none, none, none] dL_isDesk_101 rfl rfl rfl rfl ?_
    refine v_aload_n (pc := 104) (i := 1) dL_isDesk_104 rfl rfl ?_
    refine v_aload_n (pc := 105) (i := 2) dL_isDesk_105 rfl rfl ?_
    refine v_iload (pc := 106) (i := 11) dL_isDesk_106 rfl ?_
    refine yp_S (pc := 108) gI (as := [sr c1, sr c2, si a.2.2]) (st := []) (N := mL_next) (k := 1 * m + k + 0) (n := 6 * m + n + 0) (k1 := 0) (n1 := 0) dL_isDesk_108 lkL_67 caL_next csL_next rfl (fun Q1 hq => tL_next c1 c2 a.2.2 h Q1 hq) ⟨by decide, by decide⟩ (Nat.le_of_ble_eq_true rfl) hF (fun x3 hF => ?_)
    show gV G mL_isDesk 56 Q 111 [some (sr c0), some (sr c1), some (sr c2), some (sr c3), some (sr c4), some (sr c5), some (si c6), some (sr c7), some (si c8), some (si (a.1 + (1 : Int32))), some (si q2), some (si a.2.2), none, none, none, none] [si x3] (1 * m + k + 0) (6 * m + n + 0) h
    refine v_istore (pc := 111) (i := 11) [some (sr c0), some (sr c1), some (sr c2), some (sr c3), some (sr c4), some (sr c5), some (si c6), some (sr c7), some (si c8), some (si (a.1 + (1 : Int32))), some (si q2), some (si x3), none, none, none, none] dL_isDesk_111 (by decide) rfl rfl ?_
    refine v_goto (pc := 113) 73 dL_isDesk_113 rfl ?_
    exact v_room (k' := 1 * m + k) (n' := 6 * m + n) (by omega) (by omega) <| v_lle [some (sr c0), some (sr c1), some (sr c2), some (sr c3), some (sr c4), some (sr c5), some (si c6), some (sr c7), some (si c8), some (si (a.1 + (1 : Int32))), some (si q2), some (si x3), none, none, none, none] ⟨rfl, rfl, rfl, rfl, rfl, rfl, rfl, rfl, rfl, rfl, rfl, rfl, trivial⟩ (hL (a.1 + (1 : Int32), q2, x3) hF))
theorem lL_isDesk_119 {G : gG} {Q : hQ} {KE : (Int32 × Int32) → Prop} {k n : Nat} (c0 : (Option Nat)) (c1 : (Option Nat)) (c2 : (Option Nat)) (c3 : (Option Nat)) (c4 : (Option Nat)) (c5 : (Option Nat)) (c6 : Int32) (c7 : (Option Nat)) (c9 : Int32) (h : hp) (hJ : ∀ q : (Int32 × Int32), KE q → gV G mL_isDesk 56 Q 365 [some (sr c0), some (sr c1), some (sr c2), some (sr c3), some (sr c4), some (sr c5), some (si c6), some (sr c7), some (si q.1), some (si c9), some (si q.2), none, none, none, none, none] [] (k) (n) h) : ∀ (fu : Nat) (a : (Int32 × Int32 × Int32)), itrW (fL_isDesk_B119 c0 c1 c2 c3 c4 c5 c6 c7 c9 h) fu a KE → gV G mL_isDesk 56 Q 119 [some (sr c0), some (sr c1), some (sr c2), some (sr c3), some (sr c4), some (sr c5), some (si c6), some (sr c7), some (si a.1), some (si c9), some (si a.2.1), some (si a.2.2), none, none, none, none] [] (11 * fu + k) (66 * fu + n) h :=
  lpW (X := fun (m : Nat) (a : (Int32 × Int32 × Int32)) => gV G mL_isDesk 56 Q 119 [some (sr c0), some (sr c1), some (sr c2), some (sr c3), some (sr c4), some (sr c5), some (si c6), some (sr c7), some (si a.1), some (si c9), some (si a.2.1), some (si a.2.2), none, none, none, none] [] (11 * m + k) (66 * m + n) h) (fun m a P1 hL hF => by
    delta fL_isDesk_B119 at hF
    refine v_room (k' := 11 * m + k + 11) (n' := 66 * m + n + 66) (by omega) (by omega) ?_
    refine v_iload (pc := 119) (i := 11) dL_isDesk_119 rfl ?_
    refine v_aload_n (pc := 121) (i := 1) dL_isDesk_121 rfl rfl ?_
    refine v_iconst (pc := 122) (v := (0 : Int32)) dL_isDesk_122 rfl ?_
    refine s_iald (f := some) (pc := 123) dL_isDesk_123 (okB_bs hF) (fun x1 hF => ?_)
    replace hF := okB_some hF
    refine v_icmp_ge (pc := 124) 365 dL_isDesk_124 rfl (fun hc => ?_) (fun hc => ?_)
    · replace hF := (ifP hF).1 hc
      exact v_room (k' := k) (n' := n) (by omega) (by omega) <| v_lle [some (sr c0), some (sr c1), some (sr c2), some (sr c3), some (sr c4), some (sr c5), some (si c6), some (sr c7), some (si a.1), some (si c9), some (si a.2.1), none, none, none, none, none] ⟨rfl, rfl, rfl, rfl, rfl, rfl, rfl, rfl, rfl, rfl, rfl, trivial⟩ (hJ (a.1, a.2.1) hF)
    replace hF := (ifP hF).2 hc
    refine v_iload (pc := 127) (i := 10) dL_isDesk_127 rfl ?_
    refine v_if_eq (pc := 129) 365 dL_isDesk_129 rfl (fun hc => ?_) (fun hc => ?_)
    · replace hF := (ifP hF).1 hc
      exact v_room (k' := k) (n' := n) (by omega) (by omega) <| v_lle [some (sr c0), some (sr c1), some (sr c2), some (sr c3), some (sr c4), some (sr c5), some (si c6), some (sr c7), some (si a.1), some (si c9), some (si a.2.1), none, none, none, none, none] ⟨rfl, rfl, rfl, rfl, rfl, rfl, rfl, rfl, rfl, rfl, rfl, trivial⟩ (hJ (a.1, a.2.1) hF)
    replace hF := (ifP hF).2 hc
    refine v_aload_n (pc := 132) (i := 2) dL_isDesk_132 rfl rfl ?_
    refine v_iload (pc := 133) (i := 11) dL_isDesk_133 rfl ?_
    refine yp_S (pc := 135) gI (as := [sr c2, si a.2.2]) (st := []) (N := mL_isThere) (k := 11 * m + k + 11) (n := 66 * m + n + 66) (k1 := 0) (n1 := 0) dL_isDesk_135 lkL_7 caL_isThere csL_isThere rfl (fun Q1 hq => tL_isThere c2 a.2.2 h Q1 hq) ⟨by decide, by decide⟩ (Nat.le_of_ble_eq_true rfl) hF (fun x2 hF => ?_)
    show gV G mL_isDesk 56 Q 138 [some (sr c0), some (sr c1), some (sr c2), some (sr c3), some (sr c4), some (sr c5), some (si c6), some (sr c7), some (si a.1), some (si c9), some (si a.2.1), some (si a.2.2), none, none, none, none] [si x2] (11 * m + k + 11) (66 * m + n + 66) h
    refine v_if_eq (pc := 138) 359 dL_isDesk_138 rfl (fun hc => ?_) (fun hc => ?_)
    · replace hF := (ifP hF).1 hc
      refine v_iinc (pc := 359) (i := 11) (a.2.2 + (1 : Int32)) [some (sr c0), some (sr c1), some (sr c2), some (sr c3), some (sr c4), some (sr c5), some (si c6), some (sr c7), some (si a.1), some (si c9), some (si a.2.1), some (si (a.2.2 + (1 : Int32))), none, none, none, none] dL_isDesk_359 rfl rfl rfl rfl ?_
      refine v_goto (pc := 362) 119 dL_isDesk_362 rfl ?_
      exact v_room (k' := 11 * m + k) (n' := 66 * m + n) (by omega) (by omega) <| v_lle [some (sr c0), some (sr c1), some (sr c2), some (sr c3), some (sr c4), some (sr c5), some (si c6), some (sr c7), some (si a.1), some (si c9), some (si a.2.1), some (si (a.2.2 + (1 : Int32))), none, none, none, none] ⟨rfl, rfl, rfl, rfl, rfl, rfl, rfl, rfl, rfl, rfl, rfl, rfl, trivial⟩ (hL (a.1, a.2.1, a.2.2 + (1 : Int32)) hF)
    replace hF := (ifP hF).2 hc
    refine v_iinc (pc := 141) (i := 8) (a.1 + (1 : Int32)) [some (sr c0), some (sr c1), some (sr c2), some (sr c3), some (sr c4), some (sr c5), some (si c6), some (sr c7), some (si (a.1 + (1 : Int32))), some (si c9), some (si a.2.1), some (si a.2.2), none, none, none, none] dL_isDesk_141 rfl rfl rfl rfl ?_
    refine v_iload (pc := 144) (i := 6) dL_isDesk_144 rfl ?_
    refine v_bipush (pc := 146) (v := (11 : Int32)) dL_isDesk_146 rfl ?_
    refine s_irem (f := some) (pc := 148) dL_isDesk_148 (okB_bs hF) (fun hF => ?_)
    replace hF := okB_some hF
    refine v_istore (pc := 149) (i := 12) [some (sr c0), some (sr c1), some (sr c2), some (sr c3), some (sr c4), some (sr c5), some (si c6), some (sr c7), some (si (a.1 + (1 : Int32))), some (si c9), some (si a.2.1), some (si a.2.2), some (si (c6 - c6 / (11 : Int32) * (11 : Int32))), none, none, none] dL_isDesk_149 (by decide) rfl rfl ?_
    refine v_aload_n (pc := 151) (i := 1) dL_isDesk_151 rfl rfl ?_
    refine v_aload_n (pc := 152) (i := 2) dL_isDesk_152 rfl rfl ?_
    refine v_iload (pc := 153) (i := 11) dL_isDesk_153 rfl ?_
    refine v_iload (pc := 155) (i := 12) dL_isDesk_155 rfl ?_
    refine v_iconst (pc := 157) (v := (1 : Int32)) dL_isDesk_157 rfl ?_
    refine yp_S (pc := 158) gI (as := [sr c1, sr c2, si a.2.2, si (c6 - c6 / (11 : Int32) * (11 : Int32)), si (1 : Int32)]) (st := []) (N := mL_kid) (k := 11 * m + k + 11) (n := 66 * m + n + 66) (k1 := 0) (n1 := 0) dL_isDesk_158 lkL_16 caL_kid csL_kid rfl (fun Q1 hq => tL_kid c1 c2 a.2.2 (c6 - c6 / (11 : Int32) * (11 : Int32)) (1 : Int32) h Q1 hq) ⟨by decide, by decide⟩ (Nat.le_of_ble_eq_true rfl) hF (fun x3 hF => ?_)
    show gV G mL_isDesk 56 Q 161 [some (sr c0), some (sr c1), some (sr c2), some (sr c3), some (sr c4), some (sr c5), some (si c6), some (sr c7), some (si (a.1 + (1 : Int32))), some (si c9), some (si a.2.1), some (si a.2.2), some (si (c6 - c6 / (11 : Int32) * (11 : Int32))), none, none, none] [si x3] (11 * m + k + 11) (66 * m + n + 66) h
    refine v_istore (pc := 161) (i := 13) [some (sr c0), some (sr c1), some (sr c2), some (sr c3), some (sr c4), some (sr c5), some (si c6), some (sr c7), some (si (a.1 + (1 : Int32))), some (si c9), some (si a.2.1), some (si a.2.2), some (si (c6 - c6 / (11 : Int32) * (11 : Int32))), some (si x3), none, none] dL_isDesk_161 (by decide) rfl rfl ?_
    refine v_aload_n (pc := 163) (i := 0) dL_isDesk_163 rfl rfl ?_
    refine v_iload (pc := 164) (i := 11) dL_isDesk_164 rfl ?_
    refine yc_V (pc := 166) gI (as := [si a.2.2]) (st := []) (ci := 9) (N := mX10_kind) (k := 11 * m + k + 10) (n := 66 * m + n + 60) (k1 := 1) (n1 := 6) dL_isDesk_166 lkL_156 caX10_kind cvX10_kind rfl (by decide) rfl (fun b Q1 hq => tX10_kind b a.2.2 h Q1 hq) ⟨by decide, by decide⟩ (Nat.le_of_ble_eq_true rfl) hF (fun x4 hF => ?_)
    show gV G mL_isDesk 56 Q 169 [some (sr c0), some (sr c1), some (sr c2), some (sr c3), some (sr c4), some (sr c5), some (si c6), some (sr c7), some (si (a.1 + (1 : Int32))), some (si c9), some (si a.2.1), some (si a.2.2), some (si (c6 - c6 / (11 : Int32) * (11 : Int32))), some (si x3), none, none] [si x4] (11 * m + k + 10) (66 * m + n + 60) h
    refine v_aload_n (pc := 169) (i := 2) dL_isDesk_169 rfl rfl ?_
    refine v_bipush (pc := 170) (v := (6 : Int32)) dL_isDesk_170 rfl ?_
    refine v_iload (pc := 172) (i := 11) dL_isDesk_172 rfl ?_
    refine v_imul (pc := 174) dL_isDesk_174 ?_
    refine s_iald (f := some) (pc := 175) dL_isDesk_175 (okB_bs hF) (fun x5 hF => ?_)
    replace hF := okB_some hF
    refine v_icmp_ne (pc := 176) 356 dL_isDesk_176 rfl (fun hc => ?_) (fun hc => ?_)
    · replace hF := (ifP hF).2 hc
      refine v_iconst (pc := 356) (v := (0 : Int32)) dL_isDesk_356 rfl ?_
      refine v_istore (pc := 357) (i := 10) [some (sr c0), some (sr c1), some (sr c2), some (sr c3), some (sr c4), some (sr c5), some (si c6), some (sr c7), some (si (a.1 + (1 : Int32))), some (si c9), some (si (0 : Int32)), some (si a.2.2), some (si (c6 - c6 / (11 : Int32) * (11 : Int32))), some (si x3), none, none] dL_isDesk_357 (by decide) rfl rfl ?_
      refine v_iinc (pc := 359) (i := 11) (a.2.2 + (1 : Int32)) [some (sr c0), some (sr c1), some (sr c2), some (sr c3), some (sr c4), some (sr c5), some (si c6), some (sr c7), some (si (a.1 + (1 : Int32))), some (si c9), some (si (0 : Int32)), some (si (a.2.2 + (1 : Int32))), some (si (c6 - c6 / (11 : Int32) * (11 : Int32))), some (si x3), none, none] dL_isDesk_359 rfl rfl rfl rfl ?_
      refine v_goto (pc := 362) 119 dL_isDesk_362 rfl ?_
      exact v_room (k' := 11 * m + k) (n' := 66 * m + n) (by omega) (by omega) <| v_lle [some (sr c0), some (sr c1), some (sr c2), some (sr c3), some (sr c4), some (sr c5), some (si c6), some (sr c7), some (si (a.1 + (1 : Int32))), some (si c9), some (si (0 : Int32)), some (si (a.2.2 + (1 : Int32))), none, none, none, none] ⟨rfl, rfl, rfl, rfl, rfl, rfl, rfl, rfl, rfl, rfl, rfl, rfl, trivial⟩ (hL (a.1 + (1 : Int32), (0 : Int32), a.2.2 + (1 : Int32)) hF)
    replace hF := (ifP hF).1 hc
    refine v_aload_n (pc := 179) (i := 0) dL_isDesk_179 rfl rfl ?_
    refine v_iload (pc := 180) (i := 11) dL_isDesk_180 rfl ?_
    refine yc_V (pc := 182) gI (as := [si a.2.2]) (st := []) (ci := 9) (N := mX10_parent) (k := 11 * m + k + 9) (n := 66 * m + n + 54) (k1 := 1) (n1 := 6) dL_isDesk_182 lkL_159 caX10_parent cvX10_parent rfl (by decide) rfl (fun b Q1 hq => tX10_parent b a.2.2 h Q1 hq) ⟨by decide, by decide⟩ (Nat.le_of_ble_eq_true rfl) hF (fun x6 hF => ?_)
    show gV G mL_isDesk 56 Q 185 [some (sr c0), some (sr c1), some (sr c2), some (sr c3), some (sr c4), some (sr c5), some (si c6), some (sr c7), some (si (a.1 + (1 : Int32))), some (si c9), some (si a.2.1), some (si a.2.2), some (si (c6 - c6 / (11 : Int32) * (11 : Int32))), some (si x3), none, none] [si x6] (11 * m + k + 9) (66 * m + n + 54) h
    refine v_aload_n (pc := 185) (i := 2) dL_isDesk_185 rfl rfl ?_
    refine v_bipush (pc := 186) (v := (6 : Int32)) dL_isDesk_186 rfl ?_
    refine v_iload (pc := 188) (i := 11) dL_isDesk_188 rfl ?_
    refine v_imul (pc := 190) dL_isDesk_190 ?_
    refine v_iconst (pc := 191) (v := (1 : Int32)) dL_isDesk_191 rfl ?_
    refine v_iadd (pc := 192) dL_isDesk_192 ?_
    refine s_iald (f := some) (pc := 193) dL_isDesk_193 (okB_bs hF) (fun x7 hF => ?_)
    replace hF := okB_some hF
    refine v_icmp_ne (pc := 194) 356 dL_isDesk_194 rfl (fun hc => ?_) (fun hc => ?_)
    · replace hF := (ifP hF).2 hc
      refine v_iconst (pc := 356) (v := (0 : Int32)) dL_isDesk_356 rfl ?_
      refine v_istore (pc := 357) (i := 10) [some (sr c0), some (sr c1), some (sr c2), some (sr c3), some (sr c4), some (sr c5), some (si c6), some (sr c7), some (si (a.1 + (1 : Int32))), some (si c9), some (si (0 : Int32)), some (si a.2.2), some (si (c6 - c6 / (11 : Int32) * (11 : Int32))), some (si x3), none, none] dL_isDesk_357 (by decide) rfl rfl ?_
      refine v_iinc (pc := 359) (i := 11) (a.2.2 + (1 : Int32)) [some (sr c0), some (sr c1), some (sr c2), some (sr c3), some (sr c4), some (sr c5), some (si c6), some (sr c7), some (si (a.1 + (1 : Int32))), some (si c9), some (si (0 : Int32)), some (si (a.2.2 + (1 : Int32))), some (si (c6 - c6 / (11 : Int32) * (11 : Int32))), some (si x3), none, none] dL_isDesk_359 rfl rfl rfl rfl ?_
      refine v_goto (pc := 362) 119 dL_isDesk_362 rfl ?_
      exact v_room (k' := 11 * m + k) (n' := 66 * m + n) (by omega) (by omega) <| v_lle [some (sr c0), some (sr c1), some (sr c2), some (sr c3), some (sr c4), some (sr c5), some (si c6), some (sr c7), some (si (a.1 + (1 : Int32))), some (si c9), some (si (0 : Int32)), some (si (a.2.2 + (1 : Int32))), none, none, none, none] ⟨rfl, rfl, rfl, rfl, rfl, rfl, rfl, rfl, rfl, rfl, rfl, rfl, trivial⟩ (hL (a.1 + (1 : Int32), (0 : Int32), a.2.2 + (1 : Int32)) hF)
    replace hF := (ifP hF).1 hc
    refine v_aload_n (pc := 197) (i := 0) dL_isDesk_197 rfl rfl ?_
    refine v_iload (pc := 198) (i := 11) dL_isDesk_198 rfl ?_
    refine yc_V (pc := 200) gI (as := [si a.2.2]) (st := []) (ci := 9) (N := mX10_children) (k := 11 * m + k + 8) (n := 66 * m + n + 48) (k1 := 1) (n1 := 6) dL_isDesk_200 lkL_162 caX10_children cvX10_children rfl (by decide) rfl (fun b Q1 hq => tX10_children b a.2.2 h Q1 hq) ⟨by decide, by decide⟩ (Nat.le_of_ble_eq_true rfl) hF (fun x8 hF => ?_)
    show gV G mL_isDesk 56 Q 203 [some (sr c0), some (sr c1), some (sr c2), some (sr c3), some (sr c4), some (sr c5), some (si c6), some (sr c7), some (si (a.1 + (1 : Int32))), some (si c9), some (si a.2.1), some (si a.2.2), some (si (c6 - c6 / (11 : Int32) * (11 : Int32))), some (si x3), none, none] [si x8] (11 * m + k + 8) (66 * m + n + 48) h
    refine v_aload_n (pc := 203) (i := 1) dL_isDesk_203 rfl rfl ?_
    refine v_aload_n (pc := 204) (i := 2) dL_isDesk_204 rfl rfl ?_
    refine v_iload (pc := 205) (i := 11) dL_isDesk_205 rfl ?_
    refine yp_S (pc := 207) gI (as := [sr c1, sr c2, si a.2.2]) (st := [si x8]) (N := mL_kids) (k := 11 * m + k + 8) (n := 66 * m + n + 48) (k1 := 0) (n1 := 0) dL_isDesk_207 lkL_71 caL_kids csL_kids rfl (fun Q1 hq => tL_kids c1 c2 a.2.2 h Q1 hq) ⟨by decide, by decide⟩ (Nat.le_of_ble_eq_true rfl) hF (fun x9 hF => ?_)
    show gV G mL_isDesk 56 Q 210 [some (sr c0), some (sr c1), some (sr c2), some (sr c3), some (sr c4), some (sr c5), some (si c6), some (sr c7), some (si (a.1 + (1 : Int32))), some (si c9), some (si a.2.1), some (si a.2.2), some (si (c6 - c6 / (11 : Int32) * (11 : Int32))), some (si x3), none, none] [si x9, si x8] (11 * m + k + 8) (66 * m + n + 48) h
    refine v_icmp_ne (pc := 210) 356 dL_isDesk_210 rfl (fun hc => ?_) (fun hc => ?_)
    · replace hF := (ifP hF).2 hc
      refine v_iconst (pc := 356) (v := (0 : Int32)) dL_isDesk_356 rfl ?_
      refine v_istore (pc := 357) (i := 10) [some (sr c0), some (sr c1), some (sr c2), some (sr c3), some (sr c4), some (sr c5), some (si c6), some (sr c7), some (si (a.1 + (1 : Int32))), some (si c9), some (si (0 : Int32)), some (si a.2.2), some (si (c6 - c6 / (11 : Int32) * (11 : Int32))), some (si x3), none, none] dL_isDesk_357 (by decide) rfl rfl ?_
      refine v_iinc (pc := 359) (i := 11) (a.2.2 + (1 : Int32)) [some (sr c0), some (sr c1), some (sr c2), some (sr c3), some (sr c4), some (sr c5), some (si c6), some (sr c7), some (si (a.1 + (1 : Int32))), some (si c9), some (si (0 : Int32)), some (si (a.2.2 + (1 : Int32))), some (si (c6 - c6 / (11 : Int32) * (11 : Int32))), some (si x3), none, none] dL_isDesk_359 rfl rfl rfl rfl ?_
      refine v_goto (pc := 362) 119 dL_isDesk_362 rfl ?_
      exact v_room (k' := 11 * m + k) (n' := 66 * m + n) (by omega) (by omega) <| v_lle [some (sr c0), some (sr c1), some (sr c2), some (sr c3), some (sr c4), some (sr c5), some (si c6), some (sr c7), some (si (a.1 + (1 : Int32))), some (si c9), some (si (0 : Int32)), some (si (a.2.2 + (1 : Int32))), none, none, none, none] ⟨rfl, rfl, rfl, rfl, rfl, rfl, rfl, rfl, rfl, rfl, rfl, rfl, trivial⟩ (hL (a.1 + (1 : Int32), (0 : Int32), a.2.2 + (1 : Int32)) hF)
    replace hF := (ifP hF).1 hc
    refine v_iload (pc := 213) (i := 13) dL_isDesk_213 rfl ?_
    refine v_if_lt (pc := 215) 245 dL_isDesk_215 rfl (fun hc => ?_) (fun hc => ?_)
    · replace hF := (ifP hF).1 hc
      refine v_aload_n (pc := 245) (i := 0) dL_isDesk_245 rfl rfl ?_
      refine v_iload (pc := 246) (i := 11) dL_isDesk_246 rfl ?_
      refine yc_V (pc := 248) gI (as := [si a.2.2]) (st := []) (ci := 9) (N := mX10_nameLength) (k := 11 * m + k + 7) (n := 66 * m + n + 42) (k1 := 1) (n1 := 6) dL_isDesk_248 lkL_168 caX10_nameLength cvX10_nameLength rfl (by decide) rfl (fun b Q1 hq => tX10_nameLength b a.2.2 h Q1 hq) ⟨by decide, by decide⟩ (Nat.le_of_ble_eq_true rfl) hF (fun x10 hF => ?_)
      show gV G mL_isDesk 56 Q 251 [some (sr c0), some (sr c1), some (sr c2), some (sr c3), some (sr c4), some (sr c5), some (si c6), some (sr c7), some (si (a.1 + (1 : Int32))), some (si c9), some (si a.2.1), some (si a.2.2), some (si (c6 - c6 / (11 : Int32) * (11 : Int32))), some (si x3), none, none] [si x10] (11 * m + k + 7) (66 * m + n + 42) h
      refine v_aload_n (pc := 251) (i := 3) dL_isDesk_251 rfl rfl ?_
      refine v_iload (pc := 252) (i := 11) dL_isDesk_252 rfl ?_
      refine s_lald (f := some) (pc := 254) dL_isDesk_254 (okB_bs hF) (fun x11 hF => ?_)
      replace hF := okB_some hF
      refine yp_S (pc := 255) gI (as := [sl x11]) (st := [si x10]) (N := mL_nameMany) (k := 11 * m + k + 7) (n := 66 * m + n + 42) (k1 := 0) (n1 := 0) dL_isDesk_255 lkL_34 caL_nameMany csL_nameMany rfl (fun Q1 hq => tL_nameMany x11 h Q1 hq) ⟨by decide, by decide⟩ (Nat.le_of_ble_eq_true rfl) hF (fun x12 hF => ?_)
      show gV G mL_isDesk 56 Q 258 [some (sr c0), some (sr c1), some (sr c2), some (sr c3), some (sr c4), some (sr c5), some (si c6), some (sr c7), some (si (a.1 + (1 : Int32))), some (si c9), some (si a.2.1), some (si a.2.2), some (si (c6 - c6 / (11 : Int32) * (11 : Int32))), some (si x3), none, none] [si x12, si x10] (11 * m + k + 7) (66 * m + n + 42) h
      refine v_icmp_ne (pc := 258) 356 dL_isDesk_258 rfl (fun hc => ?_) (fun hc => ?_)
      · replace hF := (ifP hF).2 hc
        refine v_iconst (pc := 356) (v := (0 : Int32)) dL_isDesk_356 rfl ?_
        refine v_istore (pc := 357) (i := 10) [some (sr c0), some (sr c1), some (sr c2), some (sr c3), some (sr c4), some (sr c5), some (si c6), some (sr c7), some (si (a.1 + (1 : Int32))), some (si c9), some (si (0 : Int32)), some (si a.2.2), some (si (c6 - c6 / (11 : Int32) * (11 : Int32))), some (si x3), none, none] dL_isDesk_357 (by decide) rfl rfl ?_
        refine v_iinc (pc := 359) (i := 11) (a.2.2 + (1 : Int32)) [some (sr c0), some (sr c1), some (sr c2), some (sr c3), some (sr c4), some (sr c5), some (si c6), some (sr c7), some (si (a.1 + (1 : Int32))), some (si c9), some (si (0 : Int32)), some (si (a.2.2 + (1 : Int32))), some (si (c6 - c6 / (11 : Int32) * (11 : Int32))), some (si x3), none, none] dL_isDesk_359 rfl rfl rfl rfl ?_
        refine v_goto (pc := 362) 119 dL_isDesk_362 rfl ?_
        exact v_room (k' := 11 * m + k) (n' := 66 * m + n) (by omega) (by omega) <| v_lle [some (sr c0), some (sr c1), some (sr c2), some (sr c3), some (sr c4), some (sr c5), some (si c6), some (sr c7), some (si (a.1 + (1 : Int32))), some (si c9), some (si (0 : Int32)), some (si (a.2.2 + (1 : Int32))), none, none, none, none] ⟨rfl, rfl, rfl, rfl, rfl, rfl, rfl, rfl, rfl, rfl, rfl, rfl, trivial⟩ (hL (a.1 + (1 : Int32), (0 : Int32), a.2.2 + (1 : Int32)) hF)
      replace hF := (ifP hF).1 hc
      refine v_aload_n (pc := 261) (i := 0) dL_isDesk_261 rfl rfl ?_
      refine v_iload (pc := 262) (i := 11) dL_isDesk_262 rfl ?_
      refine yc_V (pc := 264) gI (as := [si a.2.2]) (st := []) (ci := 9) (N := mX10_contentLength) (k := 11 * m + k + 6) (n := 66 * m + n + 36) (k1 := 1) (n1 := 6) dL_isDesk_264 lkL_171 caX10_contentLength cvX10_contentLength rfl (by decide) rfl (fun b Q1 hq => tX10_contentLength b a.2.2 h Q1 hq) ⟨by decide, by decide⟩ (Nat.le_of_ble_eq_true rfl) hF (fun x13 hF => ?_)
      show gV G mL_isDesk 56 Q 267 [some (sr c0), some (sr c1), some (sr c2), some (sr c3), some (sr c4), some (sr c5), some (si c6), some (sr c7), some (si (a.1 + (1 : Int32))), some (si c9), some (si a.2.1), some (si a.2.2), some (si (c6 - c6 / (11 : Int32) * (11 : Int32))), some (si x3), none, none] [si x13] (11 * m + k + 6) (66 * m + n + 36) h
      refine v_aload (pc := 267) (i := 5) dL_isDesk_267 rfl ?_
      refine v_iload (pc := 269) (i := 11) dL_isDesk_269 rfl ?_
      refine s_iald (f := some) (pc := 271) dL_isDesk_271 (okB_bs hF) (fun x14 hF => ?_)
      replace hF := okB_some hF
      refine v_icmp_ne (pc := 272) 356 dL_isDesk_272 rfl (fun hc => ?_) (fun hc => ?_)
      · replace hF := (ifP hF).2 hc
        refine v_iconst (pc := 356) (v := (0 : Int32)) dL_isDesk_356 rfl ?_
        refine v_istore (pc := 357) (i := 10) [some (sr c0), some (sr c1), some (sr c2), some (sr c3), some (sr c4), some (sr c5), some (si c6), some (sr c7), some (si (a.1 + (1 : Int32))), some (si c9), some (si (0 : Int32)), some (si a.2.2), some (si (c6 - c6 / (11 : Int32) * (11 : Int32))), some (si x3), none, none] dL_isDesk_357 (by decide) rfl rfl ?_
        refine v_iinc (pc := 359) (i := 11) (a.2.2 + (1 : Int32)) [some (sr c0), some (sr c1), some (sr c2), some (sr c3), some (sr c4), some (sr c5), some (si c6), some (sr c7), some (si (a.1 + (1 : Int32))), some (si c9), some (si (0 : Int32)), some (si (a.2.2 + (1 : Int32))), some (si (c6 - c6 / (11 : Int32) * (11 : Int32))), some (si x3), none, none] dL_isDesk_359 rfl rfl rfl rfl ?_
        refine v_goto (pc := 362) 119 dL_isDesk_362 rfl ?_
        exact v_room (k' := 11 * m + k) (n' := 66 * m + n) (by omega) (by omega) <| v_lle [some (sr c0), some (sr c1), some (sr c2), some (sr c3), some (sr c4), some (sr c5), some (si c6), some (sr c7), some (si (a.1 + (1 : Int32))), some (si c9), some (si (0 : Int32)), some (si (a.2.2 + (1 : Int32))), none, none, none, none] ⟨rfl, rfl, rfl, rfl, rfl, rfl, rfl, rfl, rfl, rfl, rfl, rfl, trivial⟩ (hL (a.1 + (1 : Int32), (0 : Int32), a.2.2 + (1 : Int32)) hF)
      replace hF := (ifP hF).1 hc
      refine v_aload_n (pc := 275) (i := 0) dL_isDesk_275 rfl rfl ?_
      refine v_iload (pc := 276) (i := 11) dL_isDesk_276 rfl ?_
      refine yc_V (pc := 278) gI (as := [si a.2.2]) (st := []) (ci := 9) (N := mX10_isOn) (k := 11 * m + k + 5) (n := 66 * m + n + 30) (k1 := 1) (n1 := 6) dL_isDesk_278 lkL_174 caX10_isOn cvX10_isOn rfl (by decide) rfl (fun b Q1 hq => tX10_isOn b a.2.2 h Q1 hq) ⟨by decide, by decide⟩ (Nat.le_of_ble_eq_true rfl) hF (fun x15 hF => ?_)
      show gV G mL_isDesk 56 Q 281 [some (sr c0), some (sr c1), some (sr c2), some (sr c3), some (sr c4), some (sr c5), some (si c6), some (sr c7), some (si (a.1 + (1 : Int32))), some (si c9), some (si a.2.1), some (si a.2.2), some (si (c6 - c6 / (11 : Int32) * (11 : Int32))), some (si x3), none, none] [si x15] (11 * m + k + 5) (66 * m + n + 30) h
      refine v_aload_n (pc := 281) (i := 2) dL_isDesk_281 rfl rfl ?_
      refine v_bipush (pc := 282) (v := (6 : Int32)) dL_isDesk_282 rfl ?_
      refine v_iload (pc := 284) (i := 11) dL_isDesk_284 rfl ?_
      refine v_imul (pc := 286) dL_isDesk_286 ?_
      refine v_iconst (pc := 287) (v := (3 : Int32)) dL_isDesk_287 rfl ?_
      refine v_iadd (pc := 288) dL_isDesk_288 ?_
      refine s_iald (f := some) (pc := 289) dL_isDesk_289 (okB_bs hF) (fun x16 hF => ?_)
      replace hF := okB_some hF
      refine v_iconst (pc := 290) (v := (4 : Int32)) dL_isDesk_290 rfl ?_
      refine v_iand (pc := 291) dL_isDesk_291 ?_
      refine v_iconst (pc := 292) (v := (4 : Int32)) dL_isDesk_292 rfl ?_
      refine mgW (X := fun q17 => gV G mL_isDesk 56 Q 301 [some (sr c0), some (sr c1), some (sr c2), some (sr c3), some (sr c4), some (sr c5), some (si c6), some (sr c7), some (si (a.1 + (1 : Int32))), some (si c9), none, some (si a.2.2), none, none, none, none] [si q17, si x15] (11 * m + k + 3) (66 * m + n + 18) h) hF (fun K17 hj17 hF => ?_) (fun q17 hF => ?_)
      · refine v_icmp_ne (pc := 293) 300 dL_isDesk_293 rfl (fun hc => ?_) (fun hc => ?_)
        · replace hF := (ifP hF).2 hc
          refine v_iconst (pc := 300) (v := (0 : Int32)) dL_isDesk_300 rfl ?_
          exact v_room (k' := 11 * m + k + 3) (n' := 66 * m + n + 18) (by omega) (by omega) <| v_lle [some (sr c0), some (sr c1), some (sr c2), some (sr c3), some (sr c4), some (sr c5), some (si c6), some (sr c7), some (si (a.1 + (1 : Int32))), some (si c9), none, some (si a.2.2), none, none, none, none] ⟨rfl, rfl, rfl, rfl, rfl, rfl, rfl, rfl, rfl, rfl, rfl, trivial⟩ (hj17 (0 : Int32) hF)
        replace hF := (ifP hF).1 hc
        refine v_iconst (pc := 296) (v := (1 : Int32)) dL_isDesk_296 rfl ?_
        refine v_goto (pc := 297) 301 dL_isDesk_297 rfl ?_
        exact v_room (k' := 11 * m + k + 3) (n' := 66 * m + n + 18) (by omega) (by omega) <| v_lle [some (sr c0), some (sr c1), some (sr c2), some (sr c3), some (sr c4), some (sr c5), some (si c6), some (sr c7), some (si (a.1 + (1 : Int32))), some (si c9), none, some (si a.2.2), none, none, none, none] ⟨rfl, rfl, rfl, rfl, rfl, rfl, rfl, rfl, rfl, rfl, rfl, trivial⟩ (hj17 (1 : Int32) hF)
      refine v_icmp_ne (pc := 301) 356 dL_isDesk_301 rfl (fun hc => ?_) (fun hc => ?_)
      · replace hF := (ifP hF).2 hc
        refine v_iconst (pc := 356) (v := (0 : Int32)) dL_isDesk_356 rfl ?_
        refine v_istore (pc := 357) (i := 10) [some (sr c0), some (sr c1), some (sr c2), some (sr c3), some (sr c4), some (sr c5), some (si c6), some (sr c7), some (si (a.1 + (1 : Int32))), some (si c9), some (si (0 : Int32)), some (si a.2.2), none, none, none, none] dL_isDesk_357 (by decide) rfl rfl ?_
        refine v_iinc (pc := 359) (i := 11) (a.2.2 + (1 : Int32)) [some (sr c0), some (sr c1), some (sr c2), some (sr c3), some (sr c4), some (sr c5), some (si c6), some (sr c7), some (si (a.1 + (1 : Int32))), some (si c9), some (si (0 : Int32)), some (si (a.2.2 + (1 : Int32))), none, none, none, none] dL_isDesk_359 rfl rfl rfl rfl ?_
        refine v_goto (pc := 362) 119 dL_isDesk_362 rfl ?_
        exact v_room (k' := 11 * m + k) (n' := 66 * m + n) (by omega) (by omega) <| v_lle [some (sr c0), some (sr c1), some (sr c2), some (sr c3), some (sr c4), some (sr c5), some (si c6), some (sr c7), some (si (a.1 + (1 : Int32))), some (si c9), some (si (0 : Int32)), some (si (a.2.2 + (1 : Int32))), none, none, none, none] ⟨rfl, rfl, rfl, rfl, rfl, rfl, rfl, rfl, rfl, rfl, rfl, rfl, trivial⟩ (hL (a.1 + (1 : Int32), (0 : Int32), a.2.2 + (1 : Int32)) hF)
      replace hF := (ifP hF).1 hc
      refine v_aload_n (pc := 304) (i := 0) dL_isDesk_304 rfl rfl ?_
      refine v_iload (pc := 305) (i := 11) dL_isDesk_305 rfl ?_
      refine yc_V (pc := 307) gI (as := [si a.2.2]) (st := []) (ci := 9) (N := mX10_presses) (k := 11 * m + k + 2) (n := 66 * m + n + 12) (k1 := 1) (n1 := 6) dL_isDesk_307 lkL_177 caX10_presses cvX10_presses rfl (by decide) rfl (fun b Q1 hq => tX10_presses b a.2.2 h Q1 hq) ⟨by decide, by decide⟩ (Nat.le_of_ble_eq_true rfl) hF (fun x18 hF => ?_)
      show gV G mL_isDesk 56 Q 310 [some (sr c0), some (sr c1), some (sr c2), some (sr c3), some (sr c4), some (sr c5), some (si c6), some (sr c7), some (si (a.1 + (1 : Int32))), some (si c9), none, some (si a.2.2), none, none, none, none] [si x18] (11 * m + k + 2) (66 * m + n + 12) h
      refine v_aload_n (pc := 310) (i := 2) dL_isDesk_310 rfl rfl ?_
      refine v_bipush (pc := 311) (v := (6 : Int32)) dL_isDesk_311 rfl ?_
      refine v_iload (pc := 313) (i := 11) dL_isDesk_313 rfl ?_
      refine v_imul (pc := 315) dL_isDesk_315 ?_
      refine v_iconst (pc := 316) (v := (5 : Int32)) dL_isDesk_316 rfl ?_
      refine v_iadd (pc := 317) dL_isDesk_317 ?_
      refine s_iald (f := some) (pc := 318) dL_isDesk_318 (okB_bs hF) (fun x19 hF => ?_)
      replace hF := okB_some hF
      refine v_icmp_ne (pc := 319) 356 dL_isDesk_319 rfl (fun hc => ?_) (fun hc => ?_)
      · replace hF := (ifP hF).2 hc
        refine v_iconst (pc := 356) (v := (0 : Int32)) dL_isDesk_356 rfl ?_
        refine v_istore (pc := 357) (i := 10) [some (sr c0), some (sr c1), some (sr c2), some (sr c3), some (sr c4), some (sr c5), some (si c6), some (sr c7), some (si (a.1 + (1 : Int32))), some (si c9), some (si (0 : Int32)), some (si a.2.2), none, none, none, none] dL_isDesk_357 (by decide) rfl rfl ?_
        refine v_iinc (pc := 359) (i := 11) (a.2.2 + (1 : Int32)) [some (sr c0), some (sr c1), some (sr c2), some (sr c3), some (sr c4), some (sr c5), some (si c6), some (sr c7), some (si (a.1 + (1 : Int32))), some (si c9), some (si (0 : Int32)), some (si (a.2.2 + (1 : Int32))), none, none, none, none] dL_isDesk_359 rfl rfl rfl rfl ?_
        refine v_goto (pc := 362) 119 dL_isDesk_362 rfl ?_
        exact v_room (k' := 11 * m + k) (n' := 66 * m + n) (by omega) (by omega) <| v_lle [some (sr c0), some (sr c1), some (sr c2), some (sr c3), some (sr c4), some (sr c5), some (si c6), some (sr c7), some (si (a.1 + (1 : Int32))), some (si c9), some (si (0 : Int32)), some (si (a.2.2 + (1 : Int32))), none, none, none, none] ⟨rfl, rfl, rfl, rfl, rfl, rfl, rfl, rfl, rfl, rfl, rfl, rfl, trivial⟩ (hL (a.1 + (1 : Int32), (0 : Int32), a.2.2 + (1 : Int32)) hF)
      replace hF := (ifP hF).1 hc
      refine v_aload_n (pc := 322) (i := 0) dL_isDesk_322 rfl rfl ?_
      refine v_iload (pc := 323) (i := 11) dL_isDesk_323 rfl ?_
      refine yc_V (pc := 325) gI (as := [si a.2.2]) (st := []) (ci := 9) (N := mX10_isShown) (k := 11 * m + k + 1) (n := 66 * m + n + 6) (k1 := 1) (n1 := 6) dL_isDesk_325 lkL_180 caX10_isShown cvX10_isShown rfl (by decide) rfl (fun b Q1 hq => tX10_isShown b a.2.2 h Q1 hq) ⟨by decide, by decide⟩ (Nat.le_of_ble_eq_true rfl) hF (fun x20 hF => ?_)
      show gV G mL_isDesk 56 Q 328 [some (sr c0), some (sr c1), some (sr c2), some (sr c3), some (sr c4), some (sr c5), some (si c6), some (sr c7), some (si (a.1 + (1 : Int32))), some (si c9), none, some (si a.2.2), none, none, none, none] [si x20] (11 * m + k + 1) (66 * m + n + 6) h
      refine v_aload_n (pc := 328) (i := 2) dL_isDesk_328 rfl rfl ?_
      refine v_iload (pc := 329) (i := 11) dL_isDesk_329 rfl ?_
      refine yp_S (pc := 331) gI (as := [sr c2, si a.2.2]) (st := [si x20]) (N := mL_isShown) (k := 11 * m + k + 1) (n := 66 * m + n + 6) (k1 := 0) (n1 := 0) dL_isDesk_331 lkL_101 caL_isShown csL_isShown rfl (fun Q1 hq => tL_isShown c2 a.2.2 h Q1 hq) ⟨by decide, by decide⟩ (Nat.le_of_ble_eq_true rfl) hF (fun x21 hF => ?_)
      show gV G mL_isDesk 56 Q 334 [some (sr c0), some (sr c1), some (sr c2), some (sr c3), some (sr c4), some (sr c5), some (si c6), some (sr c7), some (si (a.1 + (1 : Int32))), some (si c9), none, some (si a.2.2), none, none, none, none] [si x21, si x20] (11 * m + k + 1) (66 * m + n + 6) h
      refine v_icmp_ne (pc := 334) 356 dL_isDesk_334 rfl (fun hc => ?_) (fun hc => ?_)
      · replace hF := (ifP hF).2 hc
        refine v_iconst (pc := 356) (v := (0 : Int32)) dL_isDesk_356 rfl ?_
        refine v_istore (pc := 357) (i := 10) [some (sr c0), some (sr c1), some (sr c2), some (sr c3), some (sr c4), some (sr c5), some (si c6), some (sr c7), some (si (a.1 + (1 : Int32))), some (si c9), some (si (0 : Int32)), some (si a.2.2), none, none, none, none] dL_isDesk_357 (by decide) rfl rfl ?_
        refine v_iinc (pc := 359) (i := 11) (a.2.2 + (1 : Int32)) [some (sr c0), some (sr c1), some (sr c2), some (sr c3), some (sr c4), some (sr c5), some (si c6), some (sr c7), some (si (a.1 + (1 : Int32))), some (si c9), some (si (0 : Int32)), some (si (a.2.2 + (1 : Int32))), none, none, none, none] dL_isDesk_359 rfl rfl rfl rfl ?_
        refine v_goto (pc := 362) 119 dL_isDesk_362 rfl ?_
        exact v_room (k' := 11 * m + k) (n' := 66 * m + n) (by omega) (by omega) <| v_lle [some (sr c0), some (sr c1), some (sr c2), some (sr c3), some (sr c4), some (sr c5), some (si c6), some (sr c7), some (si (a.1 + (1 : Int32))), some (si c9), some (si (0 : Int32)), some (si (a.2.2 + (1 : Int32))), none, none, none, none] ⟨rfl, rfl, rfl, rfl, rfl, rfl, rfl, rfl, rfl, rfl, rfl, rfl, trivial⟩ (hL (a.1 + (1 : Int32), (0 : Int32), a.2.2 + (1 : Int32)) hF)
      replace hF := (ifP hF).1 hc
      refine v_aload_n (pc := 337) (i := 0) dL_isDesk_337 rfl rfl ?_
      refine v_iload (pc := 338) (i := 11) dL_isDesk_338 rfl ?_
      refine yc_V (pc := 340) gI (as := [si a.2.2]) (st := []) (ci := 9) (N := mX10_level) (k := 11 * m + k + 0) (n := 66 * m + n + 0) (k1 := 1) (n1 := 6) dL_isDesk_340 lkL_182 caX10_level cvX10_level rfl (by decide) rfl (fun b Q1 hq => tX10_level b a.2.2 h Q1 hq) ⟨by decide, by decide⟩ (Nat.le_of_ble_eq_true rfl) hF (fun x22 hF => ?_)
      show gV G mL_isDesk 56 Q 343 [some (sr c0), some (sr c1), some (sr c2), some (sr c3), some (sr c4), some (sr c5), some (si c6), some (sr c7), some (si (a.1 + (1 : Int32))), some (si c9), none, some (si a.2.2), none, none, none, none] [si x22] (11 * m + k + 0) (66 * m + n + 0) h
      refine v_aload_n (pc := 343) (i := 2) dL_isDesk_343 rfl rfl ?_
      refine v_iload (pc := 344) (i := 11) dL_isDesk_344 rfl ?_
      refine yp_S (pc := 346) gI (as := [sr c2, si a.2.2]) (st := [si x22]) (N := mL_level) (k := 11 * m + k + 0) (n := 66 * m + n + 0) (k1 := 0) (n1 := 0) dL_isDesk_346 lkL_30 caL_level csL_level rfl (fun Q1 hq => tL_level c2 a.2.2 h Q1 hq) ⟨by decide, by decide⟩ (Nat.le_of_ble_eq_true rfl) hF (fun x23 hF => ?_)
      show gV G mL_isDesk 56 Q 349 [some (sr c0), some (sr c1), some (sr c2), some (sr c3), some (sr c4), some (sr c5), some (si c6), some (sr c7), some (si (a.1 + (1 : Int32))), some (si c9), none, some (si a.2.2), none, none, none, none] [si x23, si x22] (11 * m + k + 0) (66 * m + n + 0) h
      refine v_icmp_ne (pc := 349) 356 dL_isDesk_349 rfl (fun hc => ?_) (fun hc => ?_)
      · replace hF := (ifP hF).2 hc
        refine v_iconst (pc := 356) (v := (0 : Int32)) dL_isDesk_356 rfl ?_
        refine v_istore (pc := 357) (i := 10) [some (sr c0), some (sr c1), some (sr c2), some (sr c3), some (sr c4), some (sr c5), some (si c6), some (sr c7), some (si (a.1 + (1 : Int32))), some (si c9), some (si (0 : Int32)), some (si a.2.2), none, none, none, none] dL_isDesk_357 (by decide) rfl rfl ?_
        refine v_iinc (pc := 359) (i := 11) (a.2.2 + (1 : Int32)) [some (sr c0), some (sr c1), some (sr c2), some (sr c3), some (sr c4), some (sr c5), some (si c6), some (sr c7), some (si (a.1 + (1 : Int32))), some (si c9), some (si (0 : Int32)), some (si (a.2.2 + (1 : Int32))), none, none, none, none] dL_isDesk_359 rfl rfl rfl rfl ?_
        refine v_goto (pc := 362) 119 dL_isDesk_362 rfl ?_
        exact v_room (k' := 11 * m + k) (n' := 66 * m + n) (by omega) (by omega) <| v_lle [some (sr c0), some (sr c1), some (sr c2), some (sr c3), some (sr c4), some (sr c5), some (si c6), some (sr c7), some (si (a.1 + (1 : Int32))), some (si c9), some (si (0 : Int32)), some (si (a.2.2 + (1 : Int32))), none, none, none, none] ⟨rfl, rfl, rfl, rfl, rfl, rfl, rfl, rfl, rfl, rfl, rfl, rfl, trivial⟩ (hL (a.1 + (1 : Int32), (0 : Int32), a.2.2 + (1 : Int32)) hF)
      replace hF := (ifP hF).1 hc
      refine v_iconst (pc := 352) (v := (1 : Int32)) dL_isDesk_352 rfl ?_
      refine v_goto (pc := 353) 357 dL_isDesk_353 rfl ?_
      refine v_istore (pc := 357) (i := 10) [some (sr c0), some (sr c1), some (sr c2), some (sr c3), some (sr c4), some (sr c5), some (si c6), some (sr c7), some (si (a.1 + (1 : Int32))), some (si c9), some (si (1 : Int32)), some (si a.2.2), none, none, none, none] dL_isDesk_357 (by decide) rfl rfl ?_
      refine v_iinc (pc := 359) (i := 11) (a.2.2 + (1 : Int32)) [some (sr c0), some (sr c1), some (sr c2), some (sr c3), some (sr c4), some (sr c5), some (si c6), some (sr c7), some (si (a.1 + (1 : Int32))), some (si c9), some (si (1 : Int32)), some (si (a.2.2 + (1 : Int32))), none, none, none, none] dL_isDesk_359 rfl rfl rfl rfl ?_
      refine v_goto (pc := 362) 119 dL_isDesk_362 rfl ?_
      exact v_room (k' := 11 * m + k) (n' := 66 * m + n) (by omega) (by omega) <| v_lle [some (sr c0), some (sr c1), some (sr c2), some (sr c3), some (sr c4), some (sr c5), some (si c6), some (sr c7), some (si (a.1 + (1 : Int32))), some (si c9), some (si (1 : Int32)), some (si (a.2.2 + (1 : Int32))), none, none, none, none] ⟨rfl, rfl, rfl, rfl, rfl, rfl, rfl, rfl, rfl, rfl, rfl, rfl, trivial⟩ (hL (a.1 + (1 : Int32), (1 : Int32), a.2.2 + (1 : Int32)) hF)
    replace hF := (ifP hF).2 hc
    refine v_aload_n (pc := 218) (i := 2) dL_isDesk_218 rfl rfl ?_
    refine v_bipush (pc := 219) (v := (6 : Int32)) dL_isDesk_219 rfl ?_
    refine v_iload (pc := 221) (i := 13) dL_isDesk_221 rfl ?_
    refine v_imul (pc := 223) dL_isDesk_223 ?_
    refine v_iconst (pc := 224) (v := (2 : Int32)) dL_isDesk_224 rfl ?_
    refine v_iadd (pc := 225) dL_isDesk_225 ?_
    refine s_iald (f := some) (pc := 226) dL_isDesk_226 (okB_bs hF) (fun x24 hF => ?_)
    replace hF := okB_some hF
    refine v_iload (pc := 227) (i := 12) dL_isDesk_227 rfl ?_
    refine v_icmp_ne (pc := 229) 245 dL_isDesk_229 rfl (fun hc => ?_) (fun hc => ?_)
    · replace hF := (ifP hF).2 hc
      refine v_aload_n (pc := 245) (i := 0) dL_isDesk_245 rfl rfl ?_
      refine v_iload (pc := 246) (i := 11) dL_isDesk_246 rfl ?_
      refine yc_V (pc := 248) gI (as := [si a.2.2]) (st := []) (ci := 9) (N := mX10_nameLength) (k := 11 * m + k + 7) (n := 66 * m + n + 42) (k1 := 1) (n1 := 6) dL_isDesk_248 lkL_168 caX10_nameLength cvX10_nameLength rfl (by decide) rfl (fun b Q1 hq => tX10_nameLength b a.2.2 h Q1 hq) ⟨by decide, by decide⟩ (Nat.le_of_ble_eq_true rfl) hF (fun x25 hF => ?_)
      show gV G mL_isDesk 56 Q 251 [some (sr c0), some (sr c1), some (sr c2), some (sr c3), some (sr c4), some (sr c5), some (si c6), some (sr c7), some (si (a.1 + (1 : Int32))), some (si c9), some (si a.2.1), some (si a.2.2), some (si (c6 - c6 / (11 : Int32) * (11 : Int32))), some (si x3), none, none] [si x25] (11 * m + k + 7) (66 * m + n + 42) h
      refine v_aload_n (pc := 251) (i := 3) dL_isDesk_251 rfl rfl ?_
      refine v_iload (pc := 252) (i := 11) dL_isDesk_252 rfl ?_
      refine s_lald (f := some) (pc := 254) dL_isDesk_254 (okB_bs hF) (fun x26 hF => ?_)
      replace hF := okB_some hF
      refine yp_S (pc := 255) gI (as := [sl x26]) (st := [si x25]) (N := mL_nameMany) (k := 11 * m + k + 7) (n := 66 * m + n + 42) (k1 := 0) (n1 := 0) dL_isDesk_255 lkL_34 caL_nameMany csL_nameMany rfl (fun Q1 hq => tL_nameMany x26 h Q1 hq) ⟨by decide, by decide⟩ (Nat.le_of_ble_eq_true rfl) hF (fun x27 hF => ?_)
      show gV G mL_isDesk 56 Q 258 [some (sr c0), some (sr c1), some (sr c2), some (sr c3), some (sr c4), some (sr c5), some (si c6), some (sr c7), some (si (a.1 + (1 : Int32))), some (si c9), some (si a.2.1), some (si a.2.2), some (si (c6 - c6 / (11 : Int32) * (11 : Int32))), some (si x3), none, none] [si x27, si x25] (11 * m + k + 7) (66 * m + n + 42) h
      refine v_icmp_ne (pc := 258) 356 dL_isDesk_258 rfl (fun hc => ?_) (fun hc => ?_)
      · replace hF := (ifP hF).2 hc
        refine v_iconst (pc := 356) (v := (0 : Int32)) dL_isDesk_356 rfl ?_
        refine v_istore (pc := 357) (i := 10) [some (sr c0), some (sr c1), some (sr c2), some (sr c3), some (sr c4), some (sr c5), some (si c6), some (sr c7), some (si (a.1 + (1 : Int32))), some (si c9), some (si (0 : Int32)), some (si a.2.2), some (si (c6 - c6 / (11 : Int32) * (11 : Int32))), some (si x3), none, none] dL_isDesk_357 (by decide) rfl rfl ?_
        refine v_iinc (pc := 359) (i := 11) (a.2.2 + (1 : Int32)) [some (sr c0), some (sr c1), some (sr c2), some (sr c3), some (sr c4), some (sr c5), some (si c6), some (sr c7), some (si (a.1 + (1 : Int32))), some (si c9), some (si (0 : Int32)), some (si (a.2.2 + (1 : Int32))), some (si (c6 - c6 / (11 : Int32) * (11 : Int32))), some (si x3), none, none] dL_isDesk_359 rfl rfl rfl rfl ?_
        refine v_goto (pc := 362) 119 dL_isDesk_362 rfl ?_
        exact v_room (k' := 11 * m + k) (n' := 66 * m + n) (by omega) (by omega) <| v_lle [some (sr c0), some (sr c1), some (sr c2), some (sr c3), some (sr c4), some (sr c5), some (si c6), some (sr c7), some (si (a.1 + (1 : Int32))), some (si c9), some (si (0 : Int32)), some (si (a.2.2 + (1 : Int32))), none, none, none, none] ⟨rfl, rfl, rfl, rfl, rfl, rfl, rfl, rfl, rfl, rfl, rfl, rfl, trivial⟩ (hL (a.1 + (1 : Int32), (0 : Int32), a.2.2 + (1 : Int32)) hF)
      replace hF := (ifP hF).1 hc
      refine v_aload_n (pc := 261) (i := 0) dL_isDesk_261 rfl rfl ?_
      refine v_iload (pc := 262) (i := 11) dL_isDesk_262 rfl ?_
      refine yc_V (pc := 264) gI (as := [si a.2.2]) (st := []) (ci := 9) (N := mX10_contentLength) (k := 11 * m + k + 6) (n := 66 * m + n + 36) (k1 := 1) (n1 := 6) dL_isDesk_264 lkL_171 caX10_contentLength cvX10_contentLength rfl (by decide) rfl (fun b Q1 hq => tX10_contentLength b a.2.2 h Q1 hq) ⟨by decide, by decide⟩ (Nat.le_of_ble_eq_true rfl) hF (fun x28 hF => ?_)
      show gV G mL_isDesk 56 Q 267 [some (sr c0), some (sr c1), some (sr c2), some (sr c3), some (sr c4), some (sr c5), some (si c6), some (sr c7), some (si (a.1 + (1 : Int32))), some (si c9), some (si a.2.1), some (si a.2.2), some (si (c6 - c6 / (11 : Int32) * (11 : Int32))), some (si x3), none, none] [si x28] (11 * m + k + 6) (66 * m + n + 36) h
      refine v_aload (pc := 267) (i := 5) dL_isDesk_267 rfl ?_
      refine v_iload (pc := 269) (i := 11) dL_isDesk_269 rfl ?_
      refine s_iald (f := some) (pc := 271) dL_isDesk_271 (okB_bs hF) (fun x29 hF => ?_)
      replace hF := okB_some hF
      refine v_icmp_ne (pc := 272) 356 dL_isDesk_272 rfl (fun hc => ?_) (fun hc => ?_)
      · replace hF := (ifP hF).2 hc
        refine v_iconst (pc := 356) (v := (0 : Int32)) dL_isDesk_356 rfl ?_
        refine v_istore (pc := 357) (i := 10) [some (sr c0), some (sr c1), some (sr c2), some (sr c3), some (sr c4), some (sr c5), some (si c6), some (sr c7), some (si (a.1 + (1 : Int32))), some (si c9), some (si (0 : Int32)), some (si a.2.2), some (si (c6 - c6 / (11 : Int32) * (11 : Int32))), some (si x3), none, none] dL_isDesk_357 (by decide) rfl rfl ?_
        refine v_iinc (pc := 359) (i := 11) (a.2.2 + (1 : Int32)) [some (sr c0), some (sr c1), some (sr c2), some (sr c3), some (sr c4), some (sr c5), some (si c6), some (sr c7), some (si (a.1 + (1 : Int32))), some (si c9), some (si (0 : Int32)), some (si (a.2.2 + (1 : Int32))), some (si (c6 - c6 / (11 : Int32) * (11 : Int32))), some (si x3), none, none] dL_isDesk_359 rfl rfl rfl rfl ?_
        refine v_goto (pc := 362) 119 dL_isDesk_362 rfl ?_
        exact v_room (k' := 11 * m + k) (n' := 66 * m + n) (by omega) (by omega) <| v_lle [some (sr c0), some (sr c1), some (sr c2), some (sr c3), some (sr c4), some (sr c5), some (si c6), some (sr c7), some (si (a.1 + (1 : Int32))), some (si c9), some (si (0 : Int32)), some (si (a.2.2 + (1 : Int32))), none, none, none, none] ⟨rfl, rfl, rfl, rfl, rfl, rfl, rfl, rfl, rfl, rfl, rfl, rfl, trivial⟩ (hL (a.1 + (1 : Int32), (0 : Int32), a.2.2 + (1 : Int32)) hF)
      replace hF := (ifP hF).1 hc
      refine v_aload_n (pc := 275) (i := 0) dL_isDesk_275 rfl rfl ?_
      refine v_iload (pc := 276) (i := 11) dL_isDesk_276 rfl ?_
      refine yc_V (pc := 278) gI (as := [si a.2.2]) (st := []) (ci := 9) (N := mX10_isOn) (k := 11 * m + k + 5) (n := 66 * m + n + 30) (k1 := 1) (n1 := 6) dL_isDesk_278 lkL_174 caX10_isOn cvX10_isOn rfl (by decide) rfl (fun b Q1 hq => tX10_isOn b a.2.2 h Q1 hq) ⟨by decide, by decide⟩ (Nat.le_of_ble_eq_true rfl) hF (fun x30 hF => ?_)
      show gV G mL_isDesk 56 Q 281 [some (sr c0), some (sr c1), some (sr c2), some (sr c3), some (sr c4), some (sr c5), some (si c6), some (sr c7), some (si (a.1 + (1 : Int32))), some (si c9), some (si a.2.1), some (si a.2.2), some (si (c6 - c6 / (11 : Int32) * (11 : Int32))), some (si x3), none, none] [si x30] (11 * m + k + 5) (66 * m + n + 30) h
      refine v_aload_n (pc := 281) (i := 2) dL_isDesk_281 rfl rfl ?_
      refine v_bipush (pc := 282) (v := (6 : Int32)) dL_isDesk_282 rfl ?_
      refine v_iload (pc := 284) (i := 11) dL_isDesk_284 rfl ?_
      refine v_imul (pc := 286) dL_isDesk_286 ?_
      refine v_iconst (pc := 287) (v := (3 : Int32)) dL_isDesk_287 rfl ?_
      refine v_iadd (pc := 288) dL_isDesk_288 ?_
      refine s_iald (f := some) (pc := 289) dL_isDesk_289 (okB_bs hF) (fun x31 hF => ?_)
      replace hF := okB_some hF
      refine v_iconst (pc := 290) (v := (4 : Int32)) dL_isDesk_290 rfl ?_
      refine v_iand (pc := 291) dL_isDesk_291 ?_
      refine v_iconst (pc := 292) (v := (4 : Int32)) dL_isDesk_292 rfl ?_
      refine mgW (X := fun q32 => gV G mL_isDesk 56 Q 301 [some (sr c0), some (sr c1), some (sr c2), some (sr c3), some (sr c4), some (sr c5), some (si c6), some (sr c7), some (si (a.1 + (1 : Int32))), some (si c9), none, some (si a.2.2), none, none, none, none] [si q32, si x30] (11 * m + k + 3) (66 * m + n + 18) h) hF (fun K32 hj32 hF => ?_) (fun q32 hF => ?_)
      · refine v_icmp_ne (pc := 293) 300 dL_isDesk_293 rfl (fun hc => ?_) (fun hc => ?_)
        · replace hF := (ifP hF).2 hc
          refine v_iconst (pc := 300) (v := (0 : Int32)) dL_isDesk_300 rfl ?_
          exact v_room (k' := 11 * m + k + 3) (n' := 66 * m + n + 18) (by omega) (by omega) <| v_lle [some (sr c0), some (sr c1), some (sr c2), some (sr c3), some (sr c4), some (sr c5), some (si c6), some (sr c7), some (si (a.1 + (1 : Int32))), some (si c9), none, some (si a.2.2), none, none, none, none] ⟨rfl, rfl, rfl, rfl, rfl, rfl, rfl, rfl, rfl, rfl, rfl, trivial⟩ (hj32 (0 : Int32) hF)
        replace hF := (ifP hF).1 hc
        refine v_iconst (pc := 296) (v := (1 : Int32)) dL_isDesk_296 rfl ?_
        refine v_goto (pc := 297) 301 dL_isDesk_297 rfl ?_
        exact v_room (k' := 11 * m + k + 3) (n' := 66 * m + n + 18) (by omega) (by omega) <| v_lle [some (sr c0), some (sr c1), some (sr c2), some (sr c3), some (sr c4), some (sr c5), some (si c6), some (sr c7), some (si (a.1 + (1 : Int32))), some (si c9), none, some (si a.2.2), none, none, none, none] ⟨rfl, rfl, rfl, rfl, rfl, rfl, rfl, rfl, rfl, rfl, rfl, trivial⟩ (hj32 (1 : Int32) hF)
      refine v_icmp_ne (pc := 301) 356 dL_isDesk_301 rfl (fun hc => ?_) (fun hc => ?_)
      · replace hF := (ifP hF).2 hc
        refine v_iconst (pc := 356) (v := (0 : Int32)) dL_isDesk_356 rfl ?_
        refine v_istore (pc := 357) (i := 10) [some (sr c0), some (sr c1), some (sr c2), some (sr c3), some (sr c4), some (sr c5), some (si c6), some (sr c7), some (si (a.1 + (1 : Int32))), some (si c9), some (si (0 : Int32)), some (si a.2.2), none, none, none, none] dL_isDesk_357 (by decide) rfl rfl ?_
        refine v_iinc (pc := 359) (i := 11) (a.2.2 + (1 : Int32)) [some (sr c0), some (sr c1), some (sr c2), some (sr c3), some (sr c4), some (sr c5), some (si c6), some (sr c7), some (si (a.1 + (1 : Int32))), some (si c9), some (si (0 : Int32)), some (si (a.2.2 + (1 : Int32))), none, none, none, none] dL_isDesk_359 rfl rfl rfl rfl ?_
        refine v_goto (pc := 362) 119 dL_isDesk_362 rfl ?_
        exact v_room (k' := 11 * m + k) (n' := 66 * m + n) (by omega) (by omega) <| v_lle [some (sr c0), some (sr c1), some (sr c2), some (sr c3), some (sr c4), some (sr c5), some (si c6), some (sr c7), some (si (a.1 + (1 : Int32))), some (si c9), some (si (0 : Int32)), some (si (a.2.2 + (1 : Int32))), none, none, none, none] ⟨rfl, rfl, rfl, rfl, rfl, rfl, rfl, rfl, rfl, rfl, rfl, rfl, trivial⟩ (hL (a.1 + (1 : Int32), (0 : Int32), a.2.2 + (1 : Int32)) hF)
      replace hF := (ifP hF).1 hc
      refine v_aload_n (pc := 304) (i := 0) dL_isDesk_304 rfl rfl ?_
      refine v_iload (pc := 305) (i := 11) dL_isDesk_305 rfl ?_
      refine yc_V (pc := 307) gI (as := [si a.2.2]) (st := []) (ci := 9) (N := mX10_presses) (k := 11 * m + k + 2) (n := 66 * m + n + 12) (k1 := 1) (n1 := 6) dL_isDesk_307 lkL_177 caX10_presses cvX10_presses rfl (by decide) rfl (fun b Q1 hq => tX10_presses b a.2.2 h Q1 hq) ⟨by decide, by decide⟩ (Nat.le_of_ble_eq_true rfl) hF (fun x33 hF => ?_)
      show gV G mL_isDesk 56 Q 310 [some (sr c0), some (sr c1), some (sr c2), some (sr c3), some (sr c4), some (sr c5), some (si c6), some (sr c7), some (si (a.1 + (1 : Int32))), some (si c9), none, some (si a.2.2), none, none, none, none] [si x33] (11 * m + k + 2) (66 * m + n + 12) h
      refine v_aload_n (pc := 310) (i := 2) dL_isDesk_310 rfl rfl ?_
      refine v_bipush (pc := 311) (v := (6 : Int32)) dL_isDesk_311 rfl ?_
      refine v_iload (pc := 313) (i := 11) dL_isDesk_313 rfl ?_
      refine v_imul (pc := 315) dL_isDesk_315 ?_
      refine v_iconst (pc := 316) (v := (5 : Int32)) dL_isDesk_316 rfl ?_
      refine v_iadd (pc := 317) dL_isDesk_317 ?_
      refine s_iald (f := some) (pc := 318) dL_isDesk_318 (okB_bs hF) (fun x34 hF => ?_)
      replace hF := okB_some hF
      refine v_icmp_ne (pc := 319) 356 dL_isDesk_319 rfl (fun hc => ?_) (fun hc => ?_)
      · replace hF := (ifP hF).2 hc
        refine v_iconst (pc := 356) (v := (0 : Int32)) dL_isDesk_356 rfl ?_
        refine v_istore (pc := 357) (i := 10) [some (sr c0), some (sr c1), some (sr c2), some (sr c3), some (sr c4), some (sr c5), some (si c6), some (sr c7), some (si (a.1 + (1 : Int32))), some (si c9), some (si (0 : Int32)), some (si a.2.2), none, none, none, none] dL_isDesk_357 (by decide) rfl rfl ?_
        refine v_iinc (pc := 359) (i := 11) (a.2.2 + (1 : Int32)) [some (sr c0), some (sr c1), some (sr c2), some (sr c3), some (sr c4), some (sr c5), some (si c6), some (sr c7), some (si (a.1 + (1 : Int32))), some (si c9), some (si (0 : Int32)), some (si (a.2.2 + (1 : Int32))), none, none, none, none] dL_isDesk_359 rfl rfl rfl rfl ?_
        refine v_goto (pc := 362) 119 dL_isDesk_362 rfl ?_
        exact v_room (k' := 11 * m + k) (n' := 66 * m + n) (by omega) (by omega) <| v_lle [some (sr c0), some (sr c1), some (sr c2), some (sr c3), some (sr c4), some (sr c5), some (si c6), some (sr c7), some (si (a.1 + (1 : Int32))), some (si c9), some (si (0 : Int32)), some (si (a.2.2 + (1 : Int32))), none, none, none, none] ⟨rfl, rfl, rfl, rfl, rfl, rfl, rfl, rfl, rfl, rfl, rfl, rfl, trivial⟩ (hL (a.1 + (1 : Int32), (0 : Int32), a.2.2 + (1 : Int32)) hF)
      replace hF := (ifP hF).1 hc
      refine v_aload_n (pc := 322) (i := 0) dL_isDesk_322 rfl rfl ?_
      refine v_iload (pc := 323) (i := 11) dL_isDesk_323 rfl ?_
      refine yc_V (pc := 325) gI (as := [si a.2.2]) (st := []) (ci := 9) (N := mX10_isShown) (k := 11 * m + k + 1) (n := 66 * m + n + 6) (k1 := 1) (n1 := 6) dL_isDesk_325 lkL_180 caX10_isShown cvX10_isShown rfl (by decide) rfl (fun b Q1 hq => tX10_isShown b a.2.2 h Q1 hq) ⟨by decide, by decide⟩ (Nat.le_of_ble_eq_true rfl) hF (fun x35 hF => ?_)
      show gV G mL_isDesk 56 Q 328 [some (sr c0), some (sr c1), some (sr c2), some (sr c3), some (sr c4), some (sr c5), some (si c6), some (sr c7), some (si (a.1 + (1 : Int32))), some (si c9), none, some (si a.2.2), none, none, none, none] [si x35] (11 * m + k + 1) (66 * m + n + 6) h
      refine v_aload_n (pc := 328) (i := 2) dL_isDesk_328 rfl rfl ?_
      refine v_iload (pc := 329) (i := 11) dL_isDesk_329 rfl ?_
      refine yp_S (pc := 331) gI (as := [sr c2, si a.2.2]) (st := [si x35]) (N := mL_isShown) (k := 11 * m + k + 1) (n := 66 * m + n + 6) (k1 := 0) (n1 := 0) dL_isDesk_331 lkL_101 caL_isShown csL_isShown rfl (fun Q1 hq => tL_isShown c2 a.2.2 h Q1 hq) ⟨by decide, by decide⟩ (Nat.le_of_ble_eq_true rfl) hF (fun x36 hF => ?_)
      show gV G mL_isDesk 56 Q 334 [some (sr c0), some (sr c1), some (sr c2), some (sr c3), some (sr c4), some (sr c5), some (si c6), some (sr c7), some (si (a.1 + (1 : Int32))), some (si c9), none, some (si a.2.2), none, none, none, none] [si x36, si x35] (11 * m + k + 1) (66 * m + n + 6) h
      refine v_icmp_ne (pc := 334) 356 dL_isDesk_334 rfl (fun hc => ?_) (fun hc => ?_)
      · replace hF := (ifP hF).2 hc
        refine v_iconst (pc := 356) (v := (0 : Int32)) dL_isDesk_356 rfl ?_
        refine v_istore (pc := 357) (i := 10) [some (sr c0), some (sr c1), some (sr c2), some (sr c3), some (sr c4), some (sr c5), some (si c6), some (sr c7), some (si (a.1 + (1 : Int32))), some (si c9), some (si (0 : Int32)), some (si a.2.2), none, none, none, none] dL_isDesk_357 (by decide) rfl rfl ?_
        refine v_iinc (pc := 359) (i := 11) (a.2.2 + (1 : Int32)) [some (sr c0), some (sr c1), some (sr c2), some (sr c3), some (sr c4), some (sr c5), some (si c6), some (sr c7), some (si (a.1 + (1 : Int32))), some (si c9), some (si (0 : Int32)), some (si (a.2.2 + (1 : Int32))), none, none, none, none] dL_isDesk_359 rfl rfl rfl rfl ?_
        refine v_goto (pc := 362) 119 dL_isDesk_362 rfl ?_
        exact v_room (k' := 11 * m + k) (n' := 66 * m + n) (by omega) (by omega) <| v_lle [some (sr c0), some (sr c1), some (sr c2), some (sr c3), some (sr c4), some (sr c5), some (si c6), some (sr c7), some (si (a.1 + (1 : Int32))), some (si c9), some (si (0 : Int32)), some (si (a.2.2 + (1 : Int32))), none, none, none, none] ⟨rfl, rfl, rfl, rfl, rfl, rfl, rfl, rfl, rfl, rfl, rfl, rfl, trivial⟩ (hL (a.1 + (1 : Int32), (0 : Int32), a.2.2 + (1 : Int32)) hF)
      replace hF := (ifP hF).1 hc
      refine v_aload_n (pc := 337) (i := 0) dL_isDesk_337 rfl rfl ?_
      refine v_iload (pc := 338) (i := 11) dL_isDesk_338 rfl ?_
      refine yc_V (pc := 340) gI (as := [si a.2.2]) (st := []) (ci := 9) (N := mX10_level) (k := 11 * m + k + 0) (n := 66 * m + n + 0) (k1 := 1) (n1 := 6) dL_isDesk_340 lkL_182 caX10_level cvX10_level rfl (by decide) rfl (fun b Q1 hq => tX10_level b a.2.2 h Q1 hq) ⟨by decide, by decide⟩ (Nat.le_of_ble_eq_true rfl) hF (fun x37 hF => ?_)
      show gV G mL_isDesk 56 Q 343 [some (sr c0), some (sr c1), some (sr c2), some (sr c3), some (sr c4), some (sr c5), some (si c6), some (sr c7), some (si (a.1 + (1 : Int32))), some (si c9), none, some (si a.2.2), none, none, none, none] [si x37] (11 * m + k + 0) (66 * m + n + 0) h
      refine v_aload_n (pc := 343) (i := 2) dL_isDesk_343 rfl rfl ?_
      refine v_iload (pc := 344) (i := 11) dL_isDesk_344 rfl ?_
      refine yp_S (pc := 346) gI (as := [sr c2, si a.2.2]) (st := [si x37]) (N := mL_level) (k := 11 * m + k + 0) (n := 66 * m + n + 0) (k1 := 0) (n1 := 0) dL_isDesk_346 lkL_30 caL_level csL_level rfl (fun Q1 hq => tL_level c2 a.2.2 h Q1 hq) ⟨by decide, by decide⟩ (Nat.le_of_ble_eq_true rfl) hF (fun x38 hF => ?_)
      show gV G mL_isDesk 56 Q 349 [some (sr c0), some (sr c1), some (sr c2), some (sr c3), some (sr c4), some (sr c5), some (si c6), some (sr c7), some (si (a.1 + (1 : Int32))), some (si c9), none, some (si a.2.2), none, none, none, none] [si x38, si x37] (11 * m + k + 0) (66 * m + n + 0) h
      refine v_icmp_ne (pc := 349) 356 dL_isDesk_349 rfl (fun hc => ?_) (fun hc => ?_)
      · replace hF := (ifP hF).2 hc
        refine v_iconst (pc := 356) (v := (0 : Int32)) dL_isDesk_356 rfl ?_
        refine v_istore (pc := 357) (i := 10) [some (sr c0), some (sr c1), some (sr c2), some (sr c3), some (sr c4), some (sr c5), some (si c6), some (sr c7), some (si (a.1 + (1 : Int32))), some (si c9), some (si (0 : Int32)), some (si a.2.2), none, none, none, none] dL_isDesk_357 (by decide) rfl rfl ?_
        refine v_iinc (pc := 359) (i := 11) (a.2.2 + (1 : Int32)) [some (sr c0), some (sr c1), some (sr c2), some (sr c3), some (sr c4), some (sr c5), some (si c6), some (sr c7), some (si (a.1 + (1 : Int32))), some (si c9), some (si (0 : Int32)), some (si (a.2.2 + (1 : Int32))), none, none, none, none] dL_isDesk_359 rfl rfl rfl rfl ?_
        refine v_goto (pc := 362) 119 dL_isDesk_362 rfl ?_
        exact v_room (k' := 11 * m + k) (n' := 66 * m + n) (by omega) (by omega) <| v_lle [some (sr c0), some (sr c1), some (sr c2), some (sr c3), some (sr c4), some (sr c5), some (si c6), some (sr c7), some (si (a.1 + (1 : Int32))), some (si c9), some (si (0 : Int32)), some (si (a.2.2 + (1 : Int32))), none, none, none, none] ⟨rfl, rfl, rfl, rfl, rfl, rfl, rfl, rfl, rfl, rfl, rfl, rfl, trivial⟩ (hL (a.1 + (1 : Int32), (0 : Int32), a.2.2 + (1 : Int32)) hF)
      replace hF := (ifP hF).1 hc
      refine v_iconst (pc := 352) (v := (1 : Int32)) dL_isDesk_352 rfl ?_
      refine v_goto (pc := 353) 357 dL_isDesk_353 rfl ?_
      refine v_istore (pc := 357) (i := 10) [some (sr c0), some (sr c1), some (sr c2), some (sr c3), some (sr c4), some (sr c5), some (si c6), some (sr c7), some (si (a.1 + (1 : Int32))), some (si c9), some (si (1 : Int32)), some (si a.2.2), none, none, none, none] dL_isDesk_357 (by decide) rfl rfl ?_
      refine v_iinc (pc := 359) (i := 11) (a.2.2 + (1 : Int32)) [some (sr c0), some (sr c1), some (sr c2), some (sr c3), some (sr c4), some (sr c5), some (si c6), some (sr c7), some (si (a.1 + (1 : Int32))), some (si c9), some (si (1 : Int32)), some (si (a.2.2 + (1 : Int32))), none, none, none, none] dL_isDesk_359 rfl rfl rfl rfl ?_
      refine v_goto (pc := 362) 119 dL_isDesk_362 rfl ?_
      exact v_room (k' := 11 * m + k) (n' := 66 * m + n) (by omega) (by omega) <| v_lle [some (sr c0), some (sr c1), some (sr c2), some (sr c3), some (sr c4), some (sr c5), some (si c6), some (sr c7), some (si (a.1 + (1 : Int32))), some (si c9), some (si (1 : Int32)), some (si (a.2.2 + (1 : Int32))), none, none, none, none] ⟨rfl, rfl, rfl, rfl, rfl, rfl, rfl, rfl, rfl, rfl, rfl, rfl, trivial⟩ (hL (a.1 + (1 : Int32), (1 : Int32), a.2.2 + (1 : Int32)) hF)
    replace hF := (ifP hF).1 hc
    refine v_aload_n (pc := 232) (i := 0) dL_isDesk_232 rfl rfl ?_
    refine v_iload (pc := 233) (i := 11) dL_isDesk_233 rfl ?_
    refine v_iload (pc := 235) (i := 12) dL_isDesk_235 rfl ?_
    refine yc_V (pc := 237) gI (as := [si a.2.2, si (c6 - c6 / (11 : Int32) * (11 : Int32))]) (st := []) (ci := 9) (N := mX10_childAt) (k := 11 * m + k + 6) (n := 66 * m + n + 36) (k1 := 2) (n1 := 12) dL_isDesk_237 lkL_165 caX10_childAt cvX10_childAt rfl (by decide) rfl (fun b Q1 hq => tX10_childAt b a.2.2 (c6 - c6 / (11 : Int32) * (11 : Int32)) h Q1 hq) ⟨by decide, by decide⟩ (Nat.le_of_ble_eq_true rfl) hF (fun x39 hF => ?_)
    show gV G mL_isDesk 56 Q 240 [some (sr c0), some (sr c1), some (sr c2), some (sr c3), some (sr c4), some (sr c5), some (si c6), some (sr c7), some (si (a.1 + (1 : Int32))), some (si c9), some (si a.2.1), some (si a.2.2), some (si (c6 - c6 / (11 : Int32) * (11 : Int32))), some (si x3), none, none] [si x39] (11 * m + k + 6) (66 * m + n + 36) h
    refine v_iload (pc := 240) (i := 13) dL_isDesk_240 rfl ?_
    refine v_icmp_ne (pc := 242) 356 dL_isDesk_242 rfl (fun hc => ?_) (fun hc => ?_)
    · replace hF := (ifP hF).2 hc
      refine v_iconst (pc := 356) (v := (0 : Int32)) dL_isDesk_356 rfl ?_
      refine v_istore (pc := 357) (i := 10) [some (sr c0), some (sr c1), some (sr c2), some (sr c3), some (sr c4), some (sr c5), some (si c6), some (sr c7), some (si (a.1 + (1 : Int32))), some (si c9), some (si (0 : Int32)), some (si a.2.2), some (si (c6 - c6 / (11 : Int32) * (11 : Int32))), some (si x3), none, none] dL_isDesk_357 (by decide) rfl rfl ?_
      refine v_iinc (pc := 359) (i := 11) (a.2.2 + (1 : Int32)) [some (sr c0), some (sr c1), some (sr c2), some (sr c3), some (sr c4), some (sr c5), some (si c6), some (sr c7), some (si (a.1 + (1 : Int32))), some (si c9), some (si (0 : Int32)), some (si (a.2.2 + (1 : Int32))), some (si (c6 - c6 / (11 : Int32) * (11 : Int32))), some (si x3), none, none] dL_isDesk_359 rfl rfl rfl rfl ?_
      refine v_goto (pc := 362) 119 dL_isDesk_362 rfl ?_
      exact v_room (k' := 11 * m + k) (n' := 66 * m + n) (by omega) (by omega) <| v_lle [some (sr c0), some (sr c1), some (sr c2), some (sr c3), some (sr c4), some (sr c5), some (si c6), some (sr c7), some (si (a.1 + (1 : Int32))), some (si c9), some (si (0 : Int32)), some (si (a.2.2 + (1 : Int32))), none, none, none, none] ⟨rfl, rfl, rfl, rfl, rfl, rfl, rfl, rfl, rfl, rfl, rfl, rfl, trivial⟩ (hL (a.1 + (1 : Int32), (0 : Int32), a.2.2 + (1 : Int32)) hF)
    replace hF := (ifP hF).1 hc
    refine v_aload_n (pc := 245) (i := 0) dL_isDesk_245 rfl rfl ?_
    refine v_iload (pc := 246) (i := 11) dL_isDesk_246 rfl ?_
    refine yc_V (pc := 248) gI (as := [si a.2.2]) (st := []) (ci := 9) (N := mX10_nameLength) (k := 11 * m + k + 5) (n := 66 * m + n + 30) (k1 := 1) (n1 := 6) dL_isDesk_248 lkL_168 caX10_nameLength cvX10_nameLength rfl (by decide) rfl (fun b Q1 hq => tX10_nameLength b a.2.2 h Q1 hq) ⟨by decide, by decide⟩ (Nat.le_of_ble_eq_true rfl) hF (fun x40 hF => ?_)
    show gV G mL_isDesk 56 Q 251 [some (sr c0), some (sr c1), some (sr c2), some (sr c3), some (sr c4), some (sr c5), some (si c6), some (sr c7), some (si (a.1 + (1 : Int32))), some (si c9), some (si a.2.1), some (si a.2.2), some (si (c6 - c6 / (11 : Int32) * (11 : Int32))), some (si x3), none, none] [si x40] (11 * m + k + 5) (66 * m + n + 30) h
    refine v_aload_n (pc := 251) (i := 3) dL_isDesk_251 rfl rfl ?_
    refine v_iload (pc := 252) (i := 11) dL_isDesk_252 rfl ?_
    refine s_lald (f := some) (pc := 254) dL_isDesk_254 (okB_bs hF) (fun x41 hF => ?_)
    replace hF := okB_some hF
    refine yp_S (pc := 255) gI (as := [sl x41]) (st := [si x40]) (N := mL_nameMany) (k := 11 * m + k + 5) (n := 66 * m + n + 30) (k1 := 0) (n1 := 0) dL_isDesk_255 lkL_34 caL_nameMany csL_nameMany rfl (fun Q1 hq => tL_nameMany x41 h Q1 hq) ⟨by decide, by decide⟩ (Nat.le_of_ble_eq_true rfl) hF (fun x42 hF => ?_)
    show gV G mL_isDesk 56 Q 258 [some (sr c0), some (sr c1), some (sr c2), some (sr c3), some (sr c4), some (sr c5), some (si c6), some (sr c7), some (si (a.1 + (1 : Int32))), some (si c9), some (si a.2.1), some (si a.2.2), some (si (c6 - c6 / (11 : Int32) * (11 : Int32))), some (si x3), none, none] [si x42, si x40] (11 * m + k + 5) (66 * m + n + 30) h
    refine v_icmp_ne (pc := 258) 356 dL_isDesk_258 rfl (fun hc => ?_) (fun hc => ?_)
    · replace hF := (ifP hF).2 hc
      refine v_iconst (pc := 356) (v := (0 : Int32)) dL_isDesk_356 rfl ?_
      refine v_istore (pc := 357) (i := 10) [some (sr c0), some (sr c1), some (sr c2), some (sr c3), some (sr c4), some (sr c5), some (si c6), some (sr c7), some (si (a.1 + (1 : Int32))), some (si c9), some (si (0 : Int32)), some (si a.2.2), some (si (c6 - c6 / (11 : Int32) * (11 : Int32))), some (si x3), none, none] dL_isDesk_357 (by decide) rfl rfl ?_
      refine v_iinc (pc := 359) (i := 11) (a.2.2 + (1 : Int32)) [some (sr c0), some (sr c1), some (sr c2), some (sr c3), some (sr c4), some (sr c5), some (si c6), some (sr c7), some (si (a.1 + (1 : Int32))), some (si c9), some (si (0 : Int32)), some (si (a.2.2 + (1 : Int32))), some (si (c6 - c6 / (11 : Int32) * (11 : Int32))), some (si x3), none, none] dL_isDesk_359 rfl rfl rfl rfl ?_
      refine v_goto (pc := 362) 119 dL_isDesk_362 rfl ?_
      exact v_room (k' := 11 * m + k) (n' := 66 * m + n) (by omega) (by omega) <| v_lle [some (sr c0), some (sr c1), some (sr c2), some (sr c3), some (sr c4), some (sr c5), some (si c6), some (sr c7), some (si (a.1 + (1 : Int32))), some (si c9), some (si (0 : Int32)), some (si (a.2.2 + (1 : Int32))), none, none, none, none] ⟨rfl, rfl, rfl, rfl, rfl, rfl, rfl, rfl, rfl, rfl, rfl, rfl, trivial⟩ (hL (a.1 + (1 : Int32), (0 : Int32), a.2.2 + (1 : Int32)) hF)
    replace hF := (ifP hF).1 hc
    refine v_aload_n (pc := 261) (i := 0) dL_isDesk_261 rfl rfl ?_
    refine v_iload (pc := 262) (i := 11) dL_isDesk_262 rfl ?_
    refine yc_V (pc := 264) gI (as := [si a.2.2]) (st := []) (ci := 9) (N := mX10_contentLength) (k := 11 * m + k + 4) (n := 66 * m + n + 24) (k1 := 1) (n1 := 6) dL_isDesk_264 lkL_171 caX10_contentLength cvX10_contentLength rfl (by decide) rfl (fun b Q1 hq => tX10_contentLength b a.2.2 h Q1 hq) ⟨by decide, by decide⟩ (Nat.le_of_ble_eq_true rfl) hF (fun x43 hF => ?_)
    show gV G mL_isDesk 56 Q 267 [some (sr c0), some (sr c1), some (sr c2), some (sr c3), some (sr c4), some (sr c5), some (si c6), some (sr c7), some (si (a.1 + (1 : Int32))), some (si c9), some (si a.2.1), some (si a.2.2), some (si (c6 - c6 / (11 : Int32) * (11 : Int32))), some (si x3), none, none] [si x43] (11 * m + k + 4) (66 * m + n + 24) h
    refine v_aload (pc := 267) (i := 5) dL_isDesk_267 rfl ?_
    refine v_iload (pc := 269) (i := 11) dL_isDesk_269 rfl ?_
    refine s_iald (f := some) (pc := 271) dL_isDesk_271 (okB_bs hF) (fun x44 hF => ?_)
    replace hF := okB_some hF
    refine v_icmp_ne (pc := 272) 356 dL_isDesk_272 rfl (fun hc => ?_) (fun hc => ?_)
    · replace hF := (ifP hF).2 hc
      refine v_iconst (pc := 356) (v := (0 : Int32)) dL_isDesk_356 rfl ?_
      refine v_istore (pc := 357) (i := 10) [some (sr c0), some (sr c1), some (sr c2), some (sr c3), some (sr c4), some (sr c5), some (si c6), some (sr c7), some (si (a.1 + (1 : Int32))), some (si c9), some (si (0 : Int32)), some (si a.2.2), some (si (c6 - c6 / (11 : Int32) * (11 : Int32))), some (si x3), none, none] dL_isDesk_357 (by decide) rfl rfl ?_
      refine v_iinc (pc := 359) (i := 11) (a.2.2 + (1 : Int32)) [some (sr c0), some (sr c1), some (sr c2), some (sr c3), some (sr c4), some (sr c5), some (si c6), some (sr c7), some (si (a.1 + (1 : Int32))), some (si c9), some (si (0 : Int32)), some (si (a.2.2 + (1 : Int32))), some (si (c6 - c6 / (11 : Int32) * (11 : Int32))), some (si x3), none, none] dL_isDesk_359 rfl rfl rfl rfl ?_
      refine v_goto (pc := 362) 119 dL_isDesk_362 rfl ?_
      exact v_room (k' := 11 * m + k) (n' := 66 * m + n) (by omega) (by omega) <| v_lle [some (sr c0), some (sr c1), some (sr c2), some (sr c3), some (sr c4), some (sr c5), some (si c6), some (sr c7), some (si (a.1 + (1 : Int32))), some (si c9), some (si (0 : Int32)), some (si (a.2.2 + (1 : Int32))), none, none, none, none] ⟨rfl, rfl, rfl, rfl, rfl, rfl, rfl, rfl, rfl, rfl, rfl, rfl, trivial⟩ (hL (a.1 + (1 : Int32), (0 : Int32), a.2.2 + (1 : Int32)) hF)
    replace hF := (ifP hF).1 hc
    refine v_aload_n (pc := 275) (i := 0) dL_isDesk_275 rfl rfl ?_
    refine v_iload (pc := 276) (i := 11) dL_isDesk_276 rfl ?_
    refine yc_V (pc := 278) gI (as := [si a.2.2]) (st := []) (ci := 9) (N := mX10_isOn) (k := 11 * m + k + 3) (n := 66 * m + n + 18) (k1 := 1) (n1 := 6) dL_isDesk_278 lkL_174 caX10_isOn cvX10_isOn rfl (by decide) rfl (fun b Q1 hq => tX10_isOn b a.2.2 h Q1 hq) ⟨by decide, by decide⟩ (Nat.le_of_ble_eq_true rfl) hF (fun x45 hF => ?_)
    show gV G mL_isDesk 56 Q 281 [some (sr c0), some (sr c1), some (sr c2), some (sr c3), some (sr c4), some (sr c5), some (si c6), some (sr c7), some (si (a.1 + (1 : Int32))), some (si c9), some (si a.2.1), some (si a.2.2), some (si (c6 - c6 / (11 : Int32) * (11 : Int32))), some (si x3), none, none] [si x45] (11 * m + k + 3) (66 * m + n + 18) h
    refine v_aload_n (pc := 281) (i := 2) dL_isDesk_281 rfl rfl ?_
    refine v_bipush (pc := 282) (v := (6 : Int32)) dL_isDesk_282 rfl ?_
    refine v_iload (pc := 284) (i := 11) dL_isDesk_284 rfl ?_
    refine v_imul (pc := 286) dL_isDesk_286 ?_
    refine v_iconst (pc := 287) (v := (3 : Int32)) dL_isDesk_287 rfl ?_
    refine v_iadd (pc := 288) dL_isDesk_288 ?_
    refine s_iald (f := some) (pc := 289) dL_isDesk_289 (okB_bs hF) (fun x46 hF => ?_)
    replace hF := okB_some hF
    refine v_iconst (pc := 290) (v := (4 : Int32)) dL_isDesk_290 rfl ?_
    refine v_iand (pc := 291) dL_isDesk_291 ?_
    refine v_iconst (pc := 292) (v := (4 : Int32)) dL_isDesk_292 rfl ?_
    refine mgW (X := fun q47 => gV G mL_isDesk 56 Q 301 [some (sr c0), some (sr c1), some (sr c2), some (sr c3), some (sr c4), some (sr c5), some (si c6), some (sr c7), some (si (a.1 + (1 : Int32))), some (si c9), none, some (si a.2.2), none, none, none, none] [si q47, si x45] (11 * m + k + 3) (66 * m + n + 18) h) hF (fun K47 hj47 hF => ?_) (fun q47 hF => ?_)
    · refine v_icmp_ne (pc := 293) 300 dL_isDesk_293 rfl (fun hc => ?_) (fun hc => ?_)
      · replace hF := (ifP hF).2 hc
        refine v_iconst (pc := 300) (v := (0 : Int32)) dL_isDesk_300 rfl ?_
        exact v_lle [some (sr c0), some (sr c1), some (sr c2), some (sr c3), some (sr c4), some (sr c5), some (si c6), some (sr c7), some (si (a.1 + (1 : Int32))), some (si c9), none, some (si a.2.2), none, none, none, none] ⟨rfl, rfl, rfl, rfl, rfl, rfl, rfl, rfl, rfl, rfl, rfl, trivial⟩ (hj47 (0 : Int32) hF)
      replace hF := (ifP hF).1 hc
      refine v_iconst (pc := 296) (v := (1 : Int32)) dL_isDesk_296 rfl ?_
      refine v_goto (pc := 297) 301 dL_isDesk_297 rfl ?_
      exact v_lle [some (sr c0), some (sr c1), some (sr c2), some (sr c3), some (sr c4), some (sr c5), some (si c6), some (sr c7), some (si (a.1 + (1 : Int32))), some (si c9), none, some (si a.2.2), none, none, none, none] ⟨rfl, rfl, rfl, rfl, rfl, rfl, rfl, rfl, rfl, rfl, rfl, trivial⟩ (hj47 (1 : Int32) hF)
    refine v_icmp_ne (pc := 301) 356 dL_isDesk_301 rfl (fun hc => ?_) (fun hc => ?_)
    · replace hF := (ifP hF).2 hc
      refine v_iconst (pc := 356) (v := (0 : Int32)) dL_isDesk_356 rfl ?_
      refine v_istore (pc := 357) (i := 10) [some (sr c0), some (sr c1), some (sr c2), some (sr c3), some (sr c4), some (sr c5), some (si c6), some (sr c7), some (si (a.1 + (1 : Int32))), some (si c9), some (si (0 : Int32)), some (si a.2.2), none, none, none, none] dL_isDesk_357 (by decide) rfl rfl ?_
      refine v_iinc (pc := 359) (i := 11) (a.2.2 + (1 : Int32)) [some (sr c0), some (sr c1), some (sr c2), some (sr c3), some (sr c4), some (sr c5), some (si c6), some (sr c7), some (si (a.1 + (1 : Int32))), some (si c9), some (si (0 : Int32)), some (si (a.2.2 + (1 : Int32))), none, none, none, none] dL_isDesk_359 rfl rfl rfl rfl ?_
      refine v_goto (pc := 362) 119 dL_isDesk_362 rfl ?_
      exact v_room (k' := 11 * m + k) (n' := 66 * m + n) (by omega) (by omega) <| v_lle [some (sr c0), some (sr c1), some (sr c2), some (sr c3), some (sr c4), some (sr c5), some (si c6), some (sr c7), some (si (a.1 + (1 : Int32))), some (si c9), some (si (0 : Int32)), some (si (a.2.2 + (1 : Int32))), none, none, none, none] ⟨rfl, rfl, rfl, rfl, rfl, rfl, rfl, rfl, rfl, rfl, rfl, rfl, trivial⟩ (hL (a.1 + (1 : Int32), (0 : Int32), a.2.2 + (1 : Int32)) hF)
    replace hF := (ifP hF).1 hc
    refine v_aload_n (pc := 304) (i := 0) dL_isDesk_304 rfl rfl ?_
    refine v_iload (pc := 305) (i := 11) dL_isDesk_305 rfl ?_
    refine yc_V (pc := 307) gI (as := [si a.2.2]) (st := []) (ci := 9) (N := mX10_presses) (k := 11 * m + k + 2) (n := 66 * m + n + 12) (k1 := 1) (n1 := 6) dL_isDesk_307 lkL_177 caX10_presses cvX10_presses rfl (by decide) rfl (fun b Q1 hq => tX10_presses b a.2.2 h Q1 hq) ⟨by decide, by decide⟩ (Nat.le_of_ble_eq_true rfl) hF (fun x48 hF => ?_)
    show gV G mL_isDesk 56 Q 310 [some (sr c0), some (sr c1), some (sr c2), some (sr c3), some (sr c4), some (sr c5), some (si c6), some (sr c7), some (si (a.1 + (1 : Int32))), some (si c9), none, some (si a.2.2), none, none, none, none] [si x48] (11 * m + k + 2) (66 * m + n + 12) h
    refine v_aload_n (pc := 310) (i := 2) dL_isDesk_310 rfl rfl ?_
    refine v_bipush (pc := 311) (v := (6 : Int32)) dL_isDesk_311 rfl ?_
    refine v_iload (pc := 313) (i := 11) dL_isDesk_313 rfl ?_
    refine v_imul (pc := 315) dL_isDesk_315 ?_
    refine v_iconst (pc := 316) (v := (5 : Int32)) dL_isDesk_316 rfl ?_
    refine v_iadd (pc := 317) dL_isDesk_317 ?_
    refine s_iald (f := some) (pc := 318) dL_isDesk_318 (okB_bs hF) (fun x49 hF => ?_)
    replace hF := okB_some hF
    refine v_icmp_ne (pc := 319) 356 dL_isDesk_319 rfl (fun hc => ?_) (fun hc => ?_)
    · replace hF := (ifP hF).2 hc
      refine v_iconst (pc := 356) (v := (0 : Int32)) dL_isDesk_356 rfl ?_
      refine v_istore (pc := 357) (i := 10) [some (sr c0), some (sr c1), some (sr c2), some (sr c3), some (sr c4), some (sr c5), some (si c6), some (sr c7), some (si (a.1 + (1 : Int32))), some (si c9), some (si (0 : Int32)), some (si a.2.2), none, none, none, none] dL_isDesk_357 (by decide) rfl rfl ?_
      refine v_iinc (pc := 359) (i := 11) (a.2.2 + (1 : Int32)) [some (sr c0), some (sr c1), some (sr c2), some (sr c3), some (sr c4), some (sr c5), some (si c6), some (sr c7), some (si (a.1 + (1 : Int32))), some (si c9), some (si (0 : Int32)), some (si (a.2.2 + (1 : Int32))), none, none, none, none] dL_isDesk_359 rfl rfl rfl rfl ?_
      refine v_goto (pc := 362) 119 dL_isDesk_362 rfl ?_
      exact v_room (k' := 11 * m + k) (n' := 66 * m + n) (by omega) (by omega) <| v_lle [some (sr c0), some (sr c1), some (sr c2), some (sr c3), some (sr c4), some (sr c5), some (si c6), some (sr c7), some (si (a.1 + (1 : Int32))), some (si c9), some (si (0 : Int32)), some (si (a.2.2 + (1 : Int32))), none, none, none, none] ⟨rfl, rfl, rfl, rfl, rfl, rfl, rfl, rfl, rfl, rfl, rfl, rfl, trivial⟩ (hL (a.1 + (1 : Int32), (0 : Int32), a.2.2 + (1 : Int32)) hF)
    replace hF := (ifP hF).1 hc
    refine v_aload_n (pc := 322) (i := 0) dL_isDesk_322 rfl rfl ?_
    refine v_iload (pc := 323) (i := 11) dL_isDesk_323 rfl ?_
    refine yc_V (pc := 325) gI (as := [si a.2.2]) (st := []) (ci := 9) (N := mX10_isShown) (k := 11 * m + k + 1) (n := 66 * m + n + 6) (k1 := 1) (n1 := 6) dL_isDesk_325 lkL_180 caX10_isShown cvX10_isShown rfl (by decide) rfl (fun b Q1 hq => tX10_isShown b a.2.2 h Q1 hq) ⟨by decide, by decide⟩ (Nat.le_of_ble_eq_true rfl) hF (fun x50 hF => ?_)
    show gV G mL_isDesk 56 Q 328 [some (sr c0), some (sr c1), some (sr c2), some (sr c3), some (sr c4), some (sr c5), some (si c6), some (sr c7), some (si (a.1 + (1 : Int32))), some (si c9), none, some (si a.2.2), none, none, none, none] [si x50] (11 * m + k + 1) (66 * m + n + 6) h
    refine v_aload_n (pc := 328) (i := 2) dL_isDesk_328 rfl rfl ?_
    refine v_iload (pc := 329) (i := 11) dL_isDesk_329 rfl ?_
    refine yp_S (pc := 331) gI (as := [sr c2, si a.2.2]) (st := [si x50]) (N := mL_isShown) (k := 11 * m + k + 1) (n := 66 * m + n + 6) (k1 := 0) (n1 := 0) dL_isDesk_331 lkL_101 caL_isShown csL_isShown rfl (fun Q1 hq => tL_isShown c2 a.2.2 h Q1 hq) ⟨by decide, by decide⟩ (Nat.le_of_ble_eq_true rfl) hF (fun x51 hF => ?_)
    show gV G mL_isDesk 56 Q 334 [some (sr c0), some (sr c1), some (sr c2), some (sr c3), some (sr c4), some (sr c5), some (si c6), some (sr c7), some (si (a.1 + (1 : Int32))), some (si c9), none, some (si a.2.2), none, none, none, none] [si x51, si x50] (11 * m + k + 1) (66 * m + n + 6) h
    refine v_icmp_ne (pc := 334) 356 dL_isDesk_334 rfl (fun hc => ?_) (fun hc => ?_)
    · replace hF := (ifP hF).2 hc
      refine v_iconst (pc := 356) (v := (0 : Int32)) dL_isDesk_356 rfl ?_
      refine v_istore (pc := 357) (i := 10) [some (sr c0), some (sr c1), some (sr c2), some (sr c3), some (sr c4), some (sr c5), some (si c6), some (sr c7), some (si (a.1 + (1 : Int32))), some (si c9), some (si (0 : Int32)), some (si a.2.2), none, none, none, none] dL_isDesk_357 (by decide) rfl rfl ?_
      refine v_iinc (pc := 359) (i := 11) (a.2.2 + (1 : Int32)) [some (sr c0), some (sr c1), some (sr c2), some (sr c3), some (sr c4), some (sr c5), some (si c6), some (sr c7), some (si (a.1 + (1 : Int32))), some (si c9), some (si (0 : Int32)), some (si (a.2.2 + (1 : Int32))), none, none, none, none] dL_isDesk_359 rfl rfl rfl rfl ?_
      refine v_goto (pc := 362) 119 dL_isDesk_362 rfl ?_
      exact v_room (k' := 11 * m + k) (n' := 66 * m + n) (by omega) (by omega) <| v_lle [some (sr c0), some (sr c1), some (sr c2), some (sr c3), some (sr c4), some (sr c5), some (si c6), some (sr c7), some (si (a.1 + (1 : Int32))), some (si c9), some (si (0 : Int32)), some (si (a.2.2 + (1 : Int32))), none, none, none, none] ⟨rfl, rfl, rfl, rfl, rfl, rfl, rfl, rfl, rfl, rfl, rfl, rfl, trivial⟩ (hL (a.1 + (1 : Int32), (0 : Int32), a.2.2 + (1 : Int32)) hF)
    replace hF := (ifP hF).1 hc
    refine v_aload_n (pc := 337) (i := 0) dL_isDesk_337 rfl rfl ?_
    refine v_iload (pc := 338) (i := 11) dL_isDesk_338 rfl ?_
    refine yc_V (pc := 340) gI (as := [si a.2.2]) (st := []) (ci := 9) (N := mX10_level) (k := 11 * m + k + 0) (n := 66 * m + n + 0) (k1 := 1) (n1 := 6) dL_isDesk_340 lkL_182 caX10_level cvX10_level rfl (by decide) rfl (fun b Q1 hq => tX10_level b a.2.2 h Q1 hq) ⟨by decide, by decide⟩ (Nat.le_of_ble_eq_true rfl) hF (fun x52 hF => ?_)
    show gV G mL_isDesk 56 Q 343 [some (sr c0), some (sr c1), some (sr c2), some (sr c3), some (sr c4), some (sr c5), some (si c6), some (sr c7), some (si (a.1 + (1 : Int32))), some (si c9), none, some (si a.2.2), none, none, none, none] [si x52] (11 * m + k + 0) (66 * m + n + 0) h
    refine v_aload_n (pc := 343) (i := 2) dL_isDesk_343 rfl rfl ?_
    refine v_iload (pc := 344) (i := 11) dL_isDesk_344 rfl ?_
    refine yp_S (pc := 346) gI (as := [sr c2, si a.2.2]) (st := [si x52]) (N := mL_level) (k := 11 * m + k + 0) (n := 66 * m + n + 0) (k1 := 0) (n1 := 0) dL_isDesk_346 lkL_30 caL_level csL_level rfl (fun Q1 hq => tL_level c2 a.2.2 h Q1 hq) ⟨by decide, by decide⟩ (Nat.le_of_ble_eq_true rfl) hF (fun x53 hF => ?_)
    show gV G mL_isDesk 56 Q 349 [some (sr c0), some (sr c1), some (sr c2), some (sr c3), some (sr c4), some (sr c5), some (si c6), some (sr c7), some (si (a.1 + (1 : Int32))), some (si c9), none, some (si a.2.2), none, none, none, none] [si x53, si x52] (11 * m + k + 0) (66 * m + n + 0) h
    refine v_icmp_ne (pc := 349) 356 dL_isDesk_349 rfl (fun hc => ?_) (fun hc => ?_)
    · replace hF := (ifP hF).2 hc
      refine v_iconst (pc := 356) (v := (0 : Int32)) dL_isDesk_356 rfl ?_
      refine v_istore (pc := 357) (i := 10) [some (sr c0), some (sr c1), some (sr c2), some (sr c3), some (sr c4), some (sr c5), some (si c6), some (sr c7), some (si (a.1 + (1 : Int32))), some (si c9), some (si (0 : Int32)), some (si a.2.2), none, none, none, none] dL_isDesk_357 (by decide) rfl rfl ?_
      refine v_iinc (pc := 359) (i := 11) (a.2.2 + (1 : Int32)) [some (sr c0), some (sr c1), some (sr c2), some (sr c3), some (sr c4), some (sr c5), some (si c6), some (sr c7), some (si (a.1 + (1 : Int32))), some (si c9), some (si (0 : Int32)), some (si (a.2.2 + (1 : Int32))), none, none, none, none] dL_isDesk_359 rfl rfl rfl rfl ?_
      refine v_goto (pc := 362) 119 dL_isDesk_362 rfl ?_
      exact v_room (k' := 11 * m + k) (n' := 66 * m + n) (by omega) (by omega) <| v_lle [some (sr c0), some (sr c1), some (sr c2), some (sr c3), some (sr c4), some (sr c5), some (si c6), some (sr c7), some (si (a.1 + (1 : Int32))), some (si c9), some (si (0 : Int32)), some (si (a.2.2 + (1 : Int32))), none, none, none, none] ⟨rfl, rfl, rfl, rfl, rfl, rfl, rfl, rfl, rfl, rfl, rfl, rfl, trivial⟩ (hL (a.1 + (1 : Int32), (0 : Int32), a.2.2 + (1 : Int32)) hF)
    replace hF := (ifP hF).1 hc
    refine v_iconst (pc := 352) (v := (1 : Int32)) dL_isDesk_352 rfl ?_
    refine v_goto (pc := 353) 357 dL_isDesk_353 rfl ?_
    refine v_istore (pc := 357) (i := 10) [some (sr c0), some (sr c1), some (sr c2), some (sr c3), some (sr c4), some (sr c5), some (si c6), some (sr c7), some (si (a.1 + (1 : Int32))), some (si c9), some (si (1 : Int32)), some (si a.2.2), none, none, none, none] dL_isDesk_357 (by decide) rfl rfl ?_
    refine v_iinc (pc := 359) (i := 11) (a.2.2 + (1 : Int32)) [some (sr c0), some (sr c1), some (sr c2), some (sr c3), some (sr c4), some (sr c5), some (si c6), some (sr c7), some (si (a.1 + (1 : Int32))), some (si c9), some (si (1 : Int32)), some (si (a.2.2 + (1 : Int32))), none, none, none, none] dL_isDesk_359 rfl rfl rfl rfl ?_
    refine v_goto (pc := 362) 119 dL_isDesk_362 rfl ?_
    exact v_room (k' := 11 * m + k) (n' := 66 * m + n) (by omega) (by omega) <| v_lle [some (sr c0), some (sr c1), some (sr c2), some (sr c3), some (sr c4), some (sr c5), some (si c6), some (sr c7), some (si (a.1 + (1 : Int32))), some (si c9), some (si (1 : Int32)), some (si (a.2.2 + (1 : Int32))), none, none, none, none] ⟨rfl, rfl, rfl, rfl, rfl, rfl, rfl, rfl, rfl, rfl, rfl, rfl, trivial⟩ (hL (a.1 + (1 : Int32), (1 : Int32), a.2.2 + (1 : Int32)) hF))
theorem lL_isDesk_478 {G : gG} {Q : hQ} {KE : (Int32 × hp) → Prop} {k n : Nat} (c0 : (Option Nat)) (c1 : (Option Nat)) (c2 : (Option Nat)) (c3 : (Option Nat)) (c4 : (Option Nat)) (c5 : (Option Nat)) (c7 : (Option Nat)) (c11 : Int32) (c12 : Int32) (hJ : ∀ q : (Int32 × hp), KE q → gV G mL_isDesk 56 Q 519 [some (sr c0), some (sr c1), some (sr c2), some (sr c3), some (sr c4), some (sr c5), none, some (sr c7), none, none, some (si q.1), none, none, none, none, none] [] (k) (n) q.2) : ∀ (fu : Nat) (a : (Int32 × Int32 × hp)), itrW (fL_isDesk_B478 c0 c1 c2 c3 c4 c5 c7 c11 c12) fu a KE → gV G mL_isDesk 56 Q 478 [some (sr c0), some (sr c1), some (sr c2), some (sr c3), some (sr c4), some (sr c5), none, some (sr c7), none, none, some (si a.1), some (si c11), some (si c12), some (si a.2.1), none, none] [] (3 * fu + k) (18 * fu + n) a.2.2 :=
  lpW (X := fun (m : Nat) (a : (Int32 × Int32 × hp)) => gV G mL_isDesk 56 Q 478 [some (sr c0), some (sr c1), some (sr c2), some (sr c3), some (sr c4), some (sr c5), none, some (sr c7), none, none, some (si a.1), some (si c11), some (si c12), some (si a.2.1), none, none] [] (3 * m + k) (18 * m + n) a.2.2) (fun m a P1 hL hF => by
    delta fL_isDesk_B478 at hF
    refine v_room (k' := 3 * m + k + 3) (n' := 18 * m + n + 18) (by omega) (by omega) ?_
    refine v_iload (pc := 478) (i := 13) dL_isDesk_478 rfl ?_
    refine v_iload (pc := 480) (i := 12) dL_isDesk_480 rfl ?_
    refine v_icmp_ge (pc := 482) 519 dL_isDesk_482 rfl (fun hc => ?_) (fun hc => ?_)
    · replace hF := (ifP hF).1 hc
      exact v_room (k' := k) (n' := n) (by omega) (by omega) <| v_lle [some (sr c0), some (sr c1), some (sr c2), some (sr c3), some (sr c4), some (sr c5), none, some (sr c7), none, none, some (si a.1), none, none, none, none, none] ⟨rfl, rfl, rfl, rfl, rfl, rfl, rfl, rfl, trivial⟩ (hJ (a.1, a.2.2) hF)
    replace hF := (ifP hF).2 hc
    refine v_iload (pc := 485) (i := 10) dL_isDesk_485 rfl ?_
    refine v_if_eq (pc := 487) 519 dL_isDesk_487 rfl (fun hc => ?_) (fun hc => ?_)
    · replace hF := (ifP hF).1 hc
      exact v_room (k' := k) (n' := n) (by omega) (by omega) <| v_lle [some (sr c0), some (sr c1), some (sr c2), some (sr c3), some (sr c4), some (sr c5), none, some (sr c7), none, none, some (si a.1), none, none, none, none, none] ⟨rfl, rfl, rfl, rfl, rfl, rfl, rfl, rfl, trivial⟩ (hJ (a.1, a.2.2) hF)
    replace hF := (ifP hF).2 hc
    refine v_aload_n (pc := 490) (i := 0) dL_isDesk_490 rfl rfl ?_
    refine v_iload (pc := 491) (i := 11) dL_isDesk_491 rfl ?_
    refine v_iload (pc := 493) (i := 13) dL_isDesk_493 rfl ?_
    refine yx_V (pc := 495) gI (as := [si c11, si a.2.1]) (st := []) (ci := 9) (N := mX10_wordsAt) (k := 3 * m + k + 0) (n := 18 * m + n + 0) (k1 := 3) (n1 := 18) dL_isDesk_495 lkL_130 caX10_wordsAt cvX10_wordsAt rfl (by decide) rfl (fun b Q1 hq => tX10_wordsAt b c11 a.2.1 a.2.2 Q1 hq) ⟨by decide, by decide⟩ (Nat.le_of_ble_eq_true rfl) hF (fun x1 h2 hF => ?_)
    show gV G mL_isDesk 56 Q 498 [some (sr c0), some (sr c1), some (sr c2), some (sr c3), some (sr c4), some (sr c5), none, some (sr c7), none, none, some (si a.1), some (si c11), some (si c12), some (si a.2.1), none, none] [si x1] (3 * m + k + 0) (18 * m + n + 0) h2
    refine v_aload (pc := 498) (i := 7) dL_isDesk_498 rfl ?_
    refine v_iload (pc := 500) (i := 13) dL_isDesk_500 rfl ?_
    refine s_iald (f := some) (pc := 502) dL_isDesk_502 (okB_bs hF) (fun x3 hF => ?_)
    replace hF := okB_some hF
    refine v_icmp_ne (pc := 503) 510 dL_isDesk_503 rfl (fun hc => ?_) (fun hc => ?_)
    · replace hF := (ifP hF).2 hc
      refine v_iconst (pc := 510) (v := (0 : Int32)) dL_isDesk_510 rfl ?_
      refine v_istore (pc := 511) (i := 10) [some (sr c0), some (sr c1), some (sr c2), some (sr c3), some (sr c4), some (sr c5), none, some (sr c7), none, none, some (si (0 : Int32)), some (si c11), some (si c12), some (si a.2.1), none, none] dL_isDesk_511 (by decide) rfl rfl ?_
      refine v_iinc (pc := 513) (i := 13) (a.2.1 + (1 : Int32)) [some (sr c0), some (sr c1), some (sr c2), some (sr c3), some (sr c4), some (sr c5), none, some (sr c7), none, none, some (si (0 : Int32)), some (si c11), some (si c12), some (si (a.2.1 + (1 : Int32))), none, none] dL_isDesk_513 rfl rfl rfl rfl ?_
      refine v_goto (pc := 516) 478 dL_isDesk_516 rfl ?_
      exact v_room (k' := 3 * m + k) (n' := 18 * m + n) (by omega) (by omega) <| v_lle [some (sr c0), some (sr c1), some (sr c2), some (sr c3), some (sr c4), some (sr c5), none, some (sr c7), none, none, some (si (0 : Int32)), some (si c11), some (si c12), some (si (a.2.1 + (1 : Int32))), none, none] ⟨rfl, rfl, rfl, rfl, rfl, rfl, rfl, rfl, rfl, rfl, rfl, trivial⟩ (hL ((0 : Int32), a.2.1 + (1 : Int32), h2) hF)
    replace hF := (ifP hF).1 hc
    refine v_iconst (pc := 506) (v := (1 : Int32)) dL_isDesk_506 rfl ?_
    refine v_goto (pc := 507) 511 dL_isDesk_507 rfl ?_
    refine v_istore (pc := 511) (i := 10) [some (sr c0), some (sr c1), some (sr c2), some (sr c3), some (sr c4), some (sr c5), none, some (sr c7), none, none, some (si (1 : Int32)), some (si c11), some (si c12), some (si a.2.1), none, none] dL_isDesk_511 (by decide) rfl rfl ?_
    refine v_iinc (pc := 513) (i := 13) (a.2.1 + (1 : Int32)) [some (sr c0), some (sr c1), some (sr c2), some (sr c3), some (sr c4), some (sr c5), none, some (sr c7), none, none, some (si (1 : Int32)), some (si c11), some (si c12), some (si (a.2.1 + (1 : Int32))), none, none] dL_isDesk_513 rfl rfl rfl rfl ?_
    refine v_goto (pc := 516) 478 dL_isDesk_516 rfl ?_
    exact v_room (k' := 3 * m + k) (n' := 18 * m + n) (by omega) (by omega) <| v_lle [some (sr c0), some (sr c1), some (sr c2), some (sr c3), some (sr c4), some (sr c5), none, some (sr c7), none, none, some (si (1 : Int32)), some (si c11), some (si c12), some (si (a.2.1 + (1 : Int32))), none, none] ⟨rfl, rfl, rfl, rfl, rfl, rfl, rfl, rfl, rfl, rfl, rfl, trivial⟩ (hL ((1 : Int32), a.2.1 + (1 : Int32), h2) hF))
theorem lL_isDesk_557 {G : gG} {Q : hQ} {KE : (Int32 × hp) → Prop} {k n : Nat} (c0 : (Option Nat)) (c1 : (Option Nat)) (c7 : (Option Nat)) (c13 : Int32) (hJ : ∀ q : (Int32 × hp), KE q → gV G mL_isDesk 56 Q 630 [none, none, none, none, none, none, none, none, none, none, some (si q.1), none, none, none, none, none] [] (k) (n) q.2) : ∀ (fu : Nat) (a : (Int32 × Int32 × hp)), itrW (fL_isDesk_B557 c0 c1 c7 c13) fu a KE → gV G mL_isDesk 56 Q 557 [some (sr c0), some (sr c1), none, none, none, none, none, some (sr c7), none, none, some (si a.1), none, none, some (si c13), some (si a.2.1), none] [] (2 * fu + k) (12 * fu + n) a.2.2 :=
  lpW (X := fun (m : Nat) (a : (Int32 × Int32 × hp)) => gV G mL_isDesk 56 Q 557 [some (sr c0), some (sr c1), none, none, none, none, none, some (sr c7), none, none, some (si a.1), none, none, some (si c13), some (si a.2.1), none] [] (2 * m + k) (12 * m + n) a.2.2) (fun m a P1 hL hF => by
    delta fL_isDesk_B557 at hF
    refine v_room (k' := 2 * m + k + 2) (n' := 12 * m + n + 12) (by omega) (by omega) ?_
    refine v_iload (pc := 557) (i := 14) dL_isDesk_557 rfl ?_
    refine v_bipush (pc := 559) (v := (10 : Int32)) dL_isDesk_559 rfl ?_
    refine v_icmp_ge (pc := 561) 630 dL_isDesk_561 rfl (fun hc => ?_) (fun hc => ?_)
    · replace hF := (ifP hF).1 hc
      exact v_room (k' := k) (n' := n) (by omega) (by omega) <| v_lle [none, none, none, none, none, none, none, none, none, none, some (si a.1), none, none, none, none, none] ⟨rfl, trivial⟩ (hJ (a.1, a.2.2) hF)
    replace hF := (ifP hF).2 hc
    refine v_iload (pc := 564) (i := 10) dL_isDesk_564 rfl ?_
    refine v_if_eq (pc := 566) 630 dL_isDesk_566 rfl (fun hc => ?_) (fun hc => ?_)
    · replace hF := (ifP hF).1 hc
      exact v_room (k' := k) (n' := n) (by omega) (by omega) <| v_lle [none, none, none, none, none, none, none, none, none, none, some (si a.1), none, none, none, none, none] ⟨rfl, trivial⟩ (hJ (a.1, a.2.2) hF)
    replace hF := (ifP hF).2 hc
    refine v_aload_n (pc := 569) (i := 1) dL_isDesk_569 rfl rfl ?_
    refine v_iconst (pc := 570) (v := (3 : Int32)) dL_isDesk_570 rfl ?_
    refine s_iald (f := some) (pc := 571) dL_isDesk_571 (okB_bs hF) (fun x1 hF => ?_)
    replace hF := okB_some hF
    refine v_iload (pc := 572) (i := 14) dL_isDesk_572 rfl ?_
    refine v_iadd (pc := 574) dL_isDesk_574 ?_
    refine v_iload (pc := 575) (i := 13) dL_isDesk_575 rfl ?_
    refine mgW (X := fun q2 => gV G mL_isDesk 56 Q 593 [some (sr c0), some (sr c1), none, none, none, none, none, some (sr c7), none, none, none, none, none, some (si c13), some (si a.2.1), none] [si q2] (2 * m + k + 2) (12 * m + n + 12) a.2.2) hF (fun K2 hj2 hF => ?_) (fun q2 hF => ?_)
    · refine v_icmp_ge (pc := 577) 592 dL_isDesk_577 rfl (fun hc => ?_) (fun hc => ?_)
      · replace hF := (ifP hF).1 hc
        refine v_iconst (pc := 592) (v := (0 : Int32)) dL_isDesk_592 rfl ?_
        exact v_lle [some (sr c0), some (sr c1), none, none, none, none, none, some (sr c7), none, none, none, none, none, some (si c13), some (si a.2.1), none] ⟨rfl, rfl, rfl, rfl, rfl, trivial⟩ (hj2 (0 : Int32) hF)
      replace hF := (ifP hF).2 hc
      refine v_aload (pc := 580) (i := 7) dL_isDesk_580 rfl ?_
      refine v_aload_n (pc := 582) (i := 1) dL_isDesk_582 rfl rfl ?_
      refine v_iconst (pc := 583) (v := (3 : Int32)) dL_isDesk_583 rfl ?_
      refine s_iald (f := some) (pc := 584) dL_isDesk_584 (okB_bs hF) (fun x3 hF => ?_)
      replace hF := okB_some hF
      refine v_iload (pc := 585) (i := 14) dL_isDesk_585 rfl ?_
      refine v_iadd (pc := 587) dL_isDesk_587 ?_
      refine s_iald (f := some) (pc := 588) dL_isDesk_588 (okB_bs hF) (fun x4 hF => ?_)
      replace hF := okB_some hF
      refine v_goto (pc := 589) 593 dL_isDesk_589 rfl ?_
      exact v_lle [some (sr c0), some (sr c1), none, none, none, none, none, some (sr c7), none, none, none, none, none, some (si c13), some (si a.2.1), none] ⟨rfl, rfl, rfl, rfl, rfl, trivial⟩ (hj2 x4 hF)
    refine v_istore (pc := 593) (i := 15) [some (sr c0), some (sr c1), none, none, none, none, none, some (sr c7), none, none, none, none, none, some (si c13), some (si a.2.1), some (si q2)] dL_isDesk_593 (by decide) rfl rfl ?_
    refine v_aload_n (pc := 595) (i := 0) dL_isDesk_595 rfl rfl ?_
    refine v_iload (pc := 596) (i := 14) dL_isDesk_596 rfl ?_
    refine yc_V (pc := 598) gI (as := [si a.2.1]) (st := []) (ci := 9) (N := mX10_pin) (k := 2 * m + k + 1) (n := 12 * m + n + 6) (k1 := 1) (n1 := 6) dL_isDesk_598 lkL_205 caX10_pin cvX10_pin rfl (by decide) rfl (fun b Q1 hq => tX10_pin b a.2.1 a.2.2 Q1 hq) ⟨by decide, by decide⟩ (Nat.le_of_ble_eq_true rfl) hF (fun x5 hF => ?_)
    show gV G mL_isDesk 56 Q 601 [some (sr c0), some (sr c1), none, none, none, none, none, some (sr c7), none, none, none, none, none, some (si c13), some (si a.2.1), some (si q2)] [si x5] (2 * m + k + 1) (12 * m + n + 6) a.2.2
    refine v_iload (pc := 601) (i := 15) dL_isDesk_601 rfl ?_
    refine v_icmp_ne (pc := 603) 621 dL_isDesk_603 rfl (fun hc => ?_) (fun hc => ?_)
    · replace hF := (ifP hF).2 hc
      refine v_iconst (pc := 621) (v := (0 : Int32)) dL_isDesk_621 rfl ?_
      refine v_istore (pc := 622) (i := 10) [some (sr c0), some (sr c1), none, none, none, none, none, some (sr c7), none, none, some (si (0 : Int32)), none, none, some (si c13), some (si a.2.1), some (si q2)] dL_isDesk_622 (by decide) rfl rfl ?_
      refine v_iinc (pc := 624) (i := 14) (a.2.1 + (1 : Int32)) [some (sr c0), some (sr c1), none, none, none, none, none, some (sr c7), none, none, some (si (0 : Int32)), none, none, some (si c13), some (si (a.2.1 + (1 : Int32))), some (si q2)] dL_isDesk_624 rfl rfl rfl rfl ?_
      refine v_goto (pc := 627) 557 dL_isDesk_627 rfl ?_
      exact v_room (k' := 2 * m + k) (n' := 12 * m + n) (by omega) (by omega) <| v_lle [some (sr c0), some (sr c1), none, none, none, none, none, some (sr c7), none, none, some (si (0 : Int32)), none, none, some (si c13), some (si (a.2.1 + (1 : Int32))), none] ⟨rfl, rfl, rfl, rfl, rfl, rfl, trivial⟩ (hL ((0 : Int32), a.2.1 + (1 : Int32), a.2.2) hF)
    replace hF := (ifP hF).1 hc
    refine v_aload_n (pc := 606) (i := 0) dL_isDesk_606 rfl rfl ?_
    refine v_iload (pc := 607) (i := 14) dL_isDesk_607 rfl ?_
    refine yx_V (pc := 609) gI (as := [si a.2.1]) (st := []) (ci := 9) (N := mX10_pinAnew) (k := 2 * m + k + 0) (n := 12 * m + n + 0) (k1 := 1) (n1 := 6) dL_isDesk_609 lkL_208 caX10_pinAnew cvX10_pinAnew rfl (by decide) rfl (fun b Q1 hq => tX10_pinAnew b a.2.1 a.2.2 Q1 hq) ⟨by decide, by decide⟩ (Nat.le_of_ble_eq_true rfl) hF (fun x6 h7 hF => ?_)
    show gV G mL_isDesk 56 Q 612 [some (sr c0), some (sr c1), none, none, none, none, none, some (sr c7), none, none, none, none, none, some (si c13), some (si a.2.1), some (si q2)] [si x6] (2 * m + k + 0) (12 * m + n + 0) h7
    refine v_iload (pc := 612) (i := 15) dL_isDesk_612 rfl ?_
    refine v_icmp_ne (pc := 614) 621 dL_isDesk_614 rfl (fun hc => ?_) (fun hc => ?_)
    · replace hF := (ifP hF).2 hc
      refine v_iconst (pc := 621) (v := (0 : Int32)) dL_isDesk_621 rfl ?_
      refine v_istore (pc := 622) (i := 10) [some (sr c0), some (sr c1), none, none, none, none, none, some (sr c7), none, none, some (si (0 : Int32)), none, none, some (si c13), some (si a.2.1), some (si q2)] dL_isDesk_622 (by decide) rfl rfl ?_
      refine v_iinc (pc := 624) (i := 14) (a.2.1 + (1 : Int32)) [some (sr c0), some (sr c1), none, none, none, none, none, some (sr c7), none, none, some (si (0 : Int32)), none, none, some (si c13), some (si (a.2.1 + (1 : Int32))), some (si q2)] dL_isDesk_624 rfl rfl rfl rfl ?_
      refine v_goto (pc := 627) 557 dL_isDesk_627 rfl ?_
      exact v_room (k' := 2 * m + k) (n' := 12 * m + n) (by omega) (by omega) <| v_lle [some (sr c0), some (sr c1), none, none, none, none, none, some (sr c7), none, none, some (si (0 : Int32)), none, none, some (si c13), some (si (a.2.1 + (1 : Int32))), none] ⟨rfl, rfl, rfl, rfl, rfl, rfl, trivial⟩ (hL ((0 : Int32), a.2.1 + (1 : Int32), h7) hF)
    replace hF := (ifP hF).1 hc
    refine v_iconst (pc := 617) (v := (1 : Int32)) dL_isDesk_617 rfl ?_
    refine v_goto (pc := 618) 622 dL_isDesk_618 rfl ?_
    refine v_istore (pc := 622) (i := 10) [some (sr c0), some (sr c1), none, none, none, none, none, some (sr c7), none, none, some (si (1 : Int32)), none, none, some (si c13), some (si a.2.1), some (si q2)] dL_isDesk_622 (by decide) rfl rfl ?_
    refine v_iinc (pc := 624) (i := 14) (a.2.1 + (1 : Int32)) [some (sr c0), some (sr c1), none, none, none, none, none, some (sr c7), none, none, some (si (1 : Int32)), none, none, some (si c13), some (si (a.2.1 + (1 : Int32))), some (si q2)] dL_isDesk_624 rfl rfl rfl rfl ?_
    refine v_goto (pc := 627) 557 dL_isDesk_627 rfl ?_
    exact v_room (k' := 2 * m + k) (n' := 12 * m + n) (by omega) (by omega) <| v_lle [some (sr c0), some (sr c1), none, none, none, none, none, some (sr c7), none, none, some (si (1 : Int32)), none, none, some (si c13), some (si (a.2.1 + (1 : Int32))), none] ⟨rfl, rfl, rfl, rfl, rfl, rfl, trivial⟩ (hL ((1 : Int32), a.2.1 + (1 : Int32), h7) hF))
theorem tL_isDesk {G : gG} (a0 : (Option Nat)) (a1 : (Option Nat)) (a2 : (Option Nat)) (a3 : (Option Nat)) (a4 : (Option Nat)) (a5 : (Option Nat)) (a6 : Int32) (h : hp) (K : Int32 → hp → Prop) (Q : hQ) (hK : ∀ x h', K x h' → Q (.inl (some (si x))) h') (hF : fL_isDesk a0 a1 a2 a3 a4 a5 a6 h K) : gS G mL_isDesk 56 378 2615 [sr a0, sr a1, sr a2, sr a3, sr a4, sr a5, si a6] h Q := by
  delta fL_isDesk at hF
  refine gS_at [some (sr a0), some (sr a1), some (sr a2), some (sr a3), some (sr a4), some (sr a5), some (si a6), none, none, none, none, none, none, none, none, none] pl_L rfl (Nat.le_of_ble_eq_true rfl) rfl ?_
  refine v_bipush (pc := 0) (v := (64 : Int32)) dL_isDesk_0 rfl ?_
  refine v_newI (pc := 2) (k := 377) (n := 2551) (len := 64) dL_isDesk_2 rfl (by decide) ?_
  refine v_astore (pc := 4) (i := 7) [some (sr a0), some (sr a1), some (sr a2), some (sr a3), some (sr a4), some (sr a5), some (si a6), some (sr (some (hN h))), none, none, none, none, none, none, none, none] dL_isDesk_4 (by decide) rfl rfl ?_
  refine v_iconst (pc := 6) (v := (0 : Int32)) dL_isDesk_6 rfl ?_
  refine v_istore (pc := 7) (i := 8) [some (sr a0), some (sr a1), some (sr a2), some (sr a3), some (sr a4), some (sr a5), some (si a6), some (sr (some (hN h))), some (si (0 : Int32)), none, none, none, none, none, none, none] dL_isDesk_7 (by decide) rfl rfl ?_
  refine v_iconst (pc := 9) (v := (0 : Int32)) dL_isDesk_9 rfl ?_
  refine v_istore (pc := 10) (i := 9) [some (sr a0), some (sr a1), some (sr a2), some (sr a3), some (sr a4), some (sr a5), some (si a6), some (sr (some (hN h))), some (si (0 : Int32)), some (si (0 : Int32)), none, none, none, none, none, none] dL_isDesk_10 (by decide) rfl rfl ?_
  refine v_aload_n (pc := 12) (i := 0) dL_isDesk_12 rfl rfl ?_
  refine yp_V (pc := 13) gI (as := []) (st := []) (ci := 9) (N := mX10_cursor) (k := 377) (n := 2551) (k1 := 0) (n1 := 0) dL_isDesk_13 lkL_139 caX10_cursor cvX10_cursor rfl (by decide) rfl (fun b Q1 hq => tX10_cursor b (wN h (20, 64)) Q1 hq) ⟨by decide, by decide⟩ (Nat.le_of_ble_eq_true rfl) hF (fun x1 hF => ?_)
  show gV G mL_isDesk 56 Q 16 [some (sr a0), some (sr a1), some (sr a2), some (sr a3), some (sr a4), some (sr a5), some (si a6), some (sr (some (hN h))), some (si (0 : Int32)), some (si (0 : Int32)), none, none, none, none, none, none] [si x1] (377) (2551) (wN h (20, 64))
  refine v_aload_n (pc := 16) (i := 1) dL_isDesk_16 rfl rfl ?_
  refine v_iconst (pc := 17) (v := (1 : Int32)) dL_isDesk_17 rfl ?_
  refine s_iald (f := some) (pc := 18) dL_isDesk_18 (okB_bs hF) (fun x2 hF => ?_)
  replace hF := okB_some hF
  refine mgW (X := fun q3 => gV G mL_isDesk 56 Q 68 [some (sr a0), some (sr a1), some (sr a2), some (sr a3), some (sr a4), some (sr a5), some (si a6), some (sr (some (hN h))), some (si (0 : Int32)), some (si (0 : Int32)), none, none, none, none, none, none] [si q3] (377) (2551) (wN h (20, 64))) hF (fun K3 hj3 hF => ?_) (fun q3 hF => ?_)
  · refine v_icmp_ne (pc := 19) 67 dL_isDesk_19 rfl (fun hc => ?_) (fun hc => ?_)
    · replace hF := (ifP hF).2 hc
      refine v_iconst (pc := 67) (v := (0 : Int32)) dL_isDesk_67 rfl ?_
      exact v_lle [some (sr a0), some (sr a1), some (sr a2), some (sr a3), some (sr a4), some (sr a5), some (si a6), some (sr (some (hN h))), some (si (0 : Int32)), some (si (0 : Int32)), none, none, none, none, none, none] ⟨rfl, rfl, rfl, rfl, rfl, rfl, rfl, rfl, rfl, rfl, trivial⟩ (hj3 (0 : Int32) hF)
    replace hF := (ifP hF).1 hc
    refine v_aload_n (pc := 22) (i := 0) dL_isDesk_22 rfl rfl ?_
    refine yp_V (pc := 23) gI (as := []) (st := []) (ci := 9) (N := mX10_focus) (k := 377) (n := 2551) (k1 := 0) (n1 := 0) dL_isDesk_23 lkL_143 caX10_focus cvX10_focus rfl (by decide) rfl (fun b Q1 hq => tX10_focus b (wN h (20, 64)) Q1 hq) ⟨by decide, by decide⟩ (Nat.le_of_ble_eq_true rfl) hF (fun x4 hF => ?_)
    show gV G mL_isDesk 56 Q 26 [some (sr a0), some (sr a1), some (sr a2), some (sr a3), some (sr a4), some (sr a5), some (si a6), some (sr (some (hN h))), some (si (0 : Int32)), some (si (0 : Int32)), none, none, none, none, none, none] [si x4] (377) (2551) (wN h (20, 64))
    refine v_aload_n (pc := 26) (i := 1) dL_isDesk_26 rfl rfl ?_
    refine v_iconst (pc := 27) (v := (2 : Int32)) dL_isDesk_27 rfl ?_
    refine s_iald (f := some) (pc := 28) dL_isDesk_28 (okB_bs hF) (fun x5 hF => ?_)
    replace hF := okB_some hF
    refine v_iconst (pc := 29) (v := (1 : Int32)) dL_isDesk_29 rfl ?_
    refine v_isub (pc := 30) dL_isDesk_30 ?_
    refine v_icmp_ne (pc := 31) 67 dL_isDesk_31 rfl (fun hc => ?_) (fun hc => ?_)
    · replace hF := (ifP hF).2 hc
      refine v_iconst (pc := 67) (v := (0 : Int32)) dL_isDesk_67 rfl ?_
      exact v_lle [some (sr a0), some (sr a1), some (sr a2), some (sr a3), some (sr a4), some (sr a5), some (si a6), some (sr (some (hN h))), some (si (0 : Int32)), some (si (0 : Int32)), none, none, none, none, none, none] ⟨rfl, rfl, rfl, rfl, rfl, rfl, rfl, rfl, rfl, rfl, trivial⟩ (hj3 (0 : Int32) hF)
    replace hF := (ifP hF).1 hc
    refine v_aload_n (pc := 34) (i := 0) dL_isDesk_34 rfl rfl ?_
    refine yp_V (pc := 35) gI (as := []) (st := []) (ci := 9) (N := mX10_offset) (k := 377) (n := 2551) (k1 := 0) (n1 := 0) dL_isDesk_35 lkL_146 caX10_offset cvX10_offset rfl (by decide) rfl (fun b Q1 hq => tX10_offset b (wN h (20, 64)) Q1 hq) ⟨by decide, by decide⟩ (Nat.le_of_ble_eq_true rfl) hF (fun x6 hF => ?_)
    show gV G mL_isDesk 56 Q 38 [some (sr a0), some (sr a1), some (sr a2), some (sr a3), some (sr a4), some (sr a5), some (si a6), some (sr (some (hN h))), some (si (0 : Int32)), some (si (0 : Int32)), none, none, none, none, none, none] [si x6] (377) (2551) (wN h (20, 64))
    refine v_aload_n (pc := 38) (i := 1) dL_isDesk_38 rfl rfl ?_
    refine v_iconst (pc := 39) (v := (3 : Int32)) dL_isDesk_39 rfl ?_
    refine s_iald (f := some) (pc := 40) dL_isDesk_40 (okB_bs hF) (fun x7 hF => ?_)
    replace hF := okB_some hF
    refine v_icmp_ne (pc := 41) 67 dL_isDesk_41 rfl (fun hc => ?_) (fun hc => ?_)
    · replace hF := (ifP hF).2 hc
      refine v_iconst (pc := 67) (v := (0 : Int32)) dL_isDesk_67 rfl ?_
      exact v_lle [some (sr a0), some (sr a1), some (sr a2), some (sr a3), some (sr a4), some (sr a5), some (si a6), some (sr (some (hN h))), some (si (0 : Int32)), some (si (0 : Int32)), none, none, none, none, none, none] ⟨rfl, rfl, rfl, rfl, rfl, rfl, rfl, rfl, rfl, rfl, trivial⟩ (hj3 (0 : Int32) hF)
    replace hF := (ifP hF).1 hc
    refine v_aload_n (pc := 44) (i := 0) dL_isDesk_44 rfl rfl ?_
    refine yp_V (pc := 45) gI (as := []) (st := []) (ci := 9) (N := mX10_isTyping) (k := 377) (n := 2551) (k1 := 0) (n1 := 0) dL_isDesk_45 lkL_149 caX10_isTyping cvX10_isTyping rfl (by decide) rfl (fun b Q1 hq => tX10_isTyping b (wN h (20, 64)) Q1 hq) ⟨by decide, by decide⟩ (Nat.le_of_ble_eq_true rfl) hF (fun x8 hF => ?_)
    show gV G mL_isDesk 56 Q 48 [some (sr a0), some (sr a1), some (sr a2), some (sr a3), some (sr a4), some (sr a5), some (si a6), some (sr (some (hN h))), some (si (0 : Int32)), some (si (0 : Int32)), none, none, none, none, none, none] [si x8] (377) (2551) (wN h (20, 64))
    refine v_aload_n (pc := 48) (i := 1) dL_isDesk_48 rfl rfl ?_
    refine v_iconst (pc := 49) (v := (4 : Int32)) dL_isDesk_49 rfl ?_
    refine s_iald (f := some) (pc := 50) dL_isDesk_50 (okB_bs hF) (fun x9 hF => ?_)
    replace hF := okB_some hF
    refine v_iconst (pc := 51) (v := (1 : Int32)) dL_isDesk_51 rfl ?_
    refine mgW (X := fun q10 => gV G mL_isDesk 56 Q 60 [some (sr a0), some (sr a1), some (sr a2), some (sr a3), some (sr a4), some (sr a5), some (si a6), some (sr (some (hN h))), some (si (0 : Int32)), some (si (0 : Int32)), none, none, none, none, none, none] [si q10, si x8] (377) (2551) (wN h (20, 64))) hF (fun K10 hj10 hF => ?_) (fun q10 hF => ?_)
    · refine v_icmp_ne (pc := 52) 59 dL_isDesk_52 rfl (fun hc => ?_) (fun hc => ?_)
      · replace hF := (ifP hF).2 hc
        refine v_iconst (pc := 59) (v := (0 : Int32)) dL_isDesk_59 rfl ?_
        exact v_lle [some (sr a0), some (sr a1), some (sr a2), some (sr a3), some (sr a4), some (sr a5), some (si a6), some (sr (some (hN h))), some (si (0 : Int32)), some (si (0 : Int32)), none, none, none, none, none, none] ⟨rfl, rfl, rfl, rfl, rfl, rfl, rfl, rfl, rfl, rfl, trivial⟩ (hj10 (0 : Int32) hF)
      replace hF := (ifP hF).1 hc
      refine v_iconst (pc := 55) (v := (1 : Int32)) dL_isDesk_55 rfl ?_
      refine v_goto (pc := 56) 60 dL_isDesk_56 rfl ?_
      exact v_lle [some (sr a0), some (sr a1), some (sr a2), some (sr a3), some (sr a4), some (sr a5), some (si a6), some (sr (some (hN h))), some (si (0 : Int32)), some (si (0 : Int32)), none, none, none, none, none, none] ⟨rfl, rfl, rfl, rfl, rfl, rfl, rfl, rfl, rfl, rfl, trivial⟩ (hj10 (1 : Int32) hF)
    refine v_icmp_ne (pc := 60) 67 dL_isDesk_60 rfl (fun hc => ?_) (fun hc => ?_)
    · replace hF := (ifP hF).2 hc
      refine v_iconst (pc := 67) (v := (0 : Int32)) dL_isDesk_67 rfl ?_
      exact v_lle [some (sr a0), some (sr a1), some (sr a2), some (sr a3), some (sr a4), some (sr a5), some (si a6), some (sr (some (hN h))), some (si (0 : Int32)), some (si (0 : Int32)), none, none, none, none, none, none] ⟨rfl, rfl, rfl, rfl, rfl, rfl, rfl, rfl, rfl, rfl, trivial⟩ (hj3 (0 : Int32) hF)
    replace hF := (ifP hF).1 hc
    refine v_iconst (pc := 63) (v := (1 : Int32)) dL_isDesk_63 rfl ?_
    refine v_goto (pc := 64) 68 dL_isDesk_64 rfl ?_
    exact v_lle [some (sr a0), some (sr a1), some (sr a2), some (sr a3), some (sr a4), some (sr a5), some (si a6), some (sr (some (hN h))), some (si (0 : Int32)), some (si (0 : Int32)), none, none, none, none, none, none] ⟨rfl, rfl, rfl, rfl, rfl, rfl, rfl, rfl, rfl, rfl, trivial⟩ (hj3 (1 : Int32) hF)
  refine v_istore (pc := 68) (i := 10) [some (sr a0), some (sr a1), some (sr a2), some (sr a3), some (sr a4), some (sr a5), some (si a6), some (sr (some (hN h))), some (si (0 : Int32)), some (si (0 : Int32)), some (si q3), none, none, none, none, none] dL_isDesk_68 (by decide) rfl rfl ?_
  refine v_iconst (pc := 70) (v := (0 : Int32)) dL_isDesk_70 rfl ?_
  refine v_istore (pc := 71) (i := 11) [some (sr a0), some (sr a1), some (sr a2), some (sr a3), some (sr a4), some (sr a5), some (si a6), some (sr (some (hN h))), some (si (0 : Int32)), some (si (0 : Int32)), some (si q3), some (si (0 : Int32)), none, none, none, none] dL_isDesk_71 (by decide) rfl rfl ?_
  refine mgW (X := fun q11 => gV G mL_isDesk 56 Q 116 [some (sr a0), some (sr a1), some (sr a2), some (sr a3), some (sr a4), some (sr a5), some (si a6), some (sr (some (hN h))), some (si (0 : Int32)), some (si q11.1), some (si q11.2), none, none, none, none, none] [] (365) (2479) (wN h (20, 64))) hF (fun _ hj hF => v_room (k' := 1 * 12 + (365)) (n' := 6 * 12 + (2479)) (by decide) (by decide) <| v_lle [some (sr a0), some (sr a1), some (sr a2), some (sr a3), some (sr a4), some (sr a5), some (si a6), some (sr (some (hN h))), some (si (0 : Int32)), some (si (0 : Int32)), some (si q3), some (si (0 : Int32)), none, none, none, none] ⟨rfl, rfl, rfl, rfl, rfl, rfl, rfl, rfl, rfl, rfl, rfl, rfl, trivial⟩ (lL_isDesk_73 a0 a1 a2 a3 a4 a5 a6 (some (hN h)) (0 : Int32) (wN h (20, 64)) hj 12 ((0 : Int32), q3, (0 : Int32)) hF)) (fun q11 hF => ?_)
  refine v_iconst (pc := 116) (v := (0 : Int32)) dL_isDesk_116 rfl ?_
  refine v_istore (pc := 117) (i := 11) [some (sr a0), some (sr a1), some (sr a2), some (sr a3), some (sr a4), some (sr a5), some (si a6), some (sr (some (hN h))), some (si (0 : Int32)), some (si q11.1), some (si q11.2), some (si (0 : Int32)), none, none, none, none] dL_isDesk_117 (by decide) rfl rfl ?_
  refine mgW (X := fun q12 => gV G mL_isDesk 56 Q 365 [some (sr a0), some (sr a1), some (sr a2), some (sr a3), some (sr a4), some (sr a5), some (si a6), some (sr (some (hN h))), some (si q12.1), some (si q11.1), some (si q12.2), none, none, none, none, none] [] (233) (1687) (wN h (20, 64))) hF (fun _ hj hF => v_room (k' := 11 * 12 + (233)) (n' := 66 * 12 + (1687)) (by decide) (by decide) <| v_lle [some (sr a0), some (sr a1), some (sr a2), some (sr a3), some (sr a4), some (sr a5), some (si a6), some (sr (some (hN h))), some (si (0 : Int32)), some (si q11.1), some (si q11.2), some (si (0 : Int32)), none, none, none, none] ⟨rfl, rfl, rfl, rfl, rfl, rfl, rfl, rfl, rfl, rfl, rfl, rfl, trivial⟩ (lL_isDesk_119 a0 a1 a2 a3 a4 a5 a6 (some (hN h)) q11.1 (wN h (20, 64)) hj 12 ((0 : Int32), q11.2, (0 : Int32)) hF)) (fun q12 hF => ?_)
  refine v_iload (pc := 365) (i := 6) dL_isDesk_365 rfl ?_
  refine v_aload_n (pc := 367) (i := 1) dL_isDesk_367 rfl rfl ?_
  refine v_iconst (pc := 368) (v := (0 : Int32)) dL_isDesk_368 rfl ?_
  refine s_iald (f := some) (pc := 369) dL_isDesk_369 (okB_bs hF) (fun x13 hF => ?_)
  replace hF := okB_some hF
  refine s_irem (f := some) (pc := 370) dL_isDesk_370 (okB_bs hF) (fun hF => ?_)
  replace hF := okB_some hF
  refine v_istore (pc := 371) (i := 11) [some (sr a0), some (sr a1), some (sr a2), some (sr a3), some (sr a4), some (sr a5), some (si a6), some (sr (some (hN h))), some (si q12.1), some (si q11.1), some (si q12.2), some (si (a6 - a6 / x13 * x13)), none, none, none, none] dL_isDesk_371 (by decide) rfl rfl ?_
  refine v_aload_n (pc := 373) (i := 2) dL_isDesk_373 rfl rfl ?_
  refine v_iload (pc := 374) (i := 11) dL_isDesk_374 rfl ?_
  refine yp_S (pc := 376) gI (as := [sr a2, si (a6 - a6 / x13 * x13)]) (st := []) (N := mL_isShown) (k := 233) (n := 1687) (k1 := 0) (n1 := 0) dL_isDesk_376 lkL_101 caL_isShown csL_isShown rfl (fun Q1 hq => tL_isShown a2 (a6 - a6 / x13 * x13) (wN h (20, 64)) Q1 hq) ⟨by decide, by decide⟩ (Nat.le_of_ble_eq_true rfl) hF (fun x14 hF => ?_)
  show gV G mL_isDesk 56 Q 379 [some (sr a0), some (sr a1), some (sr a2), some (sr a3), some (sr a4), some (sr a5), some (si a6), some (sr (some (hN h))), some (si q12.1), some (si q11.1), some (si q12.2), some (si (a6 - a6 / x13 * x13)), none, none, none, none] [si x14] (233) (1687) (wN h (20, 64))
  refine mgW (X := fun q15 => gV G mL_isDesk 56 Q 400 [some (sr a0), some (sr a1), some (sr a2), some (sr a3), some (sr a4), some (sr a5), none, some (sr (some (hN h))), some (si q12.1), some (si q11.1), some (si q12.2), some (si (a6 - a6 / x13 * x13)), none, none, none, none] [si q15.1] (233) (1687) q15.2) hF (fun K15 hj15 hF => ?_) (fun q15 hF => ?_)
  · refine v_if_eq (pc := 379) 399 dL_isDesk_379 rfl (fun hc => ?_) (fun hc => ?_)
    · replace hF := (ifP hF).1 hc
      refine v_iconst (pc := 399) (v := (0 : Int32)) dL_isDesk_399 rfl ?_
      exact v_lle [some (sr a0), some (sr a1), some (sr a2), some (sr a3), some (sr a4), some (sr a5), none, some (sr (some (hN h))), some (si q12.1), some (si q11.1), some (si q12.2), some (si (a6 - a6 / x13 * x13)), none, none, none, none] ⟨rfl, rfl, rfl, rfl, rfl, rfl, rfl, rfl, rfl, rfl, rfl, trivial⟩ (hj15 ((0 : Int32), wN h (20, 64)) hF)
    replace hF := (ifP hF).2 hc
    refine v_aload_n (pc := 382) (i := 1) dL_isDesk_382 rfl rfl ?_
    refine v_aload_n (pc := 383) (i := 2) dL_isDesk_383 rfl rfl ?_
    refine v_aload_n (pc := 384) (i := 3) dL_isDesk_384 rfl rfl ?_
    refine v_aload (pc := 385) (i := 4) dL_isDesk_385 rfl ?_
    refine v_aload (pc := 387) (i := 5) dL_isDesk_387 rfl ?_
    refine v_iload (pc := 389) (i := 11) dL_isDesk_389 rfl ?_
    refine v_aload (pc := 391) (i := 7) dL_isDesk_391 rfl ?_
    refine yh_S (pc := 393) gI (as := [sr a1, sr a2, sr a3, sr a4, sr a5, si (a6 - a6 / x13 * x13), sr (some (hN h))]) (st := []) (N := mL_words) (k := 233) (n := 1687) (k1 := 0) (n1 := 0) dL_isDesk_393 lkL_184 caL_words csL_words rfl (fun Q1 hq => tL_words a1 a2 a3 a4 a5 (a6 - a6 / x13 * x13) (some (hN h)) (wN h (20, 64)) Q1 hq) ⟨by decide, by decide⟩ (Nat.le_of_ble_eq_true rfl) hF (fun x16 h17 hF => ?_)
    show gV G mL_isDesk 56 Q 396 [some (sr a0), some (sr a1), some (sr a2), some (sr a3), some (sr a4), some (sr a5), some (si a6), some (sr (some (hN h))), some (si q12.1), some (si q11.1), some (si q12.2), some (si (a6 - a6 / x13 * x13)), none, none, none, none] [si x16] (233) (1687) h17
    refine v_goto (pc := 396) 400 dL_isDesk_396 rfl ?_
    exact v_lle [some (sr a0), some (sr a1), some (sr a2), some (sr a3), some (sr a4), some (sr a5), none, some (sr (some (hN h))), some (si q12.1), some (si q11.1), some (si q12.2), some (si (a6 - a6 / x13 * x13)), none, none, none, none] ⟨rfl, rfl, rfl, rfl, rfl, rfl, rfl, rfl, rfl, rfl, rfl, trivial⟩ (hj15 (x16, h17) hF)
  refine v_istore (pc := 400) (i := 12) [some (sr a0), some (sr a1), some (sr a2), some (sr a3), some (sr a4), some (sr a5), none, some (sr (some (hN h))), some (si q12.1), some (si q11.1), some (si q12.2), some (si (a6 - a6 / x13 * x13)), some (si q15.1), none, none, none] dL_isDesk_400 (by decide) rfl rfl ?_
  refine v_iload (pc := 402) (i := 10) dL_isDesk_402 rfl ?_
  refine mgW (X := fun q18 => gV G mL_isDesk 56 Q 473 [some (sr a0), some (sr a1), some (sr a2), some (sr a3), some (sr a4), some (sr a5), none, some (sr (some (hN h))), none, none, none, some (si (a6 - a6 / x13 * x13)), some (si q15.1), none, none, none] [si q18.1] (223) (1344) q18.2) hF (fun K18 hj18 hF => ?_) (fun q18 hF => ?_)
  · refine v_if_eq (pc := 404) 472 dL_isDesk_404 rfl (fun hc => ?_) (fun hc => ?_)
    · replace hF := (ifP hF).1 hc
      refine v_iconst (pc := 472) (v := (0 : Int32)) dL_isDesk_472 rfl ?_
      exact v_room (k' := 223) (n' := 1344) (by decide) (by decide) <| v_lle [some (sr a0), some (sr a1), some (sr a2), some (sr a3), some (sr a4), some (sr a5), none, some (sr (some (hN h))), none, none, none, some (si (a6 - a6 / x13 * x13)), some (si q15.1), none, none, none] ⟨rfl, rfl, rfl, rfl, rfl, rfl, rfl, rfl, rfl, trivial⟩ (hj18 ((0 : Int32), q15.2) hF)
    replace hF := (ifP hF).2 hc
    refine v_aload_n (pc := 407) (i := 0) dL_isDesk_407 rfl rfl ?_
    refine yp_V (pc := 408) gI (as := []) (st := []) (ci := 9) (N := mX10_elements) (k := 233) (n := 1687) (k1 := 0) (n1 := 0) dL_isDesk_408 lkL_188 caX10_elements cvX10_elements rfl (by decide) rfl (fun b Q1 hq => tX10_elements b q15.2 Q1 hq) ⟨by decide, by decide⟩ (Nat.le_of_ble_eq_true rfl) hF (fun x19 hF => ?_)
    show gV G mL_isDesk 56 Q 411 [some (sr a0), some (sr a1), some (sr a2), some (sr a3), some (sr a4), some (sr a5), none, some (sr (some (hN h))), some (si q12.1), some (si q11.1), some (si q12.2), some (si (a6 - a6 / x13 * x13)), some (si q15.1), none, none, none] [si x19] (233) (1687) q15.2
    refine v_iload (pc := 411) (i := 8) dL_isDesk_411 rfl ?_
    refine v_icmp_ne (pc := 413) 472 dL_isDesk_413 rfl (fun hc => ?_) (fun hc => ?_)
    · replace hF := (ifP hF).2 hc
      refine v_iconst (pc := 472) (v := (0 : Int32)) dL_isDesk_472 rfl ?_
      exact v_room (k' := 223) (n' := 1344) (by decide) (by decide) <| v_lle [some (sr a0), some (sr a1), some (sr a2), some (sr a3), some (sr a4), some (sr a5), none, some (sr (some (hN h))), none, none, none, some (si (a6 - a6 / x13 * x13)), some (si q15.1), none, none, none] ⟨rfl, rfl, rfl, rfl, rfl, rfl, rfl, rfl, rfl, trivial⟩ (hj18 ((0 : Int32), q15.2) hF)
    replace hF := (ifP hF).1 hc
    refine v_aload_n (pc := 416) (i := 0) dL_isDesk_416 rfl rfl ?_
    refine yp_V (pc := 417) gI (as := []) (st := []) (ci := 9) (N := mX10_reading) (k := 233) (n := 1687) (k1 := 0) (n1 := 0) dL_isDesk_417 lkL_191 caX10_reading cvX10_reading rfl (by decide) rfl (fun b Q1 hq => tX10_reading b q15.2 Q1 hq) ⟨by decide, by decide⟩ (Nat.le_of_ble_eq_true rfl) hF (fun x20 hF => ?_)
    show gV G mL_isDesk 56 Q 420 [some (sr a0), some (sr a1), some (sr a2), some (sr a3), some (sr a4), some (sr a5), none, some (sr (some (hN h))), some (si q12.1), some (si q11.1), some (si q12.2), some (si (a6 - a6 / x13 * x13)), some (si q15.1), none, none, none] [si x20] (233) (1687) q15.2
    refine v_iload (pc := 420) (i := 9) dL_isDesk_420 rfl ?_
    refine v_icmp_ne (pc := 422) 472 dL_isDesk_422 rfl (fun hc => ?_) (fun hc => ?_)
    · replace hF := (ifP hF).2 hc
      refine v_iconst (pc := 472) (v := (0 : Int32)) dL_isDesk_472 rfl ?_
      exact v_room (k' := 223) (n' := 1344) (by decide) (by decide) <| v_lle [some (sr a0), some (sr a1), some (sr a2), some (sr a3), some (sr a4), some (sr a5), none, some (sr (some (hN h))), none, none, none, some (si (a6 - a6 / x13 * x13)), some (si q15.1), none, none, none] ⟨rfl, rfl, rfl, rfl, rfl, rfl, rfl, rfl, rfl, trivial⟩ (hj18 ((0 : Int32), q15.2) hF)
    replace hF := (ifP hF).1 hc
    refine v_aload_n (pc := 425) (i := 0) dL_isDesk_425 rfl rfl ?_
    refine v_bipush (pc := 426) (v := (6 : Int32)) dL_isDesk_426 rfl ?_
    refine v_iload (pc := 428) (i := 11) dL_isDesk_428 rfl ?_
    refine v_iconst (pc := 430) (v := (0 : Int32)) dL_isDesk_430 rfl ?_
    refine v_iconst (pc := 431) (v := (0 : Int32)) dL_isDesk_431 rfl ?_
    refine ye_S (pc := 432) (as := [sr a0, si (6 : Int32), si (a6 - a6 / x13 * x13), si (0 : Int32), si (0 : Int32)]) (st := []) (N := mL_does) (k := 223) (n := 1344) (k1 := 10) (n1 := 343) dL_isDesk_432 lkL_194 caL_does rfl (fun Q1 hq => tL_does a0 (6 : Int32) (a6 - a6 / x13 * x13) (0 : Int32) (0 : Int32) q15.2 Q1 hq) ⟨by decide, by decide⟩ (Nat.le_of_ble_eq_true rfl) hF (fun x21 h22 hF => ?_)
    show gV G mL_isDesk 56 Q 435 [some (sr a0), some (sr a1), some (sr a2), some (sr a3), some (sr a4), some (sr a5), none, some (sr (some (hN h))), some (si q12.1), some (si q11.1), some (si q12.2), some (si (a6 - a6 / x13 * x13)), some (si q15.1), none, none, none] [si x21] (223) (1344) h22
    refine v_aload_n (pc := 435) (i := 2) dL_isDesk_435 rfl rfl ?_
    refine v_iload (pc := 436) (i := 11) dL_isDesk_436 rfl ?_
    refine yp_S (pc := 438) gI (as := [sr a2, si (a6 - a6 / x13 * x13)]) (st := [si x21]) (N := mL_isThere) (k := 223) (n := 1344) (k1 := 0) (n1 := 0) dL_isDesk_438 lkL_7 caL_isThere csL_isThere rfl (fun Q1 hq => tL_isThere a2 (a6 - a6 / x13 * x13) h22 Q1 hq) ⟨by decide, by decide⟩ (Nat.le_of_ble_eq_true rfl) hF (fun x23 hF => ?_)
    show gV G mL_isDesk 56 Q 441 [some (sr a0), some (sr a1), some (sr a2), some (sr a3), some (sr a4), some (sr a5), none, some (sr (some (hN h))), some (si q12.1), some (si q11.1), some (si q12.2), some (si (a6 - a6 / x13 * x13)), some (si q15.1), none, none, none] [si x23, si x21] (223) (1344) h22
    refine mgW (X := fun q24 => gV G mL_isDesk 56 Q 465 [some (sr a0), some (sr a1), some (sr a2), some (sr a3), some (sr a4), some (sr a5), none, some (sr (some (hN h))), none, none, none, some (si (a6 - a6 / x13 * x13)), some (si q15.1), none, none, none] [si q24, si x21] (223) (1344) h22) hF (fun K24 hj24 hF => ?_) (fun q24 hF => ?_)
    · refine v_if_ne (pc := 441) 449 dL_isDesk_441 rfl (fun hc => ?_) (fun hc => ?_)
      · replace hF := (ifP hF).2 hc
        refine v_aload_n (pc := 449) (i := 2) dL_isDesk_449 rfl rfl ?_
        refine v_iload (pc := 450) (i := 11) dL_isDesk_450 rfl ?_
        refine yp_S (pc := 452) gI (as := [sr a2, si (a6 - a6 / x13 * x13)]) (st := [si x21]) (N := mL_isShown) (k := 223) (n := 1344) (k1 := 0) (n1 := 0) dL_isDesk_452 lkL_101 caL_isShown csL_isShown rfl (fun Q1 hq => tL_isShown a2 (a6 - a6 / x13 * x13) h22 Q1 hq) ⟨by decide, by decide⟩ (Nat.le_of_ble_eq_true rfl) hF (fun x25 hF => ?_)
        show gV G mL_isDesk 56 Q 455 [some (sr a0), some (sr a1), some (sr a2), some (sr a3), some (sr a4), some (sr a5), none, some (sr (some (hN h))), some (si q12.1), some (si q11.1), some (si q12.2), some (si (a6 - a6 / x13 * x13)), some (si q15.1), none, none, none] [si x25, si x21] (223) (1344) h22
        refine v_if_ne (pc := 455) 463 dL_isDesk_455 rfl (fun hc => ?_) (fun hc => ?_)
        · replace hF := (ifP hF).2 hc
          refine v_iload (pc := 463) (i := 12) dL_isDesk_463 rfl ?_
          exact v_lle [some (sr a0), some (sr a1), some (sr a2), some (sr a3), some (sr a4), some (sr a5), none, some (sr (some (hN h))), none, none, none, some (si (a6 - a6 / x13 * x13)), some (si q15.1), none, none, none] ⟨rfl, rfl, rfl, rfl, rfl, rfl, rfl, rfl, rfl, trivial⟩ (hj24 q15.1 hF)
        replace hF := (ifP hF).1 hc
        refine v_bipush (pc := 458) (v := (-13 : Int32)) dL_isDesk_458 rfl ?_
        refine v_goto (pc := 460) 465 dL_isDesk_460 rfl ?_
        exact v_lle [some (sr a0), some (sr a1), some (sr a2), some (sr a3), some (sr a4), some (sr a5), none, some (sr (some (hN h))), none, none, none, some (si (a6 - a6 / x13 * x13)), some (si q15.1), none, none, none] ⟨rfl, rfl, rfl, rfl, rfl, rfl, rfl, rfl, rfl, trivial⟩ (hj24 (-13 : Int32) hF)
      replace hF := (ifP hF).1 hc
      refine v_bipush (pc := 444) (v := (-11 : Int32)) dL_isDesk_444 rfl ?_
      refine v_goto (pc := 446) 465 dL_isDesk_446 rfl ?_
      exact v_lle [some (sr a0), some (sr a1), some (sr a2), some (sr a3), some (sr a4), some (sr a5), none, some (sr (some (hN h))), none, none, none, some (si (a6 - a6 / x13 * x13)), some (si q15.1), none, none, none] ⟨rfl, rfl, rfl, rfl, rfl, rfl, rfl, rfl, rfl, trivial⟩ (hj24 (-11 : Int32) hF)
    refine v_icmp_ne (pc := 465) 472 dL_isDesk_465 rfl (fun hc => ?_) (fun hc => ?_)
    · replace hF := (ifP hF).2 hc
      refine v_iconst (pc := 472) (v := (0 : Int32)) dL_isDesk_472 rfl ?_
      exact v_lle [some (sr a0), some (sr a1), some (sr a2), some (sr a3), some (sr a4), some (sr a5), none, some (sr (some (hN h))), none, none, none, some (si (a6 - a6 / x13 * x13)), some (si q15.1), none, none, none] ⟨rfl, rfl, rfl, rfl, rfl, rfl, rfl, rfl, rfl, trivial⟩ (hj18 ((0 : Int32), h22) hF)
    replace hF := (ifP hF).1 hc
    refine v_iconst (pc := 468) (v := (1 : Int32)) dL_isDesk_468 rfl ?_
    refine v_goto (pc := 469) 473 dL_isDesk_469 rfl ?_
    exact v_lle [some (sr a0), some (sr a1), some (sr a2), some (sr a3), some (sr a4), some (sr a5), none, some (sr (some (hN h))), none, none, none, some (si (a6 - a6 / x13 * x13)), some (si q15.1), none, none, none] ⟨rfl, rfl, rfl, rfl, rfl, rfl, rfl, rfl, rfl, trivial⟩ (hj18 ((1 : Int32), h22) hF)
  refine v_istore (pc := 473) (i := 10) [some (sr a0), some (sr a1), some (sr a2), some (sr a3), some (sr a4), some (sr a5), none, some (sr (some (hN h))), none, none, some (si q18.1), some (si (a6 - a6 / x13 * x13)), some (si q15.1), none, none, none] dL_isDesk_473 (by decide) rfl rfl ?_
  refine v_iconst (pc := 475) (v := (0 : Int32)) dL_isDesk_475 rfl ?_
  refine v_istore (pc := 476) (i := 13) [some (sr a0), some (sr a1), some (sr a2), some (sr a3), some (sr a4), some (sr a5), none, some (sr (some (hN h))), none, none, some (si q18.1), some (si (a6 - a6 / x13 * x13)), some (si q15.1), some (si (0 : Int32)), none, none] dL_isDesk_476 (by decide) rfl rfl ?_
  refine mgW (X := fun q26 => gV G mL_isDesk 56 Q 519 [some (sr a0), some (sr a1), some (sr a2), some (sr a3), some (sr a4), some (sr a5), none, some (sr (some (hN h))), none, none, some (si q26.1), none, none, none, none, none] [] (25) (156) q26.2) hF (fun _ hj hF => v_room (k' := 3 * 66 + (25)) (n' := 18 * 66 + (156)) (by decide) (by decide) <| v_lle [some (sr a0), some (sr a1), some (sr a2), some (sr a3), some (sr a4), some (sr a5), none, some (sr (some (hN h))), none, none, some (si q18.1), some (si (a6 - a6 / x13 * x13)), some (si q15.1), some (si (0 : Int32)), none, none] ⟨rfl, rfl, rfl, rfl, rfl, rfl, rfl, rfl, rfl, rfl, rfl, trivial⟩ (lL_isDesk_478 a0 a1 a2 a3 a4 a5 (some (hN h)) (a6 - a6 / x13 * x13) q15.1 hj 66 (q18.1, (0 : Int32), q18.2) hF)) (fun q26 hF => ?_)
  refine v_aload_n (pc := 519) (i := 1) dL_isDesk_519 rfl rfl ?_
  refine v_aload_n (pc := 520) (i := 2) dL_isDesk_520 rfl rfl ?_
  refine v_aload_n (pc := 521) (i := 3) dL_isDesk_521 rfl rfl ?_
  refine v_aload (pc := 522) (i := 4) dL_isDesk_522 rfl ?_
  refine v_aload (pc := 524) (i := 5) dL_isDesk_524 rfl ?_
  refine v_aload (pc := 526) (i := 7) dL_isDesk_526 rfl ?_
  refine yh_S (pc := 528) gI (as := [sr a1, sr a2, sr a3, sr a4, sr a5, sr (some (hN h))]) (st := []) (N := mL_line) (k := 24) (n := 144) (k1 := 1) (n1 := 12) dL_isDesk_528 lkL_198 caL_line csL_line rfl (fun Q1 hq => tL_line a1 a2 a3 a4 a5 (some (hN h)) q26.2 Q1 hq) ⟨by decide, by decide⟩ (Nat.le_of_ble_eq_true rfl) hF (fun x27 h28 hF => ?_)
  show gV G mL_isDesk 56 Q 531 [some (sr a0), some (sr a1), some (sr a2), some (sr a3), some (sr a4), some (sr a5), none, some (sr (some (hN h))), none, none, some (si q26.1), none, none, none, none, none] [si x27] (24) (144) h28
  refine v_istore (pc := 531) (i := 13) [some (sr a0), some (sr a1), some (sr a2), some (sr a3), some (sr a4), some (sr a5), none, some (sr (some (hN h))), none, none, some (si q26.1), none, none, some (si x27), none, none] dL_isDesk_531 (by decide) rfl rfl ?_
  refine v_iload (pc := 533) (i := 10) dL_isDesk_533 rfl ?_
  refine mgW (X := fun q29 => gV G mL_isDesk 56 Q 552 [some (sr a0), some (sr a1), none, none, none, none, none, some (sr (some (hN h))), none, none, none, none, none, some (si x27), none, none] [si q29] (24) (144) h28) hF (fun K29 hj29 hF => ?_) (fun q29 hF => ?_)
  · refine v_if_eq (pc := 535) 551 dL_isDesk_535 rfl (fun hc => ?_) (fun hc => ?_)
    · replace hF := (ifP hF).1 hc
      refine v_iconst (pc := 551) (v := (0 : Int32)) dL_isDesk_551 rfl ?_
      exact v_lle [some (sr a0), some (sr a1), none, none, none, none, none, some (sr (some (hN h))), none, none, none, none, none, some (si x27), none, none] ⟨rfl, rfl, rfl, rfl, trivial⟩ (hj29 (0 : Int32) hF)
    replace hF := (ifP hF).2 hc
    refine v_aload_n (pc := 538) (i := 0) dL_isDesk_538 rfl rfl ?_
    refine yp_V (pc := 539) gI (as := []) (st := []) (ci := 9) (N := mX10_lineLength) (k := 24) (n := 144) (k1 := 0) (n1 := 0) dL_isDesk_539 lkL_202 caX10_lineLength cvX10_lineLength rfl (by decide) rfl (fun b Q1 hq => tX10_lineLength b h28 Q1 hq) ⟨by decide, by decide⟩ (Nat.le_of_ble_eq_true rfl) hF (fun x30 hF => ?_)
    show gV G mL_isDesk 56 Q 542 [some (sr a0), some (sr a1), some (sr a2), some (sr a3), some (sr a4), some (sr a5), none, some (sr (some (hN h))), none, none, some (si q26.1), none, none, some (si x27), none, none] [si x30] (24) (144) h28
    refine v_iload (pc := 542) (i := 13) dL_isDesk_542 rfl ?_
    refine v_icmp_ne (pc := 544) 551 dL_isDesk_544 rfl (fun hc => ?_) (fun hc => ?_)
    · replace hF := (ifP hF).2 hc
      refine v_iconst (pc := 551) (v := (0 : Int32)) dL_isDesk_551 rfl ?_
      exact v_lle [some (sr a0), some (sr a1), none, none, none, none, none, some (sr (some (hN h))), none, none, none, none, none, some (si x27), none, none] ⟨rfl, rfl, rfl, rfl, trivial⟩ (hj29 (0 : Int32) hF)
    replace hF := (ifP hF).1 hc
    refine v_iconst (pc := 547) (v := (1 : Int32)) dL_isDesk_547 rfl ?_
    refine v_goto (pc := 548) 552 dL_isDesk_548 rfl ?_
    exact v_lle [some (sr a0), some (sr a1), none, none, none, none, none, some (sr (some (hN h))), none, none, none, none, none, some (si x27), none, none] ⟨rfl, rfl, rfl, rfl, trivial⟩ (hj29 (1 : Int32) hF)
  refine v_istore (pc := 552) (i := 10) [some (sr a0), some (sr a1), none, none, none, none, none, some (sr (some (hN h))), none, none, some (si q29), none, none, some (si x27), none, none] dL_isDesk_552 (by decide) rfl rfl ?_
  refine v_iconst (pc := 554) (v := (0 : Int32)) dL_isDesk_554 rfl ?_
  refine v_istore (pc := 555) (i := 14) [some (sr a0), some (sr a1), none, none, none, none, none, some (sr (some (hN h))), none, none, some (si q29), none, none, some (si x27), some (si (0 : Int32)), none] dL_isDesk_555 (by decide) rfl rfl ?_
  refine mgW (X := fun q31 => gV G mL_isDesk 56 Q 630 [none, none, none, none, none, none, none, none, none, none, some (si q31.1), none, none, none, none, none] [] (0) (0) q31.2) hF (fun _ hj hF => v_room (k' := 2 * 12 + (0)) (n' := 12 * 12 + (0)) (by decide) (by decide) <| v_lle [some (sr a0), some (sr a1), none, none, none, none, none, some (sr (some (hN h))), none, none, some (si q29), none, none, some (si x27), some (si (0 : Int32)), none] ⟨rfl, rfl, rfl, rfl, rfl, rfl, trivial⟩ (lL_isDesk_557 a0 a1 (some (hN h)) x27 hj 12 (q29, (0 : Int32), h28) hF)) (fun q31 hF => ?_)
  refine v_iload (pc := 630) (i := 10) dL_isDesk_630 rfl ?_
  exact s_zret (f := some) (pc := 632) dL_isDesk_632 rfl (okB_bs hF) (fun hF => hK _ _ (okB_some (P := fun _ => K q31.1 q31.2) (b := ()) hF))
