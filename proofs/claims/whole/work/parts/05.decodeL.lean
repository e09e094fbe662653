theorem d_L_law_0 : decode code 0 = .ok (.new 7, 3) := by decide +kernel
theorem d_L_law_3 : decode code 3 = .ok (.dup, 1) := by decide +kernel
theorem d_L_law_4 : decode code 4 = .ok (.invokespecial 9, 3) := by decide +kernel
theorem d_L_law_7 : decode code 7 = .ok (.astore_n 1, 1) := by decide +kernel
theorem d_L_law_8 : decode code 8 = .ok (.new 10, 3) := by decide +kernel
theorem d_L_law_11 : decode code 11 = .ok (.dup, 1) := by decide +kernel
theorem d_L_law_12 : decode code 12 = .ok (.invokespecial 12, 3) := by decide +kernel
theorem d_L_law_15 : decode code 15 = .ok (.astore_n 2, 1) := by decide +kernel
theorem d_L_law_16 : decode code 16 = .ok (.iconst 0, 1) := by decide +kernel
theorem d_L_law_17 : decode code 17 = .ok (.istore_n 3, 1) := by decide +kernel
theorem d_L_law_18 : decode code 18 = .ok (.iload_n 3, 1) := by decide +kernel
theorem d_L_law_19 : decode code 19 = .ok (.aload_n 0, 1) := by decide +kernel
theorem d_L_law_20 : decode code 20 = .ok (.arraylength, 1) := by decide +kernel
theorem d_L_law_21 : decode code 21 = .ok (.iconst 4, 1) := by decide +kernel
theorem d_L_law_22 : decode code 22 = .ok (.isub, 1) := by decide +kernel
theorem d_L_law_23 : decode code 23 = .ok (.if_icmp .gt 528, 3) := by decide +kernel
theorem d_L_law_26 : decode code 26 = .ok (.aload_n 0, 1) := by decide +kernel
theorem d_L_law_27 : decode code 27 = .ok (.iload_n 3, 1) := by decide +kernel
theorem d_L_law_28 : decode code 28 = .ok (.iaload, 1) := by decide +kernel
theorem d_L_law_29 : decode code 29 = .ok (.bipush 15, 2) := by decide +kernel
theorem d_L_law_31 : decode code 31 = .ok (.iand, 1) := by decide +kernel
theorem d_L_law_32 : decode code 32 = .ok (.tableswitch 513 0 14 #[76, 135, 184, 227, 250, 263, 296, 319, 332, 355, 388, 411, 434, 477, 500], 76) := by decide +kernel
theorem d_L_law_108 : decode code 108 = .ok (.aload_n 1, 1) := by decide +kernel
theorem d_L_law_109 : decode code 109 = .ok (.aload_n 0, 1) := by decide +kernel
theorem d_L_law_110 : decode code 110 = .ok (.iload_n 3, 1) := by decide +kernel
theorem d_L_law_111 : decode code 111 = .ok (.iconst 1, 1) := by decide +kernel
theorem d_L_law_112 : decode code 112 = .ok (.iadd, 1) := by decide +kernel
theorem d_L_law_113 : decode code 113 = .ok (.iaload, 1) := by decide +kernel
theorem d_L_law_114 : decode code 114 = .ok (.ifCond .eq 7, 3) := by decide +kernel
theorem d_L_law_117 : decode code 117 = .ok (.iconst 1, 1) := by decide +kernel
theorem d_L_law_118 : decode code 118 = .ok (.goto 4, 3) := by decide +kernel
theorem d_L_law_121 : decode code 121 = .ok (.iconst 0, 1) := by decide +kernel
theorem d_L_law_122 : decode code 122 = .ok (.aload_n 0, 1) := by decide +kernel
theorem d_L_law_123 : decode code 123 = .ok (.iload_n 3, 1) := by decide +kernel
theorem d_L_law_124 : decode code 124 = .ok (.iconst 2, 1) := by decide +kernel
theorem d_L_law_125 : decode code 125 = .ok (.iadd, 1) := by decide +kernel
theorem d_L_law_126 : decode code 126 = .ok (.iaload, 1) := by decide +kernel
theorem d_L_law_127 : decode code 127 = .ok (.aload_n 0, 1) := by decide +kernel
theorem d_L_law_128 : decode code 128 = .ok (.iload_n 3, 1) := by decide +kernel
theorem d_L_law_129 : decode code 129 = .ok (.iconst 3, 1) := by decide +kernel
theorem d_L_law_130 : decode code 130 = .ok (.iadd, 1) := by decide +kernel
theorem d_L_law_131 : decode code 131 = .ok (.iaload, 1) := by decide +kernel
theorem d_L_law_132 : decode code 132 = .ok (.invokevirtual 13, 3) := by decide +kernel
theorem d_L_law_135 : decode code 135 = .ok (.aload_n 2, 1) := by decide +kernel
theorem d_L_law_136 : decode code 136 = .ok (.aload_n 0, 1) := by decide +kernel
theorem d_L_law_137 : decode code 137 = .ok (.iload_n 3, 1) := by decide +kernel
theorem d_L_law_138 : decode code 138 = .ok (.iconst 1, 1) := by decide +kernel
theorem d_L_law_139 : decode code 139 = .ok (.iadd, 1) := by decide +kernel
theorem d_L_law_140 : decode code 140 = .ok (.iaload, 1) := by decide +kernel
theorem d_L_law_141 : decode code 141 = .ok (.ifCond .eq 7, 3) := by decide +kernel
theorem d_L_law_144 : decode code 144 = .ok (.iconst 1, 1) := by decide +kernel
theorem d_L_law_145 : decode code 145 = .ok (.goto 4, 3) := by decide +kernel
theorem d_L_law_148 : decode code 148 = .ok (.iconst 0, 1) := by decide +kernel
theorem d_L_law_149 : decode code 149 = .ok (.aload_n 0, 1) := by decide +kernel
theorem d_L_law_150 : decode code 150 = .ok (.iload_n 3, 1) := by decide +kernel
theorem d_L_law_151 : decode code 151 = .ok (.iconst 2, 1) := by decide +kernel
theorem d_L_law_152 : decode code 152 = .ok (.iadd, 1) := by decide +kernel
theorem d_L_law_153 : decode code 153 = .ok (.iaload, 1) := by decide +kernel
theorem d_L_law_154 : decode code 154 = .ok (.aload_n 0, 1) := by decide +kernel
theorem d_L_law_155 : decode code 155 = .ok (.iload_n 3, 1) := by decide +kernel
theorem d_L_law_156 : decode code 156 = .ok (.iconst 3, 1) := by decide +kernel
theorem d_L_law_157 : decode code 157 = .ok (.iadd, 1) := by decide +kernel
theorem d_L_law_158 : decode code 158 = .ok (.iaload, 1) := by decide +kernel
theorem d_L_law_159 : decode code 159 = .ok (.invokevirtual 17, 3) := by decide +kernel
theorem d_L_law_162 : decode code 162 = .ok (.if_icmp .eq 383, 3) := by decide +kernel
theorem d_L_law_165 : decode code 165 = .ok (.iconst 0, 1) := by decide +kernel
theorem d_L_law_166 : decode code 166 = .ok (.ireturn, 1) := by decide +kernel
theorem d_L_law_167 : decode code 167 = .ok (.aload_n 1, 1) := by decide +kernel
theorem d_L_law_168 : decode code 168 = .ok (.aload_n 0, 1) := by decide +kernel
theorem d_L_law_169 : decode code 169 = .ok (.iload_n 3, 1) := by decide +kernel
theorem d_L_law_170 : decode code 170 = .ok (.iconst 1, 1) := by decide +kernel
theorem d_L_law_171 : decode code 171 = .ok (.iadd, 1) := by decide +kernel
theorem d_L_law_172 : decode code 172 = .ok (.iaload, 1) := by decide +kernel
theorem d_L_law_173 : decode code 173 = .ok (.aload_n 0, 1) := by decide +kernel
theorem d_L_law_174 : decode code 174 = .ok (.iload_n 3, 1) := by decide +kernel
theorem d_L_law_175 : decode code 175 = .ok (.iconst 2, 1) := by decide +kernel
theorem d_L_law_176 : decode code 176 = .ok (.iadd, 1) := by decide +kernel
theorem d_L_law_177 : decode code 177 = .ok (.iaload, 1) := by decide +kernel
theorem d_L_law_178 : decode code 178 = .ok (.ifCond .eq 7, 3) := by decide +kernel
theorem d_L_law_181 : decode code 181 = .ok (.iconst 1, 1) := by decide +kernel
theorem d_L_law_182 : decode code 182 = .ok (.goto 4, 3) := by decide +kernel
theorem d_L_law_185 : decode code 185 = .ok (.iconst 0, 1) := by decide +kernel
theorem d_L_law_186 : decode code 186 = .ok (.invokevirtual 18, 3) := by decide +kernel
theorem d_L_law_189 : decode code 189 = .ok (.aload_n 2, 1) := by decide +kernel
theorem d_L_law_190 : decode code 190 = .ok (.aload_n 0, 1) := by decide +kernel
theorem d_L_law_191 : decode code 191 = .ok (.iload_n 3, 1) := by decide +kernel
theorem d_L_law_192 : decode code 192 = .ok (.iconst 1, 1) := by decide +kernel
theorem d_L_law_193 : decode code 193 = .ok (.iadd, 1) := by decide +kernel
theorem d_L_law_194 : decode code 194 = .ok (.iaload, 1) := by decide +kernel
theorem d_L_law_195 : decode code 195 = .ok (.aload_n 0, 1) := by decide +kernel
theorem d_L_law_196 : decode code 196 = .ok (.iload_n 3, 1) := by decide +kernel
theorem d_L_law_197 : decode code 197 = .ok (.iconst 2, 1) := by decide +kernel
theorem d_L_law_198 : decode code 198 = .ok (.iadd, 1) := by decide +kernel
theorem d_L_law_199 : decode code 199 = .ok (.iaload, 1) := by decide +kernel
theorem d_L_law_200 : decode code 200 = .ok (.ifCond .eq 7, 3) := by decide +kernel
theorem d_L_law_203 : decode code 203 = .ok (.iconst 1, 1) := by decide +kernel
theorem d_L_law_204 : decode code 204 = .ok (.goto 4, 3) := by decide +kernel
theorem d_L_law_207 : decode code 207 = .ok (.iconst 0, 1) := by decide +kernel
theorem d_L_law_208 : decode code 208 = .ok (.invokevirtual 22, 3) := by decide +kernel
theorem d_L_law_211 : decode code 211 = .ok (.if_icmp .eq 334, 3) := by decide +kernel
theorem d_L_law_214 : decode code 214 = .ok (.iconst 0, 1) := by decide +kernel
theorem d_L_law_215 : decode code 215 = .ok (.ireturn, 1) := by decide +kernel
theorem d_L_law_216 : decode code 216 = .ok (.aload_n 1, 1) := by decide +kernel
theorem d_L_law_217 : decode code 217 = .ok (.aload_n 0, 1) := by decide +kernel
theorem d_L_law_218 : decode code 218 = .ok (.iload_n 3, 1) := by decide +kernel
theorem d_L_law_219 : decode code 219 = .ok (.iconst 1, 1) := by decide +kernel
theorem d_L_law_220 : decode code 220 = .ok (.iadd, 1) := by decide +kernel
theorem d_L_law_221 : decode code 221 = .ok (.iaload, 1) := by decide +kernel
theorem d_L_law_222 : decode code 222 = .ok (.aload_n 0, 1) := by decide +kernel
theorem d_L_law_223 : decode code 223 = .ok (.iload_n 3, 1) := by decide +kernel
theorem d_L_law_224 : decode code 224 = .ok (.iconst 2, 1) := by decide +kernel
theorem d_L_law_225 : decode code 225 = .ok (.iadd, 1) := by decide +kernel
theorem d_L_law_226 : decode code 226 = .ok (.iaload, 1) := by decide +kernel
theorem d_L_law_227 : decode code 227 = .ok (.aload_n 0, 1) := by decide +kernel
theorem d_L_law_228 : decode code 228 = .ok (.iload_n 3, 1) := by decide +kernel
theorem d_L_law_229 : decode code 229 = .ok (.iconst 3, 1) := by decide +kernel
theorem d_L_law_230 : decode code 230 = .ok (.iadd, 1) := by decide +kernel
theorem d_L_law_231 : decode code 231 = .ok (.iaload, 1) := by decide +kernel
theorem d_L_law_232 : decode code 232 = .ok (.invokevirtual 23, 3) := by decide +kernel
theorem d_L_law_235 : decode code 235 = .ok (.aload_n 2, 1) := by decide +kernel
theorem d_L_law_236 : decode code 236 = .ok (.aload_n 0, 1) := by decide +kernel
theorem d_L_law_237 : decode code 237 = .ok (.iload_n 3, 1) := by decide +kernel
theorem d_L_law_238 : decode code 238 = .ok (.iconst 1, 1) := by decide +kernel
theorem d_L_law_239 : decode code 239 = .ok (.iadd, 1) := by decide +kernel
theorem d_L_law_240 : decode code 240 = .ok (.iaload, 1) := by decide +kernel
theorem d_L_law_241 : decode code 241 = .ok (.aload_n 0, 1) := by decide +kernel
theorem d_L_law_242 : decode code 242 = .ok (.iload_n 3, 1) := by decide +kernel
theorem d_L_law_243 : decode code 243 = .ok (.iconst 2, 1) := by decide +kernel
theorem d_L_law_244 : decode code 244 = .ok (.iadd, 1) := by decide +kernel
theorem d_L_law_245 : decode code 245 = .ok (.iaload, 1) := by decide +kernel
theorem d_L_law_246 : decode code 246 = .ok (.aload_n 0, 1) := by decide +kernel
theorem d_L_law_247 : decode code 247 = .ok (.iload_n 3, 1) := by decide +kernel
theorem d_L_law_248 : decode code 248 = .ok (.iconst 3, 1) := by decide +kernel
theorem d_L_law_249 : decode code 249 = .ok (.iadd, 1) := by decide +kernel
theorem d_L_law_250 : decode code 250 = .ok (.iaload, 1) := by decide +kernel
theorem d_L_law_251 : decode code 251 = .ok (.invokevirtual 27, 3) := by decide +kernel
theorem d_L_law_254 : decode code 254 = .ok (.if_icmp .eq 291, 3) := by decide +kernel
theorem d_L_law_257 : decode code 257 = .ok (.iconst 0, 1) := by decide +kernel
theorem d_L_law_258 : decode code 258 = .ok (.ireturn, 1) := by decide +kernel
theorem d_L_law_259 : decode code 259 = .ok (.aload_n 1, 1) := by decide +kernel
theorem d_L_law_260 : decode code 260 = .ok (.aload_n 0, 1) := by decide +kernel
theorem d_L_law_261 : decode code 261 = .ok (.iload_n 3, 1) := by decide +kernel
theorem d_L_law_262 : decode code 262 = .ok (.iconst 1, 1) := by decide +kernel
theorem d_L_law_263 : decode code 263 = .ok (.iadd, 1) := by decide +kernel
theorem d_L_law_264 : decode code 264 = .ok (.iaload, 1) := by decide +kernel
theorem d_L_law_265 : decode code 265 = .ok (.invokevirtual 28, 3) := by decide +kernel
theorem d_L_law_268 : decode code 268 = .ok (.aload_n 2, 1) := by decide +kernel
theorem d_L_law_269 : decode code 269 = .ok (.aload_n 0, 1) := by decide +kernel
theorem d_L_law_270 : decode code 270 = .ok (.iload_n 3, 1) := by decide +kernel
theorem d_L_law_271 : decode code 271 = .ok (.iconst 1, 1) := by decide +kernel
theorem d_L_law_272 : decode code 272 = .ok (.iadd, 1) := by decide +kernel
theorem d_L_law_273 : decode code 273 = .ok (.iaload, 1) := by decide +kernel
theorem d_L_law_274 : decode code 274 = .ok (.invokevirtual 32, 3) := by decide +kernel
theorem d_L_law_277 : decode code 277 = .ok (.if_icmp .eq 268, 3) := by decide +kernel
theorem d_L_law_280 : decode code 280 = .ok (.iconst 0, 1) := by decide +kernel
theorem d_L_law_281 : decode code 281 = .ok (.ireturn, 1) := by decide +kernel
theorem d_L_law_282 : decode code 282 = .ok (.aload_n 1, 1) := by decide +kernel
theorem d_L_law_283 : decode code 283 = .ok (.invokevirtual 33, 3) := by decide +kernel
theorem d_L_law_286 : decode code 286 = .ok (.aload_n 2, 1) := by decide +kernel
theorem d_L_law_287 : decode code 287 = .ok (.invokevirtual 37, 3) := by decide +kernel
theorem d_L_law_290 : decode code 290 = .ok (.if_icmp .eq 255, 3) := by decide +kernel
theorem d_L_law_293 : decode code 293 = .ok (.iconst 0, 1) := by decide +kernel
theorem d_L_law_294 : decode code 294 = .ok (.ireturn, 1) := by decide +kernel
theorem d_L_law_295 : decode code 295 = .ok (.aload_n 1, 1) := by decide +kernel
theorem d_L_law_296 : decode code 296 = .ok (.aload_n 0, 1) := by decide +kernel
theorem d_L_law_297 : decode code 297 = .ok (.iload_n 3, 1) := by decide +kernel
theorem d_L_law_298 : decode code 298 = .ok (.iconst 1, 1) := by decide +kernel
theorem d_L_law_299 : decode code 299 = .ok (.iadd, 1) := by decide +kernel
theorem d_L_law_300 : decode code 300 = .ok (.iaload, 1) := by decide +kernel
theorem d_L_law_301 : decode code 301 = .ok (.aload_n 0, 1) := by decide +kernel
theorem d_L_law_302 : decode code 302 = .ok (.iload_n 3, 1) := by decide +kernel
theorem d_L_law_303 : decode code 303 = .ok (.iconst 2, 1) := by decide +kernel
theorem d_L_law_304 : decode code 304 = .ok (.iadd, 1) := by decide +kernel
theorem d_L_law_305 : decode code 305 = .ok (.iaload, 1) := by decide +kernel
theorem d_L_law_306 : decode code 306 = .ok (.invokevirtual 38, 3) := by decide +kernel
theorem d_L_law_309 : decode code 309 = .ok (.aload_n 2, 1) := by decide +kernel
theorem d_L_law_310 : decode code 310 = .ok (.aload_n 0, 1) := by decide +kernel
theorem d_L_law_311 : decode code 311 = .ok (.iload_n 3, 1) := by decide +kernel
theorem d_L_law_312 : decode code 312 = .ok (.iconst 1, 1) := by decide +kernel
theorem d_L_law_313 : decode code 313 = .ok (.iadd, 1) := by decide +kernel
theorem d_L_law_314 : decode code 314 = .ok (.iaload, 1) := by decide +kernel
theorem d_L_law_315 : decode code 315 = .ok (.aload_n 0, 1) := by decide +kernel
theorem d_L_law_316 : decode code 316 = .ok (.iload_n 3, 1) := by decide +kernel
theorem d_L_law_317 : decode code 317 = .ok (.iconst 2, 1) := by decide +kernel
theorem d_L_law_318 : decode code 318 = .ok (.iadd, 1) := by decide +kernel
theorem d_L_law_319 : decode code 319 = .ok (.iaload, 1) := by decide +kernel
theorem d_L_law_320 : decode code 320 = .ok (.invokevirtual 42, 3) := by decide +kernel
theorem d_L_law_323 : decode code 323 = .ok (.if_icmp .eq 222, 3) := by decide +kernel
theorem d_L_law_326 : decode code 326 = .ok (.iconst 0, 1) := by decide +kernel
theorem d_L_law_327 : decode code 327 = .ok (.ireturn, 1) := by decide +kernel
theorem d_L_law_328 : decode code 328 = .ok (.aload_n 1, 1) := by decide +kernel
theorem d_L_law_329 : decode code 329 = .ok (.aload_n 0, 1) := by decide +kernel
theorem d_L_law_330 : decode code 330 = .ok (.iload_n 3, 1) := by decide +kernel
theorem d_L_law_331 : decode code 331 = .ok (.iconst 1, 1) := by decide +kernel
theorem d_L_law_332 : decode code 332 = .ok (.iadd, 1) := by decide +kernel
theorem d_L_law_333 : decode code 333 = .ok (.iaload, 1) := by decide +kernel
theorem d_L_law_334 : decode code 334 = .ok (.invokevirtual 43, 3) := by decide +kernel
theorem d_L_law_337 : decode code 337 = .ok (.aload_n 2, 1) := by decide +kernel
theorem d_L_law_338 : decode code 338 = .ok (.aload_n 0, 1) := by decide +kernel
theorem d_L_law_339 : decode code 339 = .ok (.iload_n 3, 1) := by decide +kernel
theorem d_L_law_340 : decode code 340 = .ok (.iconst 1, 1) := by decide +kernel
theorem d_L_law_341 : decode code 341 = .ok (.iadd, 1) := by decide +kernel
theorem d_L_law_342 : decode code 342 = .ok (.iaload, 1) := by decide +kernel
theorem d_L_law_343 : decode code 343 = .ok (.invokevirtual 46, 3) := by decide +kernel
theorem d_L_law_346 : decode code 346 = .ok (.if_icmp .eq 199, 3) := by decide +kernel
theorem d_L_law_349 : decode code 349 = .ok (.iconst 0, 1) := by decide +kernel
theorem d_L_law_350 : decode code 350 = .ok (.ireturn, 1) := by decide +kernel
theorem d_L_law_351 : decode code 351 = .ok (.aload_n 1, 1) := by decide +kernel
theorem d_L_law_352 : decode code 352 = .ok (.invokevirtual 47, 3) := by decide +kernel
theorem d_L_law_355 : decode code 355 = .ok (.aload_n 2, 1) := by decide +kernel
theorem d_L_law_356 : decode code 356 = .ok (.invokevirtual 50, 3) := by decide +kernel
theorem d_L_law_359 : decode code 359 = .ok (.if_icmp .eq 186, 3) := by decide +kernel
theorem d_L_law_362 : decode code 362 = .ok (.iconst 0, 1) := by decide +kernel
theorem d_L_law_363 : decode code 363 = .ok (.ireturn, 1) := by decide +kernel
theorem d_L_law_364 : decode code 364 = .ok (.aload_n 1, 1) := by decide +kernel
theorem d_L_law_365 : decode code 365 = .ok (.aload_n 0, 1) := by decide +kernel
theorem d_L_law_366 : decode code 366 = .ok (.iload_n 3, 1) := by decide +kernel
theorem d_L_law_367 : decode code 367 = .ok (.iconst 1, 1) := by decide +kernel
theorem d_L_law_368 : decode code 368 = .ok (.iadd, 1) := by decide +kernel
theorem d_L_law_369 : decode code 369 = .ok (.iaload, 1) := by decide +kernel
theorem d_L_law_370 : decode code 370 = .ok (.invokevirtual 51, 3) := by decide +kernel
theorem d_L_law_373 : decode code 373 = .ok (.aload_n 2, 1) := by decide +kernel
theorem d_L_law_374 : decode code 374 = .ok (.aload_n 0, 1) := by decide +kernel
theorem d_L_law_375 : decode code 375 = .ok (.iload_n 3, 1) := by decide +kernel
theorem d_L_law_376 : decode code 376 = .ok (.iconst 1, 1) := by decide +kernel
theorem d_L_law_377 : decode code 377 = .ok (.iadd, 1) := by decide +kernel
theorem d_L_law_378 : decode code 378 = .ok (.iaload, 1) := by decide +kernel
theorem d_L_law_379 : decode code 379 = .ok (.invokevirtual 54, 3) := by decide +kernel
theorem d_L_law_382 : decode code 382 = .ok (.if_icmp .eq 163, 3) := by decide +kernel
theorem d_L_law_385 : decode code 385 = .ok (.iconst 0, 1) := by decide +kernel
theorem d_L_law_386 : decode code 386 = .ok (.ireturn, 1) := by decide +kernel
theorem d_L_law_387 : decode code 387 = .ok (.aload_n 1, 1) := by decide +kernel
theorem d_L_law_388 : decode code 388 = .ok (.aload_n 0, 1) := by decide +kernel
theorem d_L_law_389 : decode code 389 = .ok (.iload_n 3, 1) := by decide +kernel
theorem d_L_law_390 : decode code 390 = .ok (.iconst 1, 1) := by decide +kernel
theorem d_L_law_391 : decode code 391 = .ok (.iadd, 1) := by decide +kernel
theorem d_L_law_392 : decode code 392 = .ok (.iaload, 1) := by decide +kernel
theorem d_L_law_393 : decode code 393 = .ok (.aload_n 0, 1) := by decide +kernel
theorem d_L_law_394 : decode code 394 = .ok (.iload_n 3, 1) := by decide +kernel
theorem d_L_law_395 : decode code 395 = .ok (.iconst 2, 1) := by decide +kernel
theorem d_L_law_396 : decode code 396 = .ok (.iadd, 1) := by decide +kernel
theorem d_L_law_397 : decode code 397 = .ok (.iaload, 1) := by decide +kernel
theorem d_L_law_398 : decode code 398 = .ok (.invokevirtual 55, 3) := by decide +kernel
theorem d_L_law_401 : decode code 401 = .ok (.aload_n 2, 1) := by decide +kernel
theorem d_L_law_402 : decode code 402 = .ok (.aload_n 0, 1) := by decide +kernel
theorem d_L_law_403 : decode code 403 = .ok (.iload_n 3, 1) := by decide +kernel
theorem d_L_law_404 : decode code 404 = .ok (.iconst 1, 1) := by decide +kernel
theorem d_L_law_405 : decode code 405 = .ok (.iadd, 1) := by decide +kernel
theorem d_L_law_406 : decode code 406 = .ok (.iaload, 1) := by decide +kernel
theorem d_L_law_407 : decode code 407 = .ok (.aload_n 0, 1) := by decide +kernel
theorem d_L_law_408 : decode code 408 = .ok (.iload_n 3, 1) := by decide +kernel
theorem d_L_law_409 : decode code 409 = .ok (.iconst 2, 1) := by decide +kernel
theorem d_L_law_410 : decode code 410 = .ok (.iadd, 1) := by decide +kernel
theorem d_L_law_411 : decode code 411 = .ok (.iaload, 1) := by decide +kernel
theorem d_L_law_412 : decode code 412 = .ok (.invokevirtual 58, 3) := by decide +kernel
theorem d_L_law_415 : decode code 415 = .ok (.if_icmp .eq 130, 3) := by decide +kernel
theorem d_L_law_418 : decode code 418 = .ok (.iconst 0, 1) := by decide +kernel
theorem d_L_law_419 : decode code 419 = .ok (.ireturn, 1) := by decide +kernel
theorem d_L_law_420 : decode code 420 = .ok (.aload_n 1, 1) := by decide +kernel
theorem d_L_law_421 : decode code 421 = .ok (.aload_n 0, 1) := by decide +kernel
theorem d_L_law_422 : decode code 422 = .ok (.iload_n 3, 1) := by decide +kernel
theorem d_L_law_423 : decode code 423 = .ok (.iconst 1, 1) := by decide +kernel
theorem d_L_law_424 : decode code 424 = .ok (.iadd, 1) := by decide +kernel
theorem d_L_law_425 : decode code 425 = .ok (.iaload, 1) := by decide +kernel
theorem d_L_law_426 : decode code 426 = .ok (.invokevirtual 59, 3) := by decide +kernel
theorem d_L_law_429 : decode code 429 = .ok (.aload_n 2, 1) := by decide +kernel
theorem d_L_law_430 : decode code 430 = .ok (.aload_n 0, 1) := by decide +kernel
theorem d_L_law_431 : decode code 431 = .ok (.iload_n 3, 1) := by decide +kernel
theorem d_L_law_432 : decode code 432 = .ok (.iconst 1, 1) := by decide +kernel
theorem d_L_law_433 : decode code 433 = .ok (.iadd, 1) := by decide +kernel
theorem d_L_law_434 : decode code 434 = .ok (.iaload, 1) := by decide +kernel
theorem d_L_law_435 : decode code 435 = .ok (.invokevirtual 62, 3) := by decide +kernel
theorem d_L_law_438 : decode code 438 = .ok (.if_icmp .eq 107, 3) := by decide +kernel
theorem d_L_law_441 : decode code 441 = .ok (.iconst 0, 1) := by decide +kernel
theorem d_L_law_442 : decode code 442 = .ok (.ireturn, 1) := by decide +kernel
theorem d_L_law_443 : decode code 443 = .ok (.aload_n 1, 1) := by decide +kernel
theorem d_L_law_444 : decode code 444 = .ok (.aload_n 0, 1) := by decide +kernel
theorem d_L_law_445 : decode code 445 = .ok (.iload_n 3, 1) := by decide +kernel
theorem d_L_law_446 : decode code 446 = .ok (.iconst 1, 1) := by decide +kernel
theorem d_L_law_447 : decode code 447 = .ok (.iadd, 1) := by decide +kernel
theorem d_L_law_448 : decode code 448 = .ok (.iaload, 1) := by decide +kernel
theorem d_L_law_449 : decode code 449 = .ok (.invokevirtual 63, 3) := by decide +kernel
theorem d_L_law_452 : decode code 452 = .ok (.aload_n 2, 1) := by decide +kernel
theorem d_L_law_453 : decode code 453 = .ok (.aload_n 0, 1) := by decide +kernel
theorem d_L_law_454 : decode code 454 = .ok (.iload_n 3, 1) := by decide +kernel
theorem d_L_law_455 : decode code 455 = .ok (.iconst 1, 1) := by decide +kernel
theorem d_L_law_456 : decode code 456 = .ok (.iadd, 1) := by decide +kernel
theorem d_L_law_457 : decode code 457 = .ok (.iaload, 1) := by decide +kernel
theorem d_L_law_458 : decode code 458 = .ok (.invokevirtual 66, 3) := by decide +kernel
theorem d_L_law_461 : decode code 461 = .ok (.if_icmp .eq 84, 3) := by decide +kernel
theorem d_L_law_464 : decode code 464 = .ok (.iconst 0, 1) := by decide +kernel
theorem d_L_law_465 : decode code 465 = .ok (.ireturn, 1) := by decide +kernel
theorem d_L_law_466 : decode code 466 = .ok (.aload_n 1, 1) := by decide +kernel
theorem d_L_law_467 : decode code 467 = .ok (.aload_n 0, 1) := by decide +kernel
theorem d_L_law_468 : decode code 468 = .ok (.iload_n 3, 1) := by decide +kernel
theorem d_L_law_469 : decode code 469 = .ok (.iconst 1, 1) := by decide +kernel
theorem d_L_law_470 : decode code 470 = .ok (.iadd, 1) := by decide +kernel
theorem d_L_law_471 : decode code 471 = .ok (.iaload, 1) := by decide +kernel
theorem d_L_law_472 : decode code 472 = .ok (.aload_n 0, 1) := by decide +kernel
theorem d_L_law_473 : decode code 473 = .ok (.iload_n 3, 1) := by decide +kernel
theorem d_L_law_474 : decode code 474 = .ok (.iconst 2, 1) := by decide +kernel
theorem d_L_law_475 : decode code 475 = .ok (.iadd, 1) := by decide +kernel
theorem d_L_law_476 : decode code 476 = .ok (.iaload, 1) := by decide +kernel
theorem d_L_law_477 : decode code 477 = .ok (.aload_n 0, 1) := by decide +kernel
theorem d_L_law_478 : decode code 478 = .ok (.iload_n 3, 1) := by decide +kernel
theorem d_L_law_479 : decode code 479 = .ok (.iconst 3, 1) := by decide +kernel
theorem d_L_law_480 : decode code 480 = .ok (.iadd, 1) := by decide +kernel
theorem d_L_law_481 : decode code 481 = .ok (.iaload, 1) := by decide +kernel
theorem d_L_law_482 : decode code 482 = .ok (.invokevirtual 67, 3) := by decide +kernel
theorem d_L_law_485 : decode code 485 = .ok (.aload_n 2, 1) := by decide +kernel
theorem d_L_law_486 : decode code 486 = .ok (.aload_n 0, 1) := by decide +kernel
theorem d_L_law_487 : decode code 487 = .ok (.iload_n 3, 1) := by decide +kernel
theorem d_L_law_488 : decode code 488 = .ok (.iconst 1, 1) := by decide +kernel
theorem d_L_law_489 : decode code 489 = .ok (.iadd, 1) := by decide +kernel
theorem d_L_law_490 : decode code 490 = .ok (.iaload, 1) := by decide +kernel
theorem d_L_law_491 : decode code 491 = .ok (.aload_n 0, 1) := by decide +kernel
theorem d_L_law_492 : decode code 492 = .ok (.iload_n 3, 1) := by decide +kernel
theorem d_L_law_493 : decode code 493 = .ok (.iconst 2, 1) := by decide +kernel
theorem d_L_law_494 : decode code 494 = .ok (.iadd, 1) := by decide +kernel
theorem d_L_law_495 : decode code 495 = .ok (.iaload, 1) := by decide +kernel
theorem d_L_law_496 : decode code 496 = .ok (.aload_n 0, 1) := by decide +kernel
theorem d_L_law_497 : decode code 497 = .ok (.iload_n 3, 1) := by decide +kernel
theorem d_L_law_498 : decode code 498 = .ok (.iconst 3, 1) := by decide +kernel
theorem d_L_law_499 : decode code 499 = .ok (.iadd, 1) := by decide +kernel
theorem d_L_law_500 : decode code 500 = .ok (.iaload, 1) := by decide +kernel
theorem d_L_law_501 : decode code 501 = .ok (.invokevirtual 70, 3) := by decide +kernel
theorem d_L_law_504 : decode code 504 = .ok (.if_icmp .eq 41, 3) := by decide +kernel
theorem d_L_law_507 : decode code 507 = .ok (.iconst 0, 1) := by decide +kernel
theorem d_L_law_508 : decode code 508 = .ok (.ireturn, 1) := by decide +kernel
theorem d_L_law_509 : decode code 509 = .ok (.aload_n 1, 1) := by decide +kernel
theorem d_L_law_510 : decode code 510 = .ok (.aload_n 0, 1) := by decide +kernel
theorem d_L_law_511 : decode code 511 = .ok (.iload_n 3, 1) := by decide +kernel
theorem d_L_law_512 : decode code 512 = .ok (.iconst 1, 1) := by decide +kernel
theorem d_L_law_513 : decode code 513 = .ok (.iadd, 1) := by decide +kernel
theorem d_L_law_514 : decode code 514 = .ok (.iaload, 1) := by decide +kernel
theorem d_L_law_515 : decode code 515 = .ok (.invokevirtual 71, 3) := by decide +kernel
theorem d_L_law_518 : decode code 518 = .ok (.aload_n 2, 1) := by decide +kernel
theorem d_L_law_519 : decode code 519 = .ok (.aload_n 0, 1) := by decide +kernel
theorem d_L_law_520 : decode code 520 = .ok (.iload_n 3, 1) := by decide +kernel
theorem d_L_law_521 : decode code 521 = .ok (.iconst 1, 1) := by decide +kernel
theorem d_L_law_522 : decode code 522 = .ok (.iadd, 1) := by decide +kernel
theorem d_L_law_523 : decode code 523 = .ok (.iaload, 1) := by decide +kernel
theorem d_L_law_524 : decode code 524 = .ok (.invokevirtual 74, 3) := by decide +kernel
theorem d_L_law_527 : decode code 527 = .ok (.if_icmp .eq 18, 3) := by decide +kernel
theorem d_L_law_530 : decode code 530 = .ok (.iconst 0, 1) := by decide +kernel
theorem d_L_law_531 : decode code 531 = .ok (.ireturn, 1) := by decide +kernel
theorem d_L_law_532 : decode code 532 = .ok (.aload_n 1, 1) := by decide +kernel
theorem d_L_law_533 : decode code 533 = .ok (.invokevirtual 75, 3) := by decide +kernel
theorem d_L_law_536 : decode code 536 = .ok (.aload_n 2, 1) := by decide +kernel
theorem d_L_law_537 : decode code 537 = .ok (.invokevirtual 78, 3) := by decide +kernel
theorem d_L_law_540 : decode code 540 = .ok (.if_icmp .eq 5, 3) := by decide +kernel
theorem d_L_law_543 : decode code 543 = .ok (.iconst 0, 1) := by decide +kernel
theorem d_L_law_544 : decode code 544 = .ok (.ireturn, 1) := by decide +kernel
theorem d_L_law_545 : decode code 545 = .ok (.iinc 3 4, 3) := by decide +kernel
theorem d_L_law_548 : decode code 548 = .ok (.goto (-530), 3) := by decide +kernel
theorem d_L_law_551 : decode code 551 = .ok (.iconst 1, 1) := by decide +kernel
theorem d_L_law_552 : decode code 552 = .ok (.ireturn, 1) := by decide +kernel
