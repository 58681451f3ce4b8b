theorem d_la_law_0 : decode b_la_law 0 = .ok (.new 8, 3) := by decide +kernel
theorem d_la_law_3 : decode b_la_law 3 = .ok (.dup, 1) := by decide +kernel
theorem d_la_law_4 : decode b_la_law 4 = .ok (.invokespecial 15, 3) := by decide +kernel
theorem d_la_law_7 : decode b_la_law 7 = .ok (.astore_n 1, 1) := by decide +kernel
theorem d_la_law_8 : decode b_la_law 8 = .ok (.new 16, 3) := by decide +kernel
theorem d_la_law_11 : decode b_la_law 11 = .ok (.dup, 1) := by decide +kernel
theorem d_la_law_12 : decode b_la_law 12 = .ok (.invokespecial 18, 3) := by decide +kernel
theorem d_la_law_15 : decode b_la_law 15 = .ok (.astore_n 2, 1) := by decide +kernel
theorem d_la_law_16 : decode b_la_law 16 = .ok (.iconst 1, 1) := by decide +kernel
theorem d_la_law_17 : decode b_la_law 17 = .ok (.newarray .long, 2) := by decide +kernel
theorem d_la_law_19 : decode b_la_law 19 = .ok (.astore_n 3, 1) := by decide +kernel
theorem d_la_law_20 : decode b_la_law 20 = .ok (.iconst 0, 1) := by decide +kernel
theorem d_la_law_21 : decode b_la_law 21 = .ok (.istore 4, 2) := by decide +kernel
theorem d_la_law_23 : decode b_la_law 23 = .ok (.iload 4, 2) := by decide +kernel
theorem d_la_law_25 : decode b_la_law 25 = .ok (.aload_n 0, 1) := by decide +kernel
theorem d_la_law_26 : decode b_la_law 26 = .ok (.arraylength, 1) := by decide +kernel
theorem d_la_law_27 : decode b_la_law 27 = .ok (.bipush 6, 2) := by decide +kernel
theorem d_la_law_29 : decode b_la_law 29 = .ok (.isub, 1) := by decide +kernel
theorem d_la_law_30 : decode b_la_law 30 = .ok (.if_icmp .gt 942, 3) := by decide +kernel
theorem d_la_law_33 : decode b_la_law 33 = .ok (.aload_n 0, 1) := by decide +kernel
theorem d_la_law_34 : decode b_la_law 34 = .ok (.iload 4, 2) := by decide +kernel
theorem d_la_law_36 : decode b_la_law 36 = .ok (.iaload, 1) := by decide +kernel
theorem d_la_law_37 : decode b_la_law 37 = .ok (.bipush 31, 2) := by decide +kernel
theorem d_la_law_39 : decode b_la_law 39 = .ok (.iand, 1) := by decide +kernel
theorem d_la_law_40 : decode b_la_law 40 = .ok (.tableswitch 926 0 18 #[92, 105, 158, 231, 296, 321, 374, 427, 476, 501, 550, 587, 624, 661, 710, 735, 772, 809, 889], 92) := by decide +kernel
theorem d_la_law_132 : decode b_la_law 132 = .ok (.aload_n 1, 1) := by decide +kernel
theorem d_la_law_133 : decode b_la_law 133 = .ok (.invokevirtual 19, 3) := by decide +kernel
theorem d_la_law_136 : decode b_la_law 136 = .ok (.aload_n 2, 1) := by decide +kernel
theorem d_la_law_137 : decode b_la_law 137 = .ok (.invokevirtual 23, 3) := by decide +kernel
theorem d_la_law_140 : decode b_la_law 140 = .ok (.if_icmp .eq 826, 3) := by decide +kernel
theorem d_la_law_143 : decode b_la_law 143 = .ok (.iconst 0, 1) := by decide +kernel
theorem d_la_law_144 : decode b_la_law 144 = .ok (.ireturn, 1) := by decide +kernel
theorem d_la_law_145 : decode b_la_law 145 = .ok (.aload_n 1, 1) := by decide +kernel
theorem d_la_law_146 : decode b_la_law 146 = .ok (.aload_n 0, 1) := by decide +kernel
theorem d_la_law_147 : decode b_la_law 147 = .ok (.iload 4, 2) := by decide +kernel
theorem d_la_law_149 : decode b_la_law 149 = .ok (.iconst 1, 1) := by decide +kernel
theorem d_la_law_150 : decode b_la_law 150 = .ok (.iadd, 1) := by decide +kernel
theorem d_la_law_151 : decode b_la_law 151 = .ok (.iaload, 1) := by decide +kernel
theorem d_la_law_152 : decode b_la_law 152 = .ok (.aload_n 0, 1) := by decide +kernel
theorem d_la_law_153 : decode b_la_law 153 = .ok (.iload 4, 2) := by decide +kernel
theorem d_la_law_155 : decode b_la_law 155 = .ok (.iconst 2, 1) := by decide +kernel
theorem d_la_law_156 : decode b_la_law 156 = .ok (.iadd, 1) := by decide +kernel
theorem d_la_law_157 : decode b_la_law 157 = .ok (.iaload, 1) := by decide +kernel
theorem d_la_law_158 : decode b_la_law 158 = .ok (.ifCond .eq 7, 3) := by decide +kernel
theorem d_la_law_161 : decode b_la_law 161 = .ok (.iconst 1, 1) := by decide +kernel
theorem d_la_law_162 : decode b_la_law 162 = .ok (.goto 4, 3) := by decide +kernel
theorem d_la_law_165 : decode b_la_law 165 = .ok (.iconst 0, 1) := by decide +kernel
theorem d_la_law_166 : decode b_la_law 166 = .ok (.invokevirtual 24, 3) := by decide +kernel
theorem d_la_law_169 : decode b_la_law 169 = .ok (.aload_n 2, 1) := by decide +kernel
theorem d_la_law_170 : decode b_la_law 170 = .ok (.aload_n 0, 1) := by decide +kernel
theorem d_la_law_171 : decode b_la_law 171 = .ok (.iload 4, 2) := by decide +kernel
theorem d_la_law_173 : decode b_la_law 173 = .ok (.iconst 1, 1) := by decide +kernel
theorem d_la_law_174 : decode b_la_law 174 = .ok (.iadd, 1) := by decide +kernel
theorem d_la_law_175 : decode b_la_law 175 = .ok (.iaload, 1) := by decide +kernel
theorem d_la_law_176 : decode b_la_law 176 = .ok (.aload_n 0, 1) := by decide +kernel
theorem d_la_law_177 : decode b_la_law 177 = .ok (.iload 4, 2) := by decide +kernel
theorem d_la_law_179 : decode b_la_law 179 = .ok (.iconst 2, 1) := by decide +kernel
theorem d_la_law_180 : decode b_la_law 180 = .ok (.iadd, 1) := by decide +kernel
theorem d_la_law_181 : decode b_la_law 181 = .ok (.iaload, 1) := by decide +kernel
theorem d_la_law_182 : decode b_la_law 182 = .ok (.ifCond .eq 7, 3) := by decide +kernel
theorem d_la_law_185 : decode b_la_law 185 = .ok (.iconst 1, 1) := by decide +kernel
theorem d_la_law_186 : decode b_la_law 186 = .ok (.goto 4, 3) := by decide +kernel
theorem d_la_law_189 : decode b_la_law 189 = .ok (.iconst 0, 1) := by decide +kernel
theorem d_la_law_190 : decode b_la_law 190 = .ok (.invokevirtual 28, 3) := by decide +kernel
theorem d_la_law_193 : decode b_la_law 193 = .ok (.if_icmp .eq 773, 3) := by decide +kernel
theorem d_la_law_196 : decode b_la_law 196 = .ok (.iconst 0, 1) := by decide +kernel
theorem d_la_law_197 : decode b_la_law 197 = .ok (.ireturn, 1) := by decide +kernel
theorem d_la_law_198 : decode b_la_law 198 = .ok (.aload_n 1, 1) := by decide +kernel
theorem d_la_law_199 : decode b_la_law 199 = .ok (.aload_n 0, 1) := by decide +kernel
theorem d_la_law_200 : decode b_la_law 200 = .ok (.iload 4, 2) := by decide +kernel
theorem d_la_law_202 : decode b_la_law 202 = .ok (.iconst 1, 1) := by decide +kernel
theorem d_la_law_203 : decode b_la_law 203 = .ok (.iadd, 1) := by decide +kernel
theorem d_la_law_204 : decode b_la_law 204 = .ok (.iaload, 1) := by decide +kernel
theorem d_la_law_205 : decode b_la_law 205 = .ok (.aload_n 0, 1) := by decide +kernel
theorem d_la_law_206 : decode b_la_law 206 = .ok (.iload 4, 2) := by decide +kernel
theorem d_la_law_208 : decode b_la_law 208 = .ok (.iconst 2, 1) := by decide +kernel
theorem d_la_law_209 : decode b_la_law 209 = .ok (.iadd, 1) := by decide +kernel
theorem d_la_law_210 : decode b_la_law 210 = .ok (.iaload, 1) := by decide +kernel
theorem d_la_law_211 : decode b_la_law 211 = .ok (.aload_n 0, 1) := by decide +kernel
theorem d_la_law_212 : decode b_la_law 212 = .ok (.iload 4, 2) := by decide +kernel
theorem d_la_law_214 : decode b_la_law 214 = .ok (.iconst 3, 1) := by decide +kernel
theorem d_la_law_215 : decode b_la_law 215 = .ok (.iadd, 1) := by decide +kernel
theorem d_la_law_216 : decode b_la_law 216 = .ok (.iaload, 1) := by decide +kernel
theorem d_la_law_217 : decode b_la_law 217 = .ok (.aload_n 0, 1) := by decide +kernel
theorem d_la_law_218 : decode b_la_law 218 = .ok (.iload 4, 2) := by decide +kernel
theorem d_la_law_220 : decode b_la_law 220 = .ok (.iconst 4, 1) := by decide +kernel
theorem d_la_law_221 : decode b_la_law 221 = .ok (.iadd, 1) := by decide +kernel
theorem d_la_law_222 : decode b_la_law 222 = .ok (.iaload, 1) := by decide +kernel
theorem d_la_law_223 : decode b_la_law 223 = .ok (.aload_n 0, 1) := by decide +kernel
theorem d_la_law_224 : decode b_la_law 224 = .ok (.iload 4, 2) := by decide +kernel
theorem d_la_law_226 : decode b_la_law 226 = .ok (.iconst 5, 1) := by decide +kernel
theorem d_la_law_227 : decode b_la_law 227 = .ok (.iadd, 1) := by decide +kernel
theorem d_la_law_228 : decode b_la_law 228 = .ok (.iaload, 1) := by decide +kernel
theorem d_la_law_229 : decode b_la_law 229 = .ok (.invokevirtual 29, 3) := by decide +kernel
theorem d_la_law_232 : decode b_la_law 232 = .ok (.aload_n 2, 1) := by decide +kernel
theorem d_la_law_233 : decode b_la_law 233 = .ok (.aload_n 0, 1) := by decide +kernel
theorem d_la_law_234 : decode b_la_law 234 = .ok (.iload 4, 2) := by decide +kernel
theorem d_la_law_236 : decode b_la_law 236 = .ok (.iconst 1, 1) := by decide +kernel
theorem d_la_law_237 : decode b_la_law 237 = .ok (.iadd, 1) := by decide +kernel
theorem d_la_law_238 : decode b_la_law 238 = .ok (.iaload, 1) := by decide +kernel
theorem d_la_law_239 : decode b_la_law 239 = .ok (.aload_n 0, 1) := by decide +kernel
theorem d_la_law_240 : decode b_la_law 240 = .ok (.iload 4, 2) := by decide +kernel
theorem d_la_law_242 : decode b_la_law 242 = .ok (.iconst 2, 1) := by decide +kernel
theorem d_la_law_243 : decode b_la_law 243 = .ok (.iadd, 1) := by decide +kernel
theorem d_la_law_244 : decode b_la_law 244 = .ok (.iaload, 1) := by decide +kernel
theorem d_la_law_245 : decode b_la_law 245 = .ok (.aload_n 0, 1) := by decide +kernel
theorem d_la_law_246 : decode b_la_law 246 = .ok (.iload 4, 2) := by decide +kernel
theorem d_la_law_248 : decode b_la_law 248 = .ok (.iconst 3, 1) := by decide +kernel
theorem d_la_law_249 : decode b_la_law 249 = .ok (.iadd, 1) := by decide +kernel
theorem d_la_law_250 : decode b_la_law 250 = .ok (.iaload, 1) := by decide +kernel
theorem d_la_law_251 : decode b_la_law 251 = .ok (.aload_n 0, 1) := by decide +kernel
theorem d_la_law_252 : decode b_la_law 252 = .ok (.iload 4, 2) := by decide +kernel
theorem d_la_law_254 : decode b_la_law 254 = .ok (.iconst 4, 1) := by decide +kernel
theorem d_la_law_255 : decode b_la_law 255 = .ok (.iadd, 1) := by decide +kernel
theorem d_la_law_256 : decode b_la_law 256 = .ok (.iaload, 1) := by decide +kernel
theorem d_la_law_257 : decode b_la_law 257 = .ok (.aload_n 0, 1) := by decide +kernel
theorem d_la_law_258 : decode b_la_law 258 = .ok (.iload 4, 2) := by decide +kernel
theorem d_la_law_260 : decode b_la_law 260 = .ok (.iconst 5, 1) := by decide +kernel
theorem d_la_law_261 : decode b_la_law 261 = .ok (.iadd, 1) := by decide +kernel
theorem d_la_law_262 : decode b_la_law 262 = .ok (.iaload, 1) := by decide +kernel
theorem d_la_law_263 : decode b_la_law 263 = .ok (.invokevirtual 33, 3) := by decide +kernel
theorem d_la_law_266 : decode b_la_law 266 = .ok (.if_icmp .eq 700, 3) := by decide +kernel
theorem d_la_law_269 : decode b_la_law 269 = .ok (.iconst 0, 1) := by decide +kernel
theorem d_la_law_270 : decode b_la_law 270 = .ok (.ireturn, 1) := by decide +kernel
theorem d_la_law_271 : decode b_la_law 271 = .ok (.aload_n 1, 1) := by decide +kernel
theorem d_la_law_272 : decode b_la_law 272 = .ok (.aload_n 0, 1) := by decide +kernel
theorem d_la_law_273 : decode b_la_law 273 = .ok (.iload 4, 2) := by decide +kernel
theorem d_la_law_275 : decode b_la_law 275 = .ok (.iconst 1, 1) := by decide +kernel
theorem d_la_law_276 : decode b_la_law 276 = .ok (.iadd, 1) := by decide +kernel
theorem d_la_law_277 : decode b_la_law 277 = .ok (.iaload, 1) := by decide +kernel
theorem d_la_law_278 : decode b_la_law 278 = .ok (.aload_n 0, 1) := by decide +kernel
theorem d_la_law_279 : decode b_la_law 279 = .ok (.iload 4, 2) := by decide +kernel
theorem d_la_law_281 : decode b_la_law 281 = .ok (.iconst 2, 1) := by decide +kernel
theorem d_la_law_282 : decode b_la_law 282 = .ok (.iadd, 1) := by decide +kernel
theorem d_la_law_283 : decode b_la_law 283 = .ok (.iaload, 1) := by decide +kernel
theorem d_la_law_284 : decode b_la_law 284 = .ok (.aload_n 0, 1) := by decide +kernel
theorem d_la_law_285 : decode b_la_law 285 = .ok (.iload 4, 2) := by decide +kernel
theorem d_la_law_287 : decode b_la_law 287 = .ok (.iconst 3, 1) := by decide +kernel
theorem d_la_law_288 : decode b_la_law 288 = .ok (.iadd, 1) := by decide +kernel
theorem d_la_law_289 : decode b_la_law 289 = .ok (.iaload, 1) := by decide +kernel
theorem d_la_law_290 : decode b_la_law 290 = .ok (.ifCond .eq 7, 3) := by decide +kernel
theorem d_la_law_293 : decode b_la_law 293 = .ok (.iconst 1, 1) := by decide +kernel
theorem d_la_law_294 : decode b_la_law 294 = .ok (.goto 4, 3) := by decide +kernel
theorem d_la_law_297 : decode b_la_law 297 = .ok (.iconst 0, 1) := by decide +kernel
theorem d_la_law_298 : decode b_la_law 298 = .ok (.invokevirtual 34, 3) := by decide +kernel
theorem d_la_law_301 : decode b_la_law 301 = .ok (.aload_n 2, 1) := by decide +kernel
theorem d_la_law_302 : decode b_la_law 302 = .ok (.aload_n 0, 1) := by decide +kernel
theorem d_la_law_303 : decode b_la_law 303 = .ok (.iload 4, 2) := by decide +kernel
theorem d_la_law_305 : decode b_la_law 305 = .ok (.iconst 1, 1) := by decide +kernel
theorem d_la_law_306 : decode b_la_law 306 = .ok (.iadd, 1) := by decide +kernel
theorem d_la_law_307 : decode b_la_law 307 = .ok (.iaload, 1) := by decide +kernel
theorem d_la_law_308 : decode b_la_law 308 = .ok (.aload_n 0, 1) := by decide +kernel
theorem d_la_law_309 : decode b_la_law 309 = .ok (.iload 4, 2) := by decide +kernel
theorem d_la_law_311 : decode b_la_law 311 = .ok (.iconst 2, 1) := by decide +kernel
theorem d_la_law_312 : decode b_la_law 312 = .ok (.iadd, 1) := by decide +kernel
theorem d_la_law_313 : decode b_la_law 313 = .ok (.iaload, 1) := by decide +kernel
theorem d_la_law_314 : decode b_la_law 314 = .ok (.aload_n 0, 1) := by decide +kernel
theorem d_la_law_315 : decode b_la_law 315 = .ok (.iload 4, 2) := by decide +kernel
theorem d_la_law_317 : decode b_la_law 317 = .ok (.iconst 3, 1) := by decide +kernel
theorem d_la_law_318 : decode b_la_law 318 = .ok (.iadd, 1) := by decide +kernel
theorem d_la_law_319 : decode b_la_law 319 = .ok (.iaload, 1) := by decide +kernel
theorem d_la_law_320 : decode b_la_law 320 = .ok (.ifCond .eq 7, 3) := by decide +kernel
theorem d_la_law_323 : decode b_la_law 323 = .ok (.iconst 1, 1) := by decide +kernel
theorem d_la_law_324 : decode b_la_law 324 = .ok (.goto 4, 3) := by decide +kernel
theorem d_la_law_327 : decode b_la_law 327 = .ok (.iconst 0, 1) := by decide +kernel
theorem d_la_law_328 : decode b_la_law 328 = .ok (.invokevirtual 38, 3) := by decide +kernel
theorem d_la_law_331 : decode b_la_law 331 = .ok (.if_icmp .eq 635, 3) := by decide +kernel
theorem d_la_law_334 : decode b_la_law 334 = .ok (.iconst 0, 1) := by decide +kernel
theorem d_la_law_335 : decode b_la_law 335 = .ok (.ireturn, 1) := by decide +kernel
theorem d_la_law_336 : decode b_la_law 336 = .ok (.aload_n 1, 1) := by decide +kernel
theorem d_la_law_337 : decode b_la_law 337 = .ok (.aload_n 0, 1) := by decide +kernel
theorem d_la_law_338 : decode b_la_law 338 = .ok (.iload 4, 2) := by decide +kernel
theorem d_la_law_340 : decode b_la_law 340 = .ok (.iconst 1, 1) := by decide +kernel
theorem d_la_law_341 : decode b_la_law 341 = .ok (.iadd, 1) := by decide +kernel
theorem d_la_law_342 : decode b_la_law 342 = .ok (.iaload, 1) := by decide +kernel
theorem d_la_law_343 : decode b_la_law 343 = .ok (.invokevirtual 39, 3) := by decide +kernel
theorem d_la_law_346 : decode b_la_law 346 = .ok (.aload_n 2, 1) := by decide +kernel
theorem d_la_law_347 : decode b_la_law 347 = .ok (.aload_n 0, 1) := by decide +kernel
theorem d_la_law_348 : decode b_la_law 348 = .ok (.iload 4, 2) := by decide +kernel
theorem d_la_law_350 : decode b_la_law 350 = .ok (.iconst 1, 1) := by decide +kernel
theorem d_la_law_351 : decode b_la_law 351 = .ok (.iadd, 1) := by decide +kernel
theorem d_la_law_352 : decode b_la_law 352 = .ok (.iaload, 1) := by decide +kernel
theorem d_la_law_353 : decode b_la_law 353 = .ok (.invokevirtual 43, 3) := by decide +kernel
theorem d_la_law_356 : decode b_la_law 356 = .ok (.if_icmp .eq 610, 3) := by decide +kernel
theorem d_la_law_359 : decode b_la_law 359 = .ok (.iconst 0, 1) := by decide +kernel
theorem d_la_law_360 : decode b_la_law 360 = .ok (.ireturn, 1) := by decide +kernel
theorem d_la_law_361 : decode b_la_law 361 = .ok (.aload_n 1, 1) := by decide +kernel
theorem d_la_law_362 : decode b_la_law 362 = .ok (.aload_n 0, 1) := by decide +kernel
theorem d_la_law_363 : decode b_la_law 363 = .ok (.iload 4, 2) := by decide +kernel
theorem d_la_law_365 : decode b_la_law 365 = .ok (.iconst 1, 1) := by decide +kernel
theorem d_la_law_366 : decode b_la_law 366 = .ok (.iadd, 1) := by decide +kernel
theorem d_la_law_367 : decode b_la_law 367 = .ok (.iaload, 1) := by decide +kernel
theorem d_la_law_368 : decode b_la_law 368 = .ok (.aload_n 0, 1) := by decide +kernel
theorem d_la_law_369 : decode b_la_law 369 = .ok (.iload 4, 2) := by decide +kernel
theorem d_la_law_371 : decode b_la_law 371 = .ok (.iconst 2, 1) := by decide +kernel
theorem d_la_law_372 : decode b_la_law 372 = .ok (.iadd, 1) := by decide +kernel
theorem d_la_law_373 : decode b_la_law 373 = .ok (.iaload, 1) := by decide +kernel
theorem d_la_law_374 : decode b_la_law 374 = .ok (.ifCond .eq 7, 3) := by decide +kernel
theorem d_la_law_377 : decode b_la_law 377 = .ok (.iconst 1, 1) := by decide +kernel
theorem d_la_law_378 : decode b_la_law 378 = .ok (.goto 4, 3) := by decide +kernel
theorem d_la_law_381 : decode b_la_law 381 = .ok (.iconst 0, 1) := by decide +kernel
theorem d_la_law_382 : decode b_la_law 382 = .ok (.invokevirtual 44, 3) := by decide +kernel
theorem d_la_law_385 : decode b_la_law 385 = .ok (.aload_n 2, 1) := by decide +kernel
theorem d_la_law_386 : decode b_la_law 386 = .ok (.aload_n 0, 1) := by decide +kernel
theorem d_la_law_387 : decode b_la_law 387 = .ok (.iload 4, 2) := by decide +kernel
theorem d_la_law_389 : decode b_la_law 389 = .ok (.iconst 1, 1) := by decide +kernel
theorem d_la_law_390 : decode b_la_law 390 = .ok (.iadd, 1) := by decide +kernel
theorem d_la_law_391 : decode b_la_law 391 = .ok (.iaload, 1) := by decide +kernel
theorem d_la_law_392 : decode b_la_law 392 = .ok (.aload_n 0, 1) := by decide +kernel
theorem d_la_law_393 : decode b_la_law 393 = .ok (.iload 4, 2) := by decide +kernel
theorem d_la_law_395 : decode b_la_law 395 = .ok (.iconst 2, 1) := by decide +kernel
theorem d_la_law_396 : decode b_la_law 396 = .ok (.iadd, 1) := by decide +kernel
theorem d_la_law_397 : decode b_la_law 397 = .ok (.iaload, 1) := by decide +kernel
theorem d_la_law_398 : decode b_la_law 398 = .ok (.ifCond .eq 7, 3) := by decide +kernel
theorem d_la_law_401 : decode b_la_law 401 = .ok (.iconst 1, 1) := by decide +kernel
theorem d_la_law_402 : decode b_la_law 402 = .ok (.goto 4, 3) := by decide +kernel
theorem d_la_law_405 : decode b_la_law 405 = .ok (.iconst 0, 1) := by decide +kernel
theorem d_la_law_406 : decode b_la_law 406 = .ok (.invokevirtual 47, 3) := by decide +kernel
theorem d_la_law_409 : decode b_la_law 409 = .ok (.if_icmp .eq 557, 3) := by decide +kernel
theorem d_la_law_412 : decode b_la_law 412 = .ok (.iconst 0, 1) := by decide +kernel
theorem d_la_law_413 : decode b_la_law 413 = .ok (.ireturn, 1) := by decide +kernel
theorem d_la_law_414 : decode b_la_law 414 = .ok (.aload_n 1, 1) := by decide +kernel
theorem d_la_law_415 : decode b_la_law 415 = .ok (.aload_n 0, 1) := by decide +kernel
theorem d_la_law_416 : decode b_la_law 416 = .ok (.iload 4, 2) := by decide +kernel
theorem d_la_law_418 : decode b_la_law 418 = .ok (.iconst 1, 1) := by decide +kernel
theorem d_la_law_419 : decode b_la_law 419 = .ok (.iadd, 1) := by decide +kernel
theorem d_la_law_420 : decode b_la_law 420 = .ok (.iaload, 1) := by decide +kernel
theorem d_la_law_421 : decode b_la_law 421 = .ok (.aload_n 0, 1) := by decide +kernel
theorem d_la_law_422 : decode b_la_law 422 = .ok (.iload 4, 2) := by decide +kernel
theorem d_la_law_424 : decode b_la_law 424 = .ok (.iconst 2, 1) := by decide +kernel
theorem d_la_law_425 : decode b_la_law 425 = .ok (.iadd, 1) := by decide +kernel
theorem d_la_law_426 : decode b_la_law 426 = .ok (.iaload, 1) := by decide +kernel
theorem d_la_law_427 : decode b_la_law 427 = .ok (.ifCond .eq 7, 3) := by decide +kernel
theorem d_la_law_430 : decode b_la_law 430 = .ok (.iconst 1, 1) := by decide +kernel
theorem d_la_law_431 : decode b_la_law 431 = .ok (.goto 4, 3) := by decide +kernel
theorem d_la_law_434 : decode b_la_law 434 = .ok (.iconst 0, 1) := by decide +kernel
theorem d_la_law_435 : decode b_la_law 435 = .ok (.invokevirtual 48, 3) := by decide +kernel
theorem d_la_law_438 : decode b_la_law 438 = .ok (.aload_n 2, 1) := by decide +kernel
theorem d_la_law_439 : decode b_la_law 439 = .ok (.aload_n 0, 1) := by decide +kernel
theorem d_la_law_440 : decode b_la_law 440 = .ok (.iload 4, 2) := by decide +kernel
theorem d_la_law_442 : decode b_la_law 442 = .ok (.iconst 1, 1) := by decide +kernel
theorem d_la_law_443 : decode b_la_law 443 = .ok (.iadd, 1) := by decide +kernel
theorem d_la_law_444 : decode b_la_law 444 = .ok (.iaload, 1) := by decide +kernel
theorem d_la_law_445 : decode b_la_law 445 = .ok (.aload_n 0, 1) := by decide +kernel
theorem d_la_law_446 : decode b_la_law 446 = .ok (.iload 4, 2) := by decide +kernel
theorem d_la_law_448 : decode b_la_law 448 = .ok (.iconst 2, 1) := by decide +kernel
theorem d_la_law_449 : decode b_la_law 449 = .ok (.iadd, 1) := by decide +kernel
theorem d_la_law_450 : decode b_la_law 450 = .ok (.iaload, 1) := by decide +kernel
theorem d_la_law_451 : decode b_la_law 451 = .ok (.ifCond .eq 7, 3) := by decide +kernel
theorem d_la_law_454 : decode b_la_law 454 = .ok (.iconst 1, 1) := by decide +kernel
theorem d_la_law_455 : decode b_la_law 455 = .ok (.goto 4, 3) := by decide +kernel
theorem d_la_law_458 : decode b_la_law 458 = .ok (.iconst 0, 1) := by decide +kernel
theorem d_la_law_459 : decode b_la_law 459 = .ok (.invokevirtual 51, 3) := by decide +kernel
theorem d_la_law_462 : decode b_la_law 462 = .ok (.if_icmp .eq 504, 3) := by decide +kernel
theorem d_la_law_465 : decode b_la_law 465 = .ok (.iconst 0, 1) := by decide +kernel
theorem d_la_law_466 : decode b_la_law 466 = .ok (.ireturn, 1) := by decide +kernel
theorem d_la_law_467 : decode b_la_law 467 = .ok (.aload_n 1, 1) := by decide +kernel
theorem d_la_law_468 : decode b_la_law 468 = .ok (.aload_n 0, 1) := by decide +kernel
theorem d_la_law_469 : decode b_la_law 469 = .ok (.iload 4, 2) := by decide +kernel
theorem d_la_law_471 : decode b_la_law 471 = .ok (.iconst 1, 1) := by decide +kernel
theorem d_la_law_472 : decode b_la_law 472 = .ok (.iadd, 1) := by decide +kernel
theorem d_la_law_473 : decode b_la_law 473 = .ok (.iaload, 1) := by decide +kernel
theorem d_la_law_474 : decode b_la_law 474 = .ok (.aload_n 0, 1) := by decide +kernel
theorem d_la_law_475 : decode b_la_law 475 = .ok (.iload 4, 2) := by decide +kernel
theorem d_la_law_477 : decode b_la_law 477 = .ok (.iconst 2, 1) := by decide +kernel
theorem d_la_law_478 : decode b_la_law 478 = .ok (.iadd, 1) := by decide +kernel
theorem d_la_law_479 : decode b_la_law 479 = .ok (.iaload, 1) := by decide +kernel
theorem d_la_law_480 : decode b_la_law 480 = .ok (.aload_n 0, 1) := by decide +kernel
theorem d_la_law_481 : decode b_la_law 481 = .ok (.iload 4, 2) := by decide +kernel
theorem d_la_law_483 : decode b_la_law 483 = .ok (.iconst 3, 1) := by decide +kernel
theorem d_la_law_484 : decode b_la_law 484 = .ok (.iadd, 1) := by decide +kernel
theorem d_la_law_485 : decode b_la_law 485 = .ok (.iaload, 1) := by decide +kernel
theorem d_la_law_486 : decode b_la_law 486 = .ok (.invokevirtual 52, 3) := by decide +kernel
theorem d_la_law_489 : decode b_la_law 489 = .ok (.aload_n 2, 1) := by decide +kernel
theorem d_la_law_490 : decode b_la_law 490 = .ok (.aload_n 0, 1) := by decide +kernel
theorem d_la_law_491 : decode b_la_law 491 = .ok (.iload 4, 2) := by decide +kernel
theorem d_la_law_493 : decode b_la_law 493 = .ok (.iconst 1, 1) := by decide +kernel
theorem d_la_law_494 : decode b_la_law 494 = .ok (.iadd, 1) := by decide +kernel
theorem d_la_law_495 : decode b_la_law 495 = .ok (.iaload, 1) := by decide +kernel
theorem d_la_law_496 : decode b_la_law 496 = .ok (.aload_n 0, 1) := by decide +kernel
theorem d_la_law_497 : decode b_la_law 497 = .ok (.iload 4, 2) := by decide +kernel
theorem d_la_law_499 : decode b_la_law 499 = .ok (.iconst 2, 1) := by decide +kernel
theorem d_la_law_500 : decode b_la_law 500 = .ok (.iadd, 1) := by decide +kernel
theorem d_la_law_501 : decode b_la_law 501 = .ok (.iaload, 1) := by decide +kernel
theorem d_la_law_502 : decode b_la_law 502 = .ok (.aload_n 0, 1) := by decide +kernel
theorem d_la_law_503 : decode b_la_law 503 = .ok (.iload 4, 2) := by decide +kernel
theorem d_la_law_505 : decode b_la_law 505 = .ok (.iconst 3, 1) := by decide +kernel
theorem d_la_law_506 : decode b_la_law 506 = .ok (.iadd, 1) := by decide +kernel
theorem d_la_law_507 : decode b_la_law 507 = .ok (.iaload, 1) := by decide +kernel
theorem d_la_law_508 : decode b_la_law 508 = .ok (.invokevirtual 55, 3) := by decide +kernel
theorem d_la_law_511 : decode b_la_law 511 = .ok (.if_icmp .eq 455, 3) := by decide +kernel
theorem d_la_law_514 : decode b_la_law 514 = .ok (.iconst 0, 1) := by decide +kernel
theorem d_la_law_515 : decode b_la_law 515 = .ok (.ireturn, 1) := by decide +kernel
theorem d_la_law_516 : decode b_la_law 516 = .ok (.aload_n 1, 1) := by decide +kernel
theorem d_la_law_517 : decode b_la_law 517 = .ok (.aload_n 0, 1) := by decide +kernel
theorem d_la_law_518 : decode b_la_law 518 = .ok (.iload 4, 2) := by decide +kernel
theorem d_la_law_520 : decode b_la_law 520 = .ok (.iconst 1, 1) := by decide +kernel
theorem d_la_law_521 : decode b_la_law 521 = .ok (.iadd, 1) := by decide +kernel
theorem d_la_law_522 : decode b_la_law 522 = .ok (.iaload, 1) := by decide +kernel
theorem d_la_law_523 : decode b_la_law 523 = .ok (.invokevirtual 56, 3) := by decide +kernel
theorem d_la_law_526 : decode b_la_law 526 = .ok (.aload_n 2, 1) := by decide +kernel
theorem d_la_law_527 : decode b_la_law 527 = .ok (.aload_n 0, 1) := by decide +kernel
theorem d_la_law_528 : decode b_la_law 528 = .ok (.iload 4, 2) := by decide +kernel
theorem d_la_law_530 : decode b_la_law 530 = .ok (.iconst 1, 1) := by decide +kernel
theorem d_la_law_531 : decode b_la_law 531 = .ok (.iadd, 1) := by decide +kernel
theorem d_la_law_532 : decode b_la_law 532 = .ok (.iaload, 1) := by decide +kernel
theorem d_la_law_533 : decode b_la_law 533 = .ok (.invokevirtual 59, 3) := by decide +kernel
theorem d_la_law_536 : decode b_la_law 536 = .ok (.if_icmp .eq 430, 3) := by decide +kernel
theorem d_la_law_539 : decode b_la_law 539 = .ok (.iconst 0, 1) := by decide +kernel
theorem d_la_law_540 : decode b_la_law 540 = .ok (.ireturn, 1) := by decide +kernel
theorem d_la_law_541 : decode b_la_law 541 = .ok (.aload_n 1, 1) := by decide +kernel
theorem d_la_law_542 : decode b_la_law 542 = .ok (.aload_n 0, 1) := by decide +kernel
theorem d_la_law_543 : decode b_la_law 543 = .ok (.iload 4, 2) := by decide +kernel
theorem d_la_law_545 : decode b_la_law 545 = .ok (.iconst 1, 1) := by decide +kernel
theorem d_la_law_546 : decode b_la_law 546 = .ok (.iadd, 1) := by decide +kernel
theorem d_la_law_547 : decode b_la_law 547 = .ok (.iaload, 1) := by decide +kernel
theorem d_la_law_548 : decode b_la_law 548 = .ok (.aload_n 0, 1) := by decide +kernel
theorem d_la_law_549 : decode b_la_law 549 = .ok (.iload 4, 2) := by decide +kernel
theorem d_la_law_551 : decode b_la_law 551 = .ok (.iconst 2, 1) := by decide +kernel
theorem d_la_law_552 : decode b_la_law 552 = .ok (.iadd, 1) := by decide +kernel
theorem d_la_law_553 : decode b_la_law 553 = .ok (.iaload, 1) := by decide +kernel
theorem d_la_law_554 : decode b_la_law 554 = .ok (.aload_n 0, 1) := by decide +kernel
theorem d_la_law_555 : decode b_la_law 555 = .ok (.iload 4, 2) := by decide +kernel
theorem d_la_law_557 : decode b_la_law 557 = .ok (.iconst 3, 1) := by decide +kernel
theorem d_la_law_558 : decode b_la_law 558 = .ok (.iadd, 1) := by decide +kernel
theorem d_la_law_559 : decode b_la_law 559 = .ok (.iaload, 1) := by decide +kernel
theorem d_la_law_560 : decode b_la_law 560 = .ok (.invokevirtual 60, 3) := by decide +kernel
theorem d_la_law_563 : decode b_la_law 563 = .ok (.aload_n 2, 1) := by decide +kernel
theorem d_la_law_564 : decode b_la_law 564 = .ok (.aload_n 0, 1) := by decide +kernel
theorem d_la_law_565 : decode b_la_law 565 = .ok (.iload 4, 2) := by decide +kernel
theorem d_la_law_567 : decode b_la_law 567 = .ok (.iconst 1, 1) := by decide +kernel
theorem d_la_law_568 : decode b_la_law 568 = .ok (.iadd, 1) := by decide +kernel
theorem d_la_law_569 : decode b_la_law 569 = .ok (.iaload, 1) := by decide +kernel
theorem d_la_law_570 : decode b_la_law 570 = .ok (.aload_n 0, 1) := by decide +kernel
theorem d_la_law_571 : decode b_la_law 571 = .ok (.iload 4, 2) := by decide +kernel
theorem d_la_law_573 : decode b_la_law 573 = .ok (.iconst 2, 1) := by decide +kernel
theorem d_la_law_574 : decode b_la_law 574 = .ok (.iadd, 1) := by decide +kernel
theorem d_la_law_575 : decode b_la_law 575 = .ok (.iaload, 1) := by decide +kernel
theorem d_la_law_576 : decode b_la_law 576 = .ok (.aload_n 0, 1) := by decide +kernel
theorem d_la_law_577 : decode b_la_law 577 = .ok (.iload 4, 2) := by decide +kernel
theorem d_la_law_579 : decode b_la_law 579 = .ok (.iconst 3, 1) := by decide +kernel
theorem d_la_law_580 : decode b_la_law 580 = .ok (.iadd, 1) := by decide +kernel
theorem d_la_law_581 : decode b_la_law 581 = .ok (.iaload, 1) := by decide +kernel
theorem d_la_law_582 : decode b_la_law 582 = .ok (.invokevirtual 63, 3) := by decide +kernel
theorem d_la_law_585 : decode b_la_law 585 = .ok (.if_icmp .eq 381, 3) := by decide +kernel
theorem d_la_law_588 : decode b_la_law 588 = .ok (.iconst 0, 1) := by decide +kernel
theorem d_la_law_589 : decode b_la_law 589 = .ok (.ireturn, 1) := by decide +kernel
theorem d_la_law_590 : decode b_la_law 590 = .ok (.aload_n 1, 1) := by decide +kernel
theorem d_la_law_591 : decode b_la_law 591 = .ok (.aload_n 0, 1) := by decide +kernel
theorem d_la_law_592 : decode b_la_law 592 = .ok (.iload 4, 2) := by decide +kernel
theorem d_la_law_594 : decode b_la_law 594 = .ok (.iconst 1, 1) := by decide +kernel
theorem d_la_law_595 : decode b_la_law 595 = .ok (.iadd, 1) := by decide +kernel
theorem d_la_law_596 : decode b_la_law 596 = .ok (.iaload, 1) := by decide +kernel
theorem d_la_law_597 : decode b_la_law 597 = .ok (.aload_n 0, 1) := by decide +kernel
theorem d_la_law_598 : decode b_la_law 598 = .ok (.iload 4, 2) := by decide +kernel
theorem d_la_law_600 : decode b_la_law 600 = .ok (.iconst 2, 1) := by decide +kernel
theorem d_la_law_601 : decode b_la_law 601 = .ok (.iadd, 1) := by decide +kernel
theorem d_la_law_602 : decode b_la_law 602 = .ok (.iaload, 1) := by decide +kernel
theorem d_la_law_603 : decode b_la_law 603 = .ok (.invokevirtual 64, 3) := by decide +kernel
theorem d_la_law_606 : decode b_la_law 606 = .ok (.aload_n 2, 1) := by decide +kernel
theorem d_la_law_607 : decode b_la_law 607 = .ok (.aload_n 0, 1) := by decide +kernel
theorem d_la_law_608 : decode b_la_law 608 = .ok (.iload 4, 2) := by decide +kernel
theorem d_la_law_610 : decode b_la_law 610 = .ok (.iconst 1, 1) := by decide +kernel
theorem d_la_law_611 : decode b_la_law 611 = .ok (.iadd, 1) := by decide +kernel
theorem d_la_law_612 : decode b_la_law 612 = .ok (.iaload, 1) := by decide +kernel
theorem d_la_law_613 : decode b_la_law 613 = .ok (.aload_n 0, 1) := by decide +kernel
theorem d_la_law_614 : decode b_la_law 614 = .ok (.iload 4, 2) := by decide +kernel
theorem d_la_law_616 : decode b_la_law 616 = .ok (.iconst 2, 1) := by decide +kernel
theorem d_la_law_617 : decode b_la_law 617 = .ok (.iadd, 1) := by decide +kernel
theorem d_la_law_618 : decode b_la_law 618 = .ok (.iaload, 1) := by decide +kernel
theorem d_la_law_619 : decode b_la_law 619 = .ok (.invokevirtual 68, 3) := by decide +kernel
theorem d_la_law_622 : decode b_la_law 622 = .ok (.if_icmp .eq 344, 3) := by decide +kernel
theorem d_la_law_625 : decode b_la_law 625 = .ok (.iconst 0, 1) := by decide +kernel
theorem d_la_law_626 : decode b_la_law 626 = .ok (.ireturn, 1) := by decide +kernel
theorem d_la_law_627 : decode b_la_law 627 = .ok (.aload_n 1, 1) := by decide +kernel
theorem d_la_law_628 : decode b_la_law 628 = .ok (.aload_n 0, 1) := by decide +kernel
theorem d_la_law_629 : decode b_la_law 629 = .ok (.iload 4, 2) := by decide +kernel
theorem d_la_law_631 : decode b_la_law 631 = .ok (.iconst 1, 1) := by decide +kernel
theorem d_la_law_632 : decode b_la_law 632 = .ok (.iadd, 1) := by decide +kernel
theorem d_la_law_633 : decode b_la_law 633 = .ok (.iaload, 1) := by decide +kernel
theorem d_la_law_634 : decode b_la_law 634 = .ok (.aload_n 0, 1) := by decide +kernel
theorem d_la_law_635 : decode b_la_law 635 = .ok (.iload 4, 2) := by decide +kernel
theorem d_la_law_637 : decode b_la_law 637 = .ok (.iconst 2, 1) := by decide +kernel
theorem d_la_law_638 : decode b_la_law 638 = .ok (.iadd, 1) := by decide +kernel
theorem d_la_law_639 : decode b_la_law 639 = .ok (.iaload, 1) := by decide +kernel
theorem d_la_law_640 : decode b_la_law 640 = .ok (.invokevirtual 69, 3) := by decide +kernel
theorem d_la_law_643 : decode b_la_law 643 = .ok (.aload_n 2, 1) := by decide +kernel
theorem d_la_law_644 : decode b_la_law 644 = .ok (.aload_n 0, 1) := by decide +kernel
theorem d_la_law_645 : decode b_la_law 645 = .ok (.iload 4, 2) := by decide +kernel
theorem d_la_law_647 : decode b_la_law 647 = .ok (.iconst 1, 1) := by decide +kernel
theorem d_la_law_648 : decode b_la_law 648 = .ok (.iadd, 1) := by decide +kernel
theorem d_la_law_649 : decode b_la_law 649 = .ok (.iaload, 1) := by decide +kernel
theorem d_la_law_650 : decode b_la_law 650 = .ok (.aload_n 0, 1) := by decide +kernel
theorem d_la_law_651 : decode b_la_law 651 = .ok (.iload 4, 2) := by decide +kernel
theorem d_la_law_653 : decode b_la_law 653 = .ok (.iconst 2, 1) := by decide +kernel
theorem d_la_law_654 : decode b_la_law 654 = .ok (.iadd, 1) := by decide +kernel
theorem d_la_law_655 : decode b_la_law 655 = .ok (.iaload, 1) := by decide +kernel
theorem d_la_law_656 : decode b_la_law 656 = .ok (.invokevirtual 72, 3) := by decide +kernel
theorem d_la_law_659 : decode b_la_law 659 = .ok (.if_icmp .eq 307, 3) := by decide +kernel
theorem d_la_law_662 : decode b_la_law 662 = .ok (.iconst 0, 1) := by decide +kernel
theorem d_la_law_663 : decode b_la_law 663 = .ok (.ireturn, 1) := by decide +kernel
theorem d_la_law_664 : decode b_la_law 664 = .ok (.aload_n 1, 1) := by decide +kernel
theorem d_la_law_665 : decode b_la_law 665 = .ok (.aload_n 0, 1) := by decide +kernel
theorem d_la_law_666 : decode b_la_law 666 = .ok (.iload 4, 2) := by decide +kernel
theorem d_la_law_668 : decode b_la_law 668 = .ok (.iconst 1, 1) := by decide +kernel
theorem d_la_law_669 : decode b_la_law 669 = .ok (.iadd, 1) := by decide +kernel
theorem d_la_law_670 : decode b_la_law 670 = .ok (.iaload, 1) := by decide +kernel
theorem d_la_law_671 : decode b_la_law 671 = .ok (.aload_n 0, 1) := by decide +kernel
theorem d_la_law_672 : decode b_la_law 672 = .ok (.iload 4, 2) := by decide +kernel
theorem d_la_law_674 : decode b_la_law 674 = .ok (.iconst 2, 1) := by decide +kernel
theorem d_la_law_675 : decode b_la_law 675 = .ok (.iadd, 1) := by decide +kernel
theorem d_la_law_676 : decode b_la_law 676 = .ok (.iaload, 1) := by decide +kernel
theorem d_la_law_677 : decode b_la_law 677 = .ok (.invokevirtual 73, 3) := by decide +kernel
theorem d_la_law_680 : decode b_la_law 680 = .ok (.aload_n 2, 1) := by decide +kernel
theorem d_la_law_681 : decode b_la_law 681 = .ok (.aload_n 0, 1) := by decide +kernel
theorem d_la_law_682 : decode b_la_law 682 = .ok (.iload 4, 2) := by decide +kernel
theorem d_la_law_684 : decode b_la_law 684 = .ok (.iconst 1, 1) := by decide +kernel
theorem d_la_law_685 : decode b_la_law 685 = .ok (.iadd, 1) := by decide +kernel
theorem d_la_law_686 : decode b_la_law 686 = .ok (.iaload, 1) := by decide +kernel
theorem d_la_law_687 : decode b_la_law 687 = .ok (.aload_n 0, 1) := by decide +kernel
theorem d_la_law_688 : decode b_la_law 688 = .ok (.iload 4, 2) := by decide +kernel
theorem d_la_law_690 : decode b_la_law 690 = .ok (.iconst 2, 1) := by decide +kernel
theorem d_la_law_691 : decode b_la_law 691 = .ok (.iadd, 1) := by decide +kernel
theorem d_la_law_692 : decode b_la_law 692 = .ok (.iaload, 1) := by decide +kernel
theorem d_la_law_693 : decode b_la_law 693 = .ok (.invokevirtual 76, 3) := by decide +kernel
theorem d_la_law_696 : decode b_la_law 696 = .ok (.if_icmp .eq 270, 3) := by decide +kernel
theorem d_la_law_699 : decode b_la_law 699 = .ok (.iconst 0, 1) := by decide +kernel
theorem d_la_law_700 : decode b_la_law 700 = .ok (.ireturn, 1) := by decide +kernel
theorem d_la_law_701 : decode b_la_law 701 = .ok (.aload_n 1, 1) := by decide +kernel
theorem d_la_law_702 : decode b_la_law 702 = .ok (.aload_n 0, 1) := by decide +kernel
theorem d_la_law_703 : decode b_la_law 703 = .ok (.iload 4, 2) := by decide +kernel
theorem d_la_law_705 : decode b_la_law 705 = .ok (.iconst 1, 1) := by decide +kernel
theorem d_la_law_706 : decode b_la_law 706 = .ok (.iadd, 1) := by decide +kernel
theorem d_la_law_707 : decode b_la_law 707 = .ok (.iaload, 1) := by decide +kernel
theorem d_la_law_708 : decode b_la_law 708 = .ok (.aload_n 0, 1) := by decide +kernel
theorem d_la_law_709 : decode b_la_law 709 = .ok (.iload 4, 2) := by decide +kernel
theorem d_la_law_711 : decode b_la_law 711 = .ok (.iconst 2, 1) := by decide +kernel
theorem d_la_law_712 : decode b_la_law 712 = .ok (.iadd, 1) := by decide +kernel
theorem d_la_law_713 : decode b_la_law 713 = .ok (.iaload, 1) := by decide +kernel
theorem d_la_law_714 : decode b_la_law 714 = .ok (.aload_n 0, 1) := by decide +kernel
theorem d_la_law_715 : decode b_la_law 715 = .ok (.iload 4, 2) := by decide +kernel
theorem d_la_law_717 : decode b_la_law 717 = .ok (.iconst 3, 1) := by decide +kernel
theorem d_la_law_718 : decode b_la_law 718 = .ok (.iadd, 1) := by decide +kernel
theorem d_la_law_719 : decode b_la_law 719 = .ok (.iaload, 1) := by decide +kernel
theorem d_la_law_720 : decode b_la_law 720 = .ok (.invokevirtual 77, 3) := by decide +kernel
theorem d_la_law_723 : decode b_la_law 723 = .ok (.aload_n 2, 1) := by decide +kernel
theorem d_la_law_724 : decode b_la_law 724 = .ok (.aload_n 0, 1) := by decide +kernel
theorem d_la_law_725 : decode b_la_law 725 = .ok (.iload 4, 2) := by decide +kernel
theorem d_la_law_727 : decode b_la_law 727 = .ok (.iconst 1, 1) := by decide +kernel
theorem d_la_law_728 : decode b_la_law 728 = .ok (.iadd, 1) := by decide +kernel
theorem d_la_law_729 : decode b_la_law 729 = .ok (.iaload, 1) := by decide +kernel
theorem d_la_law_730 : decode b_la_law 730 = .ok (.aload_n 0, 1) := by decide +kernel
theorem d_la_law_731 : decode b_la_law 731 = .ok (.iload 4, 2) := by decide +kernel
theorem d_la_law_733 : decode b_la_law 733 = .ok (.iconst 2, 1) := by decide +kernel
theorem d_la_law_734 : decode b_la_law 734 = .ok (.iadd, 1) := by decide +kernel
theorem d_la_law_735 : decode b_la_law 735 = .ok (.iaload, 1) := by decide +kernel
theorem d_la_law_736 : decode b_la_law 736 = .ok (.aload_n 0, 1) := by decide +kernel
theorem d_la_law_737 : decode b_la_law 737 = .ok (.iload 4, 2) := by decide +kernel
theorem d_la_law_739 : decode b_la_law 739 = .ok (.iconst 3, 1) := by decide +kernel
theorem d_la_law_740 : decode b_la_law 740 = .ok (.iadd, 1) := by decide +kernel
theorem d_la_law_741 : decode b_la_law 741 = .ok (.iaload, 1) := by decide +kernel
theorem d_la_law_742 : decode b_la_law 742 = .ok (.invokevirtual 80, 3) := by decide +kernel
theorem d_la_law_745 : decode b_la_law 745 = .ok (.if_icmp .eq 221, 3) := by decide +kernel
theorem d_la_law_748 : decode b_la_law 748 = .ok (.iconst 0, 1) := by decide +kernel
theorem d_la_law_749 : decode b_la_law 749 = .ok (.ireturn, 1) := by decide +kernel
theorem d_la_law_750 : decode b_la_law 750 = .ok (.aload_n 1, 1) := by decide +kernel
theorem d_la_law_751 : decode b_la_law 751 = .ok (.aload_n 0, 1) := by decide +kernel
theorem d_la_law_752 : decode b_la_law 752 = .ok (.iload 4, 2) := by decide +kernel
theorem d_la_law_754 : decode b_la_law 754 = .ok (.iconst 1, 1) := by decide +kernel
theorem d_la_law_755 : decode b_la_law 755 = .ok (.iadd, 1) := by decide +kernel
theorem d_la_law_756 : decode b_la_law 756 = .ok (.iaload, 1) := by decide +kernel
theorem d_la_law_757 : decode b_la_law 757 = .ok (.invokevirtual 81, 3) := by decide +kernel
theorem d_la_law_760 : decode b_la_law 760 = .ok (.aload_n 2, 1) := by decide +kernel
theorem d_la_law_761 : decode b_la_law 761 = .ok (.aload_n 0, 1) := by decide +kernel
theorem d_la_law_762 : decode b_la_law 762 = .ok (.iload 4, 2) := by decide +kernel
theorem d_la_law_764 : decode b_la_law 764 = .ok (.iconst 1, 1) := by decide +kernel
theorem d_la_law_765 : decode b_la_law 765 = .ok (.iadd, 1) := by decide +kernel
theorem d_la_law_766 : decode b_la_law 766 = .ok (.iaload, 1) := by decide +kernel
theorem d_la_law_767 : decode b_la_law 767 = .ok (.invokevirtual 84, 3) := by decide +kernel
theorem d_la_law_770 : decode b_la_law 770 = .ok (.if_icmp .eq 196, 3) := by decide +kernel
theorem d_la_law_773 : decode b_la_law 773 = .ok (.iconst 0, 1) := by decide +kernel
theorem d_la_law_774 : decode b_la_law 774 = .ok (.ireturn, 1) := by decide +kernel
theorem d_la_law_775 : decode b_la_law 775 = .ok (.aload_n 1, 1) := by decide +kernel
theorem d_la_law_776 : decode b_la_law 776 = .ok (.aload_n 0, 1) := by decide +kernel
theorem d_la_law_777 : decode b_la_law 777 = .ok (.iload 4, 2) := by decide +kernel
theorem d_la_law_779 : decode b_la_law 779 = .ok (.iconst 1, 1) := by decide +kernel
theorem d_la_law_780 : decode b_la_law 780 = .ok (.iadd, 1) := by decide +kernel
theorem d_la_law_781 : decode b_la_law 781 = .ok (.iaload, 1) := by decide +kernel
theorem d_la_law_782 : decode b_la_law 782 = .ok (.aload_n 0, 1) := by decide +kernel
theorem d_la_law_783 : decode b_la_law 783 = .ok (.iload 4, 2) := by decide +kernel
theorem d_la_law_785 : decode b_la_law 785 = .ok (.iconst 2, 1) := by decide +kernel
theorem d_la_law_786 : decode b_la_law 786 = .ok (.iadd, 1) := by decide +kernel
theorem d_la_law_787 : decode b_la_law 787 = .ok (.iaload, 1) := by decide +kernel
theorem d_la_law_788 : decode b_la_law 788 = .ok (.invokevirtual 85, 3) := by decide +kernel
theorem d_la_law_791 : decode b_la_law 791 = .ok (.aload_n 2, 1) := by decide +kernel
theorem d_la_law_792 : decode b_la_law 792 = .ok (.aload_n 0, 1) := by decide +kernel
theorem d_la_law_793 : decode b_la_law 793 = .ok (.iload 4, 2) := by decide +kernel
theorem d_la_law_795 : decode b_la_law 795 = .ok (.iconst 1, 1) := by decide +kernel
theorem d_la_law_796 : decode b_la_law 796 = .ok (.iadd, 1) := by decide +kernel
theorem d_la_law_797 : decode b_la_law 797 = .ok (.iaload, 1) := by decide +kernel
theorem d_la_law_798 : decode b_la_law 798 = .ok (.aload_n 0, 1) := by decide +kernel
theorem d_la_law_799 : decode b_la_law 799 = .ok (.iload 4, 2) := by decide +kernel
theorem d_la_law_801 : decode b_la_law 801 = .ok (.iconst 2, 1) := by decide +kernel
theorem d_la_law_802 : decode b_la_law 802 = .ok (.iadd, 1) := by decide +kernel
theorem d_la_law_803 : decode b_la_law 803 = .ok (.iaload, 1) := by decide +kernel
theorem d_la_law_804 : decode b_la_law 804 = .ok (.invokevirtual 88, 3) := by decide +kernel
theorem d_la_law_807 : decode b_la_law 807 = .ok (.if_icmp .eq 159, 3) := by decide +kernel
theorem d_la_law_810 : decode b_la_law 810 = .ok (.iconst 0, 1) := by decide +kernel
theorem d_la_law_811 : decode b_la_law 811 = .ok (.ireturn, 1) := by decide +kernel
theorem d_la_law_812 : decode b_la_law 812 = .ok (.aload_n 1, 1) := by decide +kernel
theorem d_la_law_813 : decode b_la_law 813 = .ok (.aload_n 0, 1) := by decide +kernel
theorem d_la_law_814 : decode b_la_law 814 = .ok (.iload 4, 2) := by decide +kernel
theorem d_la_law_816 : decode b_la_law 816 = .ok (.iconst 1, 1) := by decide +kernel
theorem d_la_law_817 : decode b_la_law 817 = .ok (.iadd, 1) := by decide +kernel
theorem d_la_law_818 : decode b_la_law 818 = .ok (.iaload, 1) := by decide +kernel
theorem d_la_law_819 : decode b_la_law 819 = .ok (.aload_n 0, 1) := by decide +kernel
theorem d_la_law_820 : decode b_la_law 820 = .ok (.iload 4, 2) := by decide +kernel
theorem d_la_law_822 : decode b_la_law 822 = .ok (.iconst 2, 1) := by decide +kernel
theorem d_la_law_823 : decode b_la_law 823 = .ok (.iadd, 1) := by decide +kernel
theorem d_la_law_824 : decode b_la_law 824 = .ok (.iaload, 1) := by decide +kernel
theorem d_la_law_825 : decode b_la_law 825 = .ok (.invokevirtual 89, 3) := by decide +kernel
theorem d_la_law_828 : decode b_la_law 828 = .ok (.aload_n 2, 1) := by decide +kernel
theorem d_la_law_829 : decode b_la_law 829 = .ok (.aload_n 0, 1) := by decide +kernel
theorem d_la_law_830 : decode b_la_law 830 = .ok (.iload 4, 2) := by decide +kernel
theorem d_la_law_832 : decode b_la_law 832 = .ok (.iconst 1, 1) := by decide +kernel
theorem d_la_law_833 : decode b_la_law 833 = .ok (.iadd, 1) := by decide +kernel
theorem d_la_law_834 : decode b_la_law 834 = .ok (.iaload, 1) := by decide +kernel
theorem d_la_law_835 : decode b_la_law 835 = .ok (.aload_n 0, 1) := by decide +kernel
theorem d_la_law_836 : decode b_la_law 836 = .ok (.iload 4, 2) := by decide +kernel
theorem d_la_law_838 : decode b_la_law 838 = .ok (.iconst 2, 1) := by decide +kernel
theorem d_la_law_839 : decode b_la_law 839 = .ok (.iadd, 1) := by decide +kernel
theorem d_la_law_840 : decode b_la_law 840 = .ok (.iaload, 1) := by decide +kernel
theorem d_la_law_841 : decode b_la_law 841 = .ok (.invokevirtual 92, 3) := by decide +kernel
theorem d_la_law_844 : decode b_la_law 844 = .ok (.if_icmp .eq 122, 3) := by decide +kernel
theorem d_la_law_847 : decode b_la_law 847 = .ok (.iconst 0, 1) := by decide +kernel
theorem d_la_law_848 : decode b_la_law 848 = .ok (.ireturn, 1) := by decide +kernel
theorem d_la_law_849 : decode b_la_law 849 = .ok (.aload_n 1, 1) := by decide +kernel
theorem d_la_law_850 : decode b_la_law 850 = .ok (.aload_n 0, 1) := by decide +kernel
theorem d_la_law_851 : decode b_la_law 851 = .ok (.iload 4, 2) := by decide +kernel
theorem d_la_law_853 : decode b_la_law 853 = .ok (.iconst 1, 1) := by decide +kernel
theorem d_la_law_854 : decode b_la_law 854 = .ok (.iadd, 1) := by decide +kernel
theorem d_la_law_855 : decode b_la_law 855 = .ok (.iaload, 1) := by decide +kernel
theorem d_la_law_856 : decode b_la_law 856 = .ok (.aload_n 0, 1) := by decide +kernel
theorem d_la_law_857 : decode b_la_law 857 = .ok (.iload 4, 2) := by decide +kernel
theorem d_la_law_859 : decode b_la_law 859 = .ok (.iconst 2, 1) := by decide +kernel
theorem d_la_law_860 : decode b_la_law 860 = .ok (.iadd, 1) := by decide +kernel
theorem d_la_law_861 : decode b_la_law 861 = .ok (.iaload, 1) := by decide +kernel
theorem d_la_law_862 : decode b_la_law 862 = .ok (.aload_n 0, 1) := by decide +kernel
theorem d_la_law_863 : decode b_la_law 863 = .ok (.iload 4, 2) := by decide +kernel
theorem d_la_law_865 : decode b_la_law 865 = .ok (.iconst 3, 1) := by decide +kernel
theorem d_la_law_866 : decode b_la_law 866 = .ok (.iadd, 1) := by decide +kernel
theorem d_la_law_867 : decode b_la_law 867 = .ok (.iaload, 1) := by decide +kernel
theorem d_la_law_868 : decode b_la_law 868 = .ok (.aload_n 3, 1) := by decide +kernel
theorem d_la_law_869 : decode b_la_law 869 = .ok (.invokestatic 93, 3) := by decide +kernel
theorem d_la_law_872 : decode b_la_law 872 = .ok (.istore 5, 2) := by decide +kernel
theorem d_la_law_874 : decode b_la_law 874 = .ok (.aload_n 2, 1) := by decide +kernel
theorem d_la_law_875 : decode b_la_law 875 = .ok (.aload_n 0, 1) := by decide +kernel
theorem d_la_law_876 : decode b_la_law 876 = .ok (.iload 4, 2) := by decide +kernel
theorem d_la_law_878 : decode b_la_law 878 = .ok (.iconst 1, 1) := by decide +kernel
theorem d_la_law_879 : decode b_la_law 879 = .ok (.iadd, 1) := by decide +kernel
theorem d_la_law_880 : decode b_la_law 880 = .ok (.iaload, 1) := by decide +kernel
theorem d_la_law_881 : decode b_la_law 881 = .ok (.aload_n 0, 1) := by decide +kernel
theorem d_la_law_882 : decode b_la_law 882 = .ok (.iload 4, 2) := by decide +kernel
theorem d_la_law_884 : decode b_la_law 884 = .ok (.iconst 2, 1) := by decide +kernel
theorem d_la_law_885 : decode b_la_law 885 = .ok (.iadd, 1) := by decide +kernel
theorem d_la_law_886 : decode b_la_law 886 = .ok (.iaload, 1) := by decide +kernel
theorem d_la_law_887 : decode b_la_law 887 = .ok (.aload_n 0, 1) := by decide +kernel
theorem d_la_law_888 : decode b_la_law 888 = .ok (.iload 4, 2) := by decide +kernel
theorem d_la_law_890 : decode b_la_law 890 = .ok (.iconst 3, 1) := by decide +kernel
theorem d_la_law_891 : decode b_la_law 891 = .ok (.iadd, 1) := by decide +kernel
theorem d_la_law_892 : decode b_la_law 892 = .ok (.iaload, 1) := by decide +kernel
theorem d_la_law_893 : decode b_la_law 893 = .ok (.invokevirtual 98, 3) := by decide +kernel
theorem d_la_law_896 : decode b_la_law 896 = .ok (.istore 6, 2) := by decide +kernel
theorem d_la_law_898 : decode b_la_law 898 = .ok (.aload_n 2, 1) := by decide +kernel
theorem d_la_law_899 : decode b_la_law 899 = .ok (.invokevirtual 99, 3) := by decide +kernel
theorem d_la_law_902 : decode b_la_law 902 = .ok (.iload 5, 2) := by decide +kernel
theorem d_la_law_904 : decode b_la_law 904 = .ok (.if_icmp .eq 5, 3) := by decide +kernel
theorem d_la_law_907 : decode b_la_law 907 = .ok (.iconst 0, 1) := by decide +kernel
theorem d_la_law_908 : decode b_la_law 908 = .ok (.ireturn, 1) := by decide +kernel
theorem d_la_law_909 : decode b_la_law 909 = .ok (.iload 5, 2) := by decide +kernel
theorem d_la_law_911 : decode b_la_law 911 = .ok (.ifCond .ne 15, 3) := by decide +kernel
theorem d_la_law_914 : decode b_la_law 914 = .ok (.aload_n 3, 1) := by decide +kernel
theorem d_la_law_915 : decode b_la_law 915 = .ok (.iconst 0, 1) := by decide +kernel
theorem d_la_law_916 : decode b_la_law 916 = .ok (.laload, 1) := by decide +kernel
theorem d_la_law_917 : decode b_la_law 917 = .ok (.iload 6, 2) := by decide +kernel
theorem d_la_law_919 : decode b_la_law 919 = .ok (.i2l, 1) := by decide +kernel
theorem d_la_law_920 : decode b_la_law 920 = .ok (.lcmp, 1) := by decide +kernel
theorem d_la_law_921 : decode b_la_law 921 = .ok (.ifCond .eq 5, 3) := by decide +kernel
theorem d_la_law_924 : decode b_la_law 924 = .ok (.iconst 0, 1) := by decide +kernel
theorem d_la_law_925 : decode b_la_law 925 = .ok (.ireturn, 1) := by decide +kernel
theorem d_la_law_926 : decode b_la_law 926 = .ok (.goto 40, 3) := by decide +kernel
theorem d_la_law_929 : decode b_la_law 929 = .ok (.aload_n 1, 1) := by decide +kernel
theorem d_la_law_930 : decode b_la_law 930 = .ok (.aload_n 0, 1) := by decide +kernel
theorem d_la_law_931 : decode b_la_law 931 = .ok (.iload 4, 2) := by decide +kernel
theorem d_la_law_933 : decode b_la_law 933 = .ok (.iconst 1, 1) := by decide +kernel
theorem d_la_law_934 : decode b_la_law 934 = .ok (.iadd, 1) := by decide +kernel
theorem d_la_law_935 : decode b_la_law 935 = .ok (.iaload, 1) := by decide +kernel
theorem d_la_law_936 : decode b_la_law 936 = .ok (.aload_n 0, 1) := by decide +kernel
theorem d_la_law_937 : decode b_la_law 937 = .ok (.iload 4, 2) := by decide +kernel
theorem d_la_law_939 : decode b_la_law 939 = .ok (.iconst 2, 1) := by decide +kernel
theorem d_la_law_940 : decode b_la_law 940 = .ok (.iadd, 1) := by decide +kernel
theorem d_la_law_941 : decode b_la_law 941 = .ok (.iaload, 1) := by decide +kernel
theorem d_la_law_942 : decode b_la_law 942 = .ok (.invokevirtual 102, 3) := by decide +kernel
theorem d_la_law_945 : decode b_la_law 945 = .ok (.aload_n 2, 1) := by decide +kernel
theorem d_la_law_946 : decode b_la_law 946 = .ok (.aload_n 0, 1) := by decide +kernel
theorem d_la_law_947 : decode b_la_law 947 = .ok (.iload 4, 2) := by decide +kernel
theorem d_la_law_949 : decode b_la_law 949 = .ok (.iconst 1, 1) := by decide +kernel
theorem d_la_law_950 : decode b_la_law 950 = .ok (.iadd, 1) := by decide +kernel
theorem d_la_law_951 : decode b_la_law 951 = .ok (.iaload, 1) := by decide +kernel
theorem d_la_law_952 : decode b_la_law 952 = .ok (.aload_n 0, 1) := by decide +kernel
theorem d_la_law_953 : decode b_la_law 953 = .ok (.iload 4, 2) := by decide +kernel
theorem d_la_law_955 : decode b_la_law 955 = .ok (.iconst 2, 1) := by decide +kernel
theorem d_la_law_956 : decode b_la_law 956 = .ok (.iadd, 1) := by decide +kernel
theorem d_la_law_957 : decode b_la_law 957 = .ok (.iaload, 1) := by decide +kernel
theorem d_la_law_958 : decode b_la_law 958 = .ok (.invokevirtual 105, 3) := by decide +kernel
theorem d_la_law_961 : decode b_la_law 961 = .ok (.if_icmp .eq 5, 3) := by decide +kernel
theorem d_la_law_964 : decode b_la_law 964 = .ok (.iconst 0, 1) := by decide +kernel
theorem d_la_law_965 : decode b_la_law 965 = .ok (.ireturn, 1) := by decide +kernel
theorem d_la_law_966 : decode b_la_law 966 = .ok (.iinc 4 6, 3) := by decide +kernel
theorem d_la_law_969 : decode b_la_law 969 = .ok (.goto (-946), 3) := by decide +kernel
theorem d_la_law_972 : decode b_la_law 972 = .ok (.iconst 1, 1) := by decide +kernel
theorem d_la_law_973 : decode b_la_law 973 = .ok (.ireturn, 1) := by decide +kernel
theorem d_la_statistics_0 : decode b_la_statistics 0 = .ok (.aload 4, 2) := by decide +kernel
theorem d_la_statistics_2 : decode b_la_statistics 2 = .ok (.iconst 0, 1) := by decide +kernel
theorem d_la_statistics_3 : decode b_la_statistics 3 = .ok (.aload_n 0, 1) := by decide +kernel
theorem d_la_statistics_4 : decode b_la_statistics 4 = .ok (.iload_n 1, 1) := by decide +kernel
theorem d_la_statistics_5 : decode b_la_statistics 5 = .ok (.iload_n 2, 1) := by decide +kernel
theorem d_la_statistics_6 : decode b_la_statistics 6 = .ok (.iload_n 3, 1) := by decide +kernel
theorem d_la_statistics_7 : decode b_la_statistics 7 = .ok (.invokevirtual 7, 3) := by decide +kernel
theorem d_la_statistics_10 : decode b_la_statistics 10 = .ok (.i2l, 1) := by decide +kernel
theorem d_la_statistics_11 : decode b_la_statistics 11 = .ok (.lastore, 1) := by decide +kernel
theorem d_la_statistics_12 : decode b_la_statistics 12 = .ok (.goto 7, 3) := by decide +kernel
theorem d_la_statistics_15 : decode b_la_statistics 15 = .ok (.astore 5, 2) := by decide +kernel
theorem d_la_statistics_17 : decode b_la_statistics 17 = .ok (.iconst 1, 1) := by decide +kernel
theorem d_la_statistics_18 : decode b_la_statistics 18 = .ok (.ireturn, 1) := by decide +kernel
theorem d_la_statistics_19 : decode b_la_statistics 19 = .ok (.iconst 0, 1) := by decide +kernel
theorem d_la_statistics_20 : decode b_la_statistics 20 = .ok (.ireturn, 1) := by decide +kernel
