theorem d_Law_law_0 : decode code 0 = .ok (.new 7, 3) := by decide +kernel
theorem d_Law_law_3 : decode code 3 = .ok (.dup, 1) := by decide +kernel
theorem d_Law_law_4 : decode code 4 = .ok (.aload_n 0, 1) := by decide +kernel
theorem d_Law_law_5 : decode code 5 = .ok (.iconst 0, 1) := by decide +kernel
theorem d_Law_law_6 : decode code 6 = .ok (.invokestatic 9, 3) := by decide +kernel
theorem d_Law_law_9 : decode code 9 = .ok (.aload_n 0, 1) := by decide +kernel
theorem d_Law_law_10 : decode code 10 = .ok (.iconst 1, 1) := by decide +kernel
theorem d_Law_law_11 : decode code 11 = .ok (.invokestatic 9, 3) := by decide +kernel
theorem d_Law_law_14 : decode code 14 = .ok (.aload_n 0, 1) := by decide +kernel
theorem d_Law_law_15 : decode code 15 = .ok (.iconst 2, 1) := by decide +kernel
theorem d_Law_law_16 : decode code 16 = .ok (.invokestatic 9, 3) := by decide +kernel
theorem d_Law_law_19 : decode code 19 = .ok (.invokespecial 15, 3) := by decide +kernel
theorem d_Law_law_22 : decode code 22 = .ok (.astore_n 1, 1) := by decide +kernel
theorem d_Law_law_23 : decode code 23 = .ok (.new 18, 3) := by decide +kernel
theorem d_Law_law_26 : decode code 26 = .ok (.dup, 1) := by decide +kernel
theorem d_Law_law_27 : decode code 27 = .ok (.aload_n 0, 1) := by decide +kernel
theorem d_Law_law_28 : decode code 28 = .ok (.iconst 0, 1) := by decide +kernel
theorem d_Law_law_29 : decode code 29 = .ok (.invokestatic 9, 3) := by decide +kernel
theorem d_Law_law_32 : decode code 32 = .ok (.aload_n 0, 1) := by decide +kernel
theorem d_Law_law_33 : decode code 33 = .ok (.iconst 1, 1) := by decide +kernel
theorem d_Law_law_34 : decode code 34 = .ok (.invokestatic 9, 3) := by decide +kernel
theorem d_Law_law_37 : decode code 37 = .ok (.aload_n 0, 1) := by decide +kernel
theorem d_Law_law_38 : decode code 38 = .ok (.iconst 2, 1) := by decide +kernel
theorem d_Law_law_39 : decode code 39 = .ok (.invokestatic 9, 3) := by decide +kernel
theorem d_Law_law_42 : decode code 42 = .ok (.invokespecial 20, 3) := by decide +kernel
theorem d_Law_law_45 : decode code 45 = .ok (.astore_n 2, 1) := by decide +kernel
theorem d_Law_law_46 : decode code 46 = .ok (.iconst 3, 1) := by decide +kernel
theorem d_Law_law_47 : decode code 47 = .ok (.istore_n 3, 1) := by decide +kernel
theorem d_Law_law_48 : decode code 48 = .ok (.iload_n 3, 1) := by decide +kernel
theorem d_Law_law_49 : decode code 49 = .ok (.aload_n 0, 1) := by decide +kernel
theorem d_Law_law_50 : decode code 50 = .ok (.arraylength, 1) := by decide +kernel
theorem d_Law_law_51 : decode code 51 = .ok (.iconst 3, 1) := by decide +kernel
theorem d_Law_law_52 : decode code 52 = .ok (.isub, 1) := by decide +kernel
theorem d_Law_law_53 : decode code 53 = .ok (.if_icmp .gt 438, 3) := by decide +kernel
theorem d_Law_law_56 : decode code 56 = .ok (.aload_n 0, 1) := by decide +kernel
theorem d_Law_law_57 : decode code 57 = .ok (.iload_n 3, 1) := by decide +kernel
theorem d_Law_law_58 : decode code 58 = .ok (.iaload, 1) := by decide +kernel
theorem d_Law_law_59 : decode code 59 = .ok (.bipush 15, 2) := by decide +kernel
theorem d_Law_law_61 : decode code 61 = .ok (.iand, 1) := by decide +kernel
theorem d_Law_law_62 : decode code 62 = .ok (.tableswitch 423 0 15 #[78, 111, 134, 157, 180, 193, 206, 219, 232, 255, 278, 301, 324, 373, 396, 410], 78) := by decide +kernel
theorem d_Law_law_140 : decode code 140 = .ok (.aload_n 1, 1) := by decide +kernel
theorem d_Law_law_141 : decode code 141 = .ok (.aload_n 0, 1) := by decide +kernel
theorem d_Law_law_142 : decode code 142 = .ok (.iload_n 3, 1) := by decide +kernel
theorem d_Law_law_143 : decode code 143 = .ok (.iconst 1, 1) := by decide +kernel
theorem d_Law_law_144 : decode code 144 = .ok (.iadd, 1) := by decide +kernel
theorem d_Law_law_145 : decode code 145 = .ok (.iaload, 1) := by decide +kernel
theorem d_Law_law_146 : decode code 146 = .ok (.aload_n 0, 1) := by decide +kernel
theorem d_Law_law_147 : decode code 147 = .ok (.iload_n 3, 1) := by decide +kernel
theorem d_Law_law_148 : decode code 148 = .ok (.iconst 2, 1) := by decide +kernel
theorem d_Law_law_149 : decode code 149 = .ok (.iadd, 1) := by decide +kernel
theorem d_Law_law_150 : decode code 150 = .ok (.iaload, 1) := by decide +kernel
theorem d_Law_law_151 : decode code 151 = .ok (.invokevirtual 21, 3) := by decide +kernel
theorem d_Law_law_154 : decode code 154 = .ok (.aload_n 2, 1) := by decide +kernel
theorem d_Law_law_155 : decode code 155 = .ok (.aload_n 0, 1) := by decide +kernel
theorem d_Law_law_156 : decode code 156 = .ok (.iload_n 3, 1) := by decide +kernel
theorem d_Law_law_157 : decode code 157 = .ok (.iconst 1, 1) := by decide +kernel
theorem d_Law_law_158 : decode code 158 = .ok (.iadd, 1) := by decide +kernel
theorem d_Law_law_159 : decode code 159 = .ok (.iaload, 1) := by decide +kernel
theorem d_Law_law_160 : decode code 160 = .ok (.aload_n 0, 1) := by decide +kernel
theorem d_Law_law_161 : decode code 161 = .ok (.iload_n 3, 1) := by decide +kernel
theorem d_Law_law_162 : decode code 162 = .ok (.iconst 2, 1) := by decide +kernel
theorem d_Law_law_163 : decode code 163 = .ok (.iadd, 1) := by decide +kernel
theorem d_Law_law_164 : decode code 164 = .ok (.iaload, 1) := by decide +kernel
theorem d_Law_law_165 : decode code 165 = .ok (.invokevirtual 25, 3) := by decide +kernel
theorem d_Law_law_168 : decode code 168 = .ok (.if_icmp .eq 317, 3) := by decide +kernel
theorem d_Law_law_171 : decode code 171 = .ok (.iconst 0, 1) := by decide +kernel
theorem d_Law_law_172 : decode code 172 = .ok (.ireturn, 1) := by decide +kernel
theorem d_Law_law_173 : decode code 173 = .ok (.aload_n 1, 1) := by decide +kernel
theorem d_Law_law_174 : decode code 174 = .ok (.aload_n 0, 1) := by decide +kernel
theorem d_Law_law_175 : decode code 175 = .ok (.iload_n 3, 1) := by decide +kernel
theorem d_Law_law_176 : decode code 176 = .ok (.iconst 1, 1) := by decide +kernel
theorem d_Law_law_177 : decode code 177 = .ok (.iadd, 1) := by decide +kernel
theorem d_Law_law_178 : decode code 178 = .ok (.iaload, 1) := by decide +kernel
theorem d_Law_law_179 : decode code 179 = .ok (.invokevirtual 26, 3) := by decide +kernel
theorem d_Law_law_182 : decode code 182 = .ok (.aload_n 2, 1) := by decide +kernel
theorem d_Law_law_183 : decode code 183 = .ok (.aload_n 0, 1) := by decide +kernel
theorem d_Law_law_184 : decode code 184 = .ok (.iload_n 3, 1) := by decide +kernel
theorem d_Law_law_185 : decode code 185 = .ok (.iconst 1, 1) := by decide +kernel
theorem d_Law_law_186 : decode code 186 = .ok (.iadd, 1) := by decide +kernel
theorem d_Law_law_187 : decode code 187 = .ok (.iaload, 1) := by decide +kernel
theorem d_Law_law_188 : decode code 188 = .ok (.invokevirtual 30, 3) := by decide +kernel
theorem d_Law_law_191 : decode code 191 = .ok (.if_icmp .eq 294, 3) := by decide +kernel
theorem d_Law_law_194 : decode code 194 = .ok (.iconst 0, 1) := by decide +kernel
theorem d_Law_law_195 : decode code 195 = .ok (.ireturn, 1) := by decide +kernel
theorem d_Law_law_196 : decode code 196 = .ok (.aload_n 1, 1) := by decide +kernel
theorem d_Law_law_197 : decode code 197 = .ok (.aload_n 0, 1) := by decide +kernel
theorem d_Law_law_198 : decode code 198 = .ok (.iload_n 3, 1) := by decide +kernel
theorem d_Law_law_199 : decode code 199 = .ok (.iconst 1, 1) := by decide +kernel
theorem d_Law_law_200 : decode code 200 = .ok (.iadd, 1) := by decide +kernel
theorem d_Law_law_201 : decode code 201 = .ok (.iaload, 1) := by decide +kernel
theorem d_Law_law_202 : decode code 202 = .ok (.invokevirtual 31, 3) := by decide +kernel
theorem d_Law_law_205 : decode code 205 = .ok (.aload_n 2, 1) := by decide +kernel
theorem d_Law_law_206 : decode code 206 = .ok (.aload_n 0, 1) := by decide +kernel
theorem d_Law_law_207 : decode code 207 = .ok (.iload_n 3, 1) := by decide +kernel
theorem d_Law_law_208 : decode code 208 = .ok (.iconst 1, 1) := by decide +kernel
theorem d_Law_law_209 : decode code 209 = .ok (.iadd, 1) := by decide +kernel
theorem d_Law_law_210 : decode code 210 = .ok (.iaload, 1) := by decide +kernel
theorem d_Law_law_211 : decode code 211 = .ok (.invokevirtual 35, 3) := by decide +kernel
theorem d_Law_law_214 : decode code 214 = .ok (.if_icmp .eq 271, 3) := by decide +kernel
theorem d_Law_law_217 : decode code 217 = .ok (.iconst 0, 1) := by decide +kernel
theorem d_Law_law_218 : decode code 218 = .ok (.ireturn, 1) := by decide +kernel
theorem d_Law_law_219 : decode code 219 = .ok (.aload_n 1, 1) := by decide +kernel
theorem d_Law_law_220 : decode code 220 = .ok (.aload_n 0, 1) := by decide +kernel
theorem d_Law_law_221 : decode code 221 = .ok (.iload_n 3, 1) := by decide +kernel
theorem d_Law_law_222 : decode code 222 = .ok (.iconst 1, 1) := by decide +kernel
theorem d_Law_law_223 : decode code 223 = .ok (.iadd, 1) := by decide +kernel
theorem d_Law_law_224 : decode code 224 = .ok (.iaload, 1) := by decide +kernel
theorem d_Law_law_225 : decode code 225 = .ok (.invokevirtual 36, 3) := by decide +kernel
theorem d_Law_law_228 : decode code 228 = .ok (.aload_n 2, 1) := by decide +kernel
theorem d_Law_law_229 : decode code 229 = .ok (.aload_n 0, 1) := by decide +kernel
theorem d_Law_law_230 : decode code 230 = .ok (.iload_n 3, 1) := by decide +kernel
theorem d_Law_law_231 : decode code 231 = .ok (.iconst 1, 1) := by decide +kernel
theorem d_Law_law_232 : decode code 232 = .ok (.iadd, 1) := by decide +kernel
theorem d_Law_law_233 : decode code 233 = .ok (.iaload, 1) := by decide +kernel
theorem d_Law_law_234 : decode code 234 = .ok (.invokevirtual 39, 3) := by decide +kernel
theorem d_Law_law_237 : decode code 237 = .ok (.if_icmp .eq 248, 3) := by decide +kernel
theorem d_Law_law_240 : decode code 240 = .ok (.iconst 0, 1) := by decide +kernel
theorem d_Law_law_241 : decode code 241 = .ok (.ireturn, 1) := by decide +kernel
theorem d_Law_law_242 : decode code 242 = .ok (.aload_n 1, 1) := by decide +kernel
theorem d_Law_law_243 : decode code 243 = .ok (.invokevirtual 40, 3) := by decide +kernel
theorem d_Law_law_246 : decode code 246 = .ok (.aload_n 2, 1) := by decide +kernel
theorem d_Law_law_247 : decode code 247 = .ok (.invokevirtual 44, 3) := by decide +kernel
theorem d_Law_law_250 : decode code 250 = .ok (.if_icmp .eq 235, 3) := by decide +kernel
theorem d_Law_law_253 : decode code 253 = .ok (.iconst 0, 1) := by decide +kernel
theorem d_Law_law_254 : decode code 254 = .ok (.ireturn, 1) := by decide +kernel
theorem d_Law_law_255 : decode code 255 = .ok (.aload_n 1, 1) := by decide +kernel
theorem d_Law_law_256 : decode code 256 = .ok (.invokevirtual 45, 3) := by decide +kernel
theorem d_Law_law_259 : decode code 259 = .ok (.aload_n 2, 1) := by decide +kernel
theorem d_Law_law_260 : decode code 260 = .ok (.invokevirtual 48, 3) := by decide +kernel
theorem d_Law_law_263 : decode code 263 = .ok (.if_icmp .eq 222, 3) := by decide +kernel
theorem d_Law_law_266 : decode code 266 = .ok (.iconst 0, 1) := by decide +kernel
theorem d_Law_law_267 : decode code 267 = .ok (.ireturn, 1) := by decide +kernel
theorem d_Law_law_268 : decode code 268 = .ok (.aload_n 1, 1) := by decide +kernel
theorem d_Law_law_269 : decode code 269 = .ok (.invokevirtual 49, 3) := by decide +kernel
theorem d_Law_law_272 : decode code 272 = .ok (.aload_n 2, 1) := by decide +kernel
theorem d_Law_law_273 : decode code 273 = .ok (.invokevirtual 52, 3) := by decide +kernel
theorem d_Law_law_276 : decode code 276 = .ok (.if_icmp .eq 209, 3) := by decide +kernel
theorem d_Law_law_279 : decode code 279 = .ok (.iconst 0, 1) := by decide +kernel
theorem d_Law_law_280 : decode code 280 = .ok (.ireturn, 1) := by decide +kernel
theorem d_Law_law_281 : decode code 281 = .ok (.aload_n 1, 1) := by decide +kernel
theorem d_Law_law_282 : decode code 282 = .ok (.invokevirtual 53, 3) := by decide +kernel
theorem d_Law_law_285 : decode code 285 = .ok (.aload_n 2, 1) := by decide +kernel
theorem d_Law_law_286 : decode code 286 = .ok (.invokevirtual 56, 3) := by decide +kernel
theorem d_Law_law_289 : decode code 289 = .ok (.if_icmp .eq 196, 3) := by decide +kernel
theorem d_Law_law_292 : decode code 292 = .ok (.iconst 0, 1) := by decide +kernel
theorem d_Law_law_293 : decode code 293 = .ok (.ireturn, 1) := by decide +kernel
theorem d_Law_law_294 : decode code 294 = .ok (.aload_n 1, 1) := by decide +kernel
theorem d_Law_law_295 : decode code 295 = .ok (.aload_n 0, 1) := by decide +kernel
theorem d_Law_law_296 : decode code 296 = .ok (.iload_n 3, 1) := by decide +kernel
theorem d_Law_law_297 : decode code 297 = .ok (.iconst 1, 1) := by decide +kernel
theorem d_Law_law_298 : decode code 298 = .ok (.iadd, 1) := by decide +kernel
theorem d_Law_law_299 : decode code 299 = .ok (.iaload, 1) := by decide +kernel
theorem d_Law_law_300 : decode code 300 = .ok (.invokevirtual 57, 3) := by decide +kernel
theorem d_Law_law_303 : decode code 303 = .ok (.aload_n 2, 1) := by decide +kernel
theorem d_Law_law_304 : decode code 304 = .ok (.aload_n 0, 1) := by decide +kernel
theorem d_Law_law_305 : decode code 305 = .ok (.iload_n 3, 1) := by decide +kernel
theorem d_Law_law_306 : decode code 306 = .ok (.iconst 1, 1) := by decide +kernel
theorem d_Law_law_307 : decode code 307 = .ok (.iadd, 1) := by decide +kernel
theorem d_Law_law_308 : decode code 308 = .ok (.iaload, 1) := by decide +kernel
theorem d_Law_law_309 : decode code 309 = .ok (.invokevirtual 60, 3) := by decide +kernel
theorem d_Law_law_312 : decode code 312 = .ok (.if_icmp .eq 173, 3) := by decide +kernel
theorem d_Law_law_315 : decode code 315 = .ok (.iconst 0, 1) := by decide +kernel
theorem d_Law_law_316 : decode code 316 = .ok (.ireturn, 1) := by decide +kernel
theorem d_Law_law_317 : decode code 317 = .ok (.aload_n 1, 1) := by decide +kernel
theorem d_Law_law_318 : decode code 318 = .ok (.aload_n 0, 1) := by decide +kernel
theorem d_Law_law_319 : decode code 319 = .ok (.iload_n 3, 1) := by decide +kernel
theorem d_Law_law_320 : decode code 320 = .ok (.iconst 1, 1) := by decide +kernel
theorem d_Law_law_321 : decode code 321 = .ok (.iadd, 1) := by decide +kernel
theorem d_Law_law_322 : decode code 322 = .ok (.iaload, 1) := by decide +kernel
theorem d_Law_law_323 : decode code 323 = .ok (.invokevirtual 61, 3) := by decide +kernel
theorem d_Law_law_326 : decode code 326 = .ok (.aload_n 2, 1) := by decide +kernel
theorem d_Law_law_327 : decode code 327 = .ok (.aload_n 0, 1) := by decide +kernel
theorem d_Law_law_328 : decode code 328 = .ok (.iload_n 3, 1) := by decide +kernel
theorem d_Law_law_329 : decode code 329 = .ok (.iconst 1, 1) := by decide +kernel
theorem d_Law_law_330 : decode code 330 = .ok (.iadd, 1) := by decide +kernel
theorem d_Law_law_331 : decode code 331 = .ok (.iaload, 1) := by decide +kernel
theorem d_Law_law_332 : decode code 332 = .ok (.invokevirtual 64, 3) := by decide +kernel
theorem d_Law_law_335 : decode code 335 = .ok (.if_icmp .eq 150, 3) := by decide +kernel
theorem d_Law_law_338 : decode code 338 = .ok (.iconst 0, 1) := by decide +kernel
theorem d_Law_law_339 : decode code 339 = .ok (.ireturn, 1) := by decide +kernel
theorem d_Law_law_340 : decode code 340 = .ok (.aload_n 1, 1) := by decide +kernel
theorem d_Law_law_341 : decode code 341 = .ok (.aload_n 0, 1) := by decide +kernel
theorem d_Law_law_342 : decode code 342 = .ok (.iload_n 3, 1) := by decide +kernel
theorem d_Law_law_343 : decode code 343 = .ok (.iconst 1, 1) := by decide +kernel
theorem d_Law_law_344 : decode code 344 = .ok (.iadd, 1) := by decide +kernel
theorem d_Law_law_345 : decode code 345 = .ok (.iaload, 1) := by decide +kernel
theorem d_Law_law_346 : decode code 346 = .ok (.invokevirtual 65, 3) := by decide +kernel
theorem d_Law_law_349 : decode code 349 = .ok (.aload_n 2, 1) := by decide +kernel
theorem d_Law_law_350 : decode code 350 = .ok (.aload_n 0, 1) := by decide +kernel
theorem d_Law_law_351 : decode code 351 = .ok (.iload_n 3, 1) := by decide +kernel
theorem d_Law_law_352 : decode code 352 = .ok (.iconst 1, 1) := by decide +kernel
theorem d_Law_law_353 : decode code 353 = .ok (.iadd, 1) := by decide +kernel
theorem d_Law_law_354 : decode code 354 = .ok (.iaload, 1) := by decide +kernel
theorem d_Law_law_355 : decode code 355 = .ok (.invokevirtual 68, 3) := by decide +kernel
theorem d_Law_law_358 : decode code 358 = .ok (.if_icmp .eq 127, 3) := by decide +kernel
theorem d_Law_law_361 : decode code 361 = .ok (.iconst 0, 1) := by decide +kernel
theorem d_Law_law_362 : decode code 362 = .ok (.ireturn, 1) := by decide +kernel
theorem d_Law_law_363 : decode code 363 = .ok (.aload_n 1, 1) := by decide +kernel
theorem d_Law_law_364 : decode code 364 = .ok (.aload_n 0, 1) := by decide +kernel
theorem d_Law_law_365 : decode code 365 = .ok (.iload_n 3, 1) := by decide +kernel
theorem d_Law_law_366 : decode code 366 = .ok (.iconst 1, 1) := by decide +kernel
theorem d_Law_law_367 : decode code 367 = .ok (.iadd, 1) := by decide +kernel
theorem d_Law_law_368 : decode code 368 = .ok (.iaload, 1) := by decide +kernel
theorem d_Law_law_369 : decode code 369 = .ok (.invokevirtual 69, 3) := by decide +kernel
theorem d_Law_law_372 : decode code 372 = .ok (.aload_n 2, 1) := by decide +kernel
theorem d_Law_law_373 : decode code 373 = .ok (.aload_n 0, 1) := by decide +kernel
theorem d_Law_law_374 : decode code 374 = .ok (.iload_n 3, 1) := by decide +kernel
theorem d_Law_law_375 : decode code 375 = .ok (.iconst 1, 1) := by decide +kernel
theorem d_Law_law_376 : decode code 376 = .ok (.iadd, 1) := by decide +kernel
theorem d_Law_law_377 : decode code 377 = .ok (.iaload, 1) := by decide +kernel
theorem d_Law_law_378 : decode code 378 = .ok (.invokevirtual 72, 3) := by decide +kernel
theorem d_Law_law_381 : decode code 381 = .ok (.if_icmp .eq 104, 3) := by decide +kernel
theorem d_Law_law_384 : decode code 384 = .ok (.iconst 0, 1) := by decide +kernel
theorem d_Law_law_385 : decode code 385 = .ok (.ireturn, 1) := by decide +kernel
theorem d_Law_law_386 : decode code 386 = .ok (.aload_n 1, 1) := by decide +kernel
theorem d_Law_law_387 : decode code 387 = .ok (.aload_n 0, 1) := by decide +kernel
theorem d_Law_law_388 : decode code 388 = .ok (.iload_n 3, 1) := by decide +kernel
theorem d_Law_law_389 : decode code 389 = .ok (.iconst 1, 1) := by decide +kernel
theorem d_Law_law_390 : decode code 390 = .ok (.iadd, 1) := by decide +kernel
theorem d_Law_law_391 : decode code 391 = .ok (.iaload, 1) := by decide +kernel
theorem d_Law_law_392 : decode code 392 = .ok (.ifCond .eq 7, 3) := by decide +kernel
theorem d_Law_law_395 : decode code 395 = .ok (.iconst 1, 1) := by decide +kernel
theorem d_Law_law_396 : decode code 396 = .ok (.goto 4, 3) := by decide +kernel
theorem d_Law_law_399 : decode code 399 = .ok (.iconst 0, 1) := by decide +kernel
theorem d_Law_law_400 : decode code 400 = .ok (.aload_n 0, 1) := by decide +kernel
theorem d_Law_law_401 : decode code 401 = .ok (.iload_n 3, 1) := by decide +kernel
theorem d_Law_law_402 : decode code 402 = .ok (.iconst 2, 1) := by decide +kernel
theorem d_Law_law_403 : decode code 403 = .ok (.iadd, 1) := by decide +kernel
theorem d_Law_law_404 : decode code 404 = .ok (.iaload, 1) := by decide +kernel
theorem d_Law_law_405 : decode code 405 = .ok (.invokevirtual 73, 3) := by decide +kernel
theorem d_Law_law_408 : decode code 408 = .ok (.aload_n 2, 1) := by decide +kernel
theorem d_Law_law_409 : decode code 409 = .ok (.aload_n 0, 1) := by decide +kernel
theorem d_Law_law_410 : decode code 410 = .ok (.iload_n 3, 1) := by decide +kernel
theorem d_Law_law_411 : decode code 411 = .ok (.iconst 1, 1) := by decide +kernel
theorem d_Law_law_412 : decode code 412 = .ok (.iadd, 1) := by decide +kernel
theorem d_Law_law_413 : decode code 413 = .ok (.iaload, 1) := by decide +kernel
theorem d_Law_law_414 : decode code 414 = .ok (.ifCond .eq 7, 3) := by decide +kernel
theorem d_Law_law_417 : decode code 417 = .ok (.iconst 1, 1) := by decide +kernel
theorem d_Law_law_418 : decode code 418 = .ok (.goto 4, 3) := by decide +kernel
theorem d_Law_law_421 : decode code 421 = .ok (.iconst 0, 1) := by decide +kernel
theorem d_Law_law_422 : decode code 422 = .ok (.aload_n 0, 1) := by decide +kernel
theorem d_Law_law_423 : decode code 423 = .ok (.iload_n 3, 1) := by decide +kernel
theorem d_Law_law_424 : decode code 424 = .ok (.iconst 2, 1) := by decide +kernel
theorem d_Law_law_425 : decode code 425 = .ok (.iadd, 1) := by decide +kernel
theorem d_Law_law_426 : decode code 426 = .ok (.iaload, 1) := by decide +kernel
theorem d_Law_law_427 : decode code 427 = .ok (.invokevirtual 77, 3) := by decide +kernel
theorem d_Law_law_430 : decode code 430 = .ok (.if_icmp .eq 55, 3) := by decide +kernel
theorem d_Law_law_433 : decode code 433 = .ok (.iconst 0, 1) := by decide +kernel
theorem d_Law_law_434 : decode code 434 = .ok (.ireturn, 1) := by decide +kernel
theorem d_Law_law_435 : decode code 435 = .ok (.aload_n 1, 1) := by decide +kernel
theorem d_Law_law_436 : decode code 436 = .ok (.aload_n 0, 1) := by decide +kernel
theorem d_Law_law_437 : decode code 437 = .ok (.iload_n 3, 1) := by decide +kernel
theorem d_Law_law_438 : decode code 438 = .ok (.iconst 1, 1) := by decide +kernel
theorem d_Law_law_439 : decode code 439 = .ok (.iadd, 1) := by decide +kernel
theorem d_Law_law_440 : decode code 440 = .ok (.iaload, 1) := by decide +kernel
theorem d_Law_law_441 : decode code 441 = .ok (.invokevirtual 78, 3) := by decide +kernel
theorem d_Law_law_444 : decode code 444 = .ok (.aload_n 2, 1) := by decide +kernel
theorem d_Law_law_445 : decode code 445 = .ok (.aload_n 0, 1) := by decide +kernel
theorem d_Law_law_446 : decode code 446 = .ok (.iload_n 3, 1) := by decide +kernel
theorem d_Law_law_447 : decode code 447 = .ok (.iconst 1, 1) := by decide +kernel
theorem d_Law_law_448 : decode code 448 = .ok (.iadd, 1) := by decide +kernel
theorem d_Law_law_449 : decode code 449 = .ok (.iaload, 1) := by decide +kernel
theorem d_Law_law_450 : decode code 450 = .ok (.invokevirtual 81, 3) := by decide +kernel
theorem d_Law_law_453 : decode code 453 = .ok (.if_icmp .eq 32, 3) := by decide +kernel
theorem d_Law_law_456 : decode code 456 = .ok (.iconst 0, 1) := by decide +kernel
theorem d_Law_law_457 : decode code 457 = .ok (.ireturn, 1) := by decide +kernel
theorem d_Law_law_458 : decode code 458 = .ok (.aload_n 1, 1) := by decide +kernel
theorem d_Law_law_459 : decode code 459 = .ok (.invokevirtual 82, 3) := by decide +kernel
theorem d_Law_law_462 : decode code 462 = .ok (.aload_n 2, 1) := by decide +kernel
theorem d_Law_law_463 : decode code 463 = .ok (.invokevirtual 86, 3) := by decide +kernel
theorem d_Law_law_466 : decode code 466 = .ok (.lcmp, 1) := by decide +kernel
theorem d_Law_law_467 : decode code 467 = .ok (.ifCond .eq 18, 3) := by decide +kernel
theorem d_Law_law_470 : decode code 470 = .ok (.iconst 0, 1) := by decide +kernel
theorem d_Law_law_471 : decode code 471 = .ok (.ireturn, 1) := by decide +kernel
theorem d_Law_law_472 : decode code 472 = .ok (.aload_n 1, 1) := by decide +kernel
theorem d_Law_law_473 : decode code 473 = .ok (.invokevirtual 87, 3) := by decide +kernel
theorem d_Law_law_476 : decode code 476 = .ok (.aload_n 2, 1) := by decide +kernel
theorem d_Law_law_477 : decode code 477 = .ok (.invokevirtual 90, 3) := by decide +kernel
theorem d_Law_law_480 : decode code 480 = .ok (.if_icmp .eq 5, 3) := by decide +kernel
theorem d_Law_law_483 : decode code 483 = .ok (.iconst 0, 1) := by decide +kernel
theorem d_Law_law_484 : decode code 484 = .ok (.ireturn, 1) := by decide +kernel
theorem d_Law_law_485 : decode code 485 = .ok (.iinc 3 3, 3) := by decide +kernel
theorem d_Law_law_488 : decode code 488 = .ok (.goto (-440), 3) := by decide +kernel
theorem d_Law_law_491 : decode code 491 = .ok (.iconst 1, 1) := by decide +kernel
theorem d_Law_law_492 : decode code 492 = .ok (.ireturn, 1) := by decide +kernel
theorem d_Law_cell_0 : decode b_Law_cell 0 = .ok (.iload_n 1, 1) := by decide +kernel
theorem d_Law_cell_1 : decode b_Law_cell 1 = .ok (.aload_n 0, 1) := by decide +kernel
theorem d_Law_cell_2 : decode b_Law_cell 2 = .ok (.arraylength, 1) := by decide +kernel
theorem d_Law_cell_3 : decode b_Law_cell 3 = .ok (.if_icmp .ge 9, 3) := by decide +kernel
theorem d_Law_cell_6 : decode b_Law_cell 6 = .ok (.aload_n 0, 1) := by decide +kernel
theorem d_Law_cell_7 : decode b_Law_cell 7 = .ok (.iload_n 1, 1) := by decide +kernel
theorem d_Law_cell_8 : decode b_Law_cell 8 = .ok (.iaload, 1) := by decide +kernel
theorem d_Law_cell_9 : decode b_Law_cell 9 = .ok (.goto 4, 3) := by decide +kernel
theorem d_Law_cell_12 : decode b_Law_cell 12 = .ok (.iconst 0, 1) := by decide +kernel
theorem d_Law_cell_13 : decode b_Law_cell 13 = .ok (.ireturn, 1) := by decide +kernel
