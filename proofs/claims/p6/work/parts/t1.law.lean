/-! The law: its decode rows. By program (lawA.py). -/
abbrev mLaw : qM := (⟨"SaltOfficeLaw", "law", "([I)Z"⟩, code, 4, some .boolean)
theorem dLaw_0 : decode code 0 = .ok (.new 7, 3) := by decide +kernel
theorem dLaw_3 : decode code 3 = .ok (.dup, 1) := by decide +kernel
theorem dLaw_4 : decode code 4 = .ok (.invokespecial 9, 3) := by decide +kernel
theorem dLaw_7 : decode code 7 = .ok (.astore_n 1, 1) := by decide +kernel
theorem dLaw_8 : decode code 8 = .ok (.new 10, 3) := by decide +kernel
theorem dLaw_11 : decode code 11 = .ok (.dup, 1) := by decide +kernel
theorem dLaw_12 : decode code 12 = .ok (.invokespecial 12, 3) := by decide +kernel
theorem dLaw_15 : decode code 15 = .ok (.astore_n 2, 1) := by decide +kernel
theorem dLaw_16 : decode code 16 = .ok (.iconst 0, 1) := by decide +kernel
theorem dLaw_17 : decode code 17 = .ok (.istore_n 3, 1) := by decide +kernel
theorem dLaw_18 : decode code 18 = .ok (.iload_n 3, 1) := by decide +kernel
theorem dLaw_19 : decode code 19 = .ok (.aload_n 0, 1) := by decide +kernel
theorem dLaw_20 : decode code 20 = .ok (.arraylength, 1) := by decide +kernel
theorem dLaw_21 : decode code 21 = .ok (.bipush 6, 2) := by decide +kernel
theorem dLaw_23 : decode code 23 = .ok (.isub, 1) := by decide +kernel
theorem dLaw_24 : decode code 24 = .ok (.if_icmp .gt 958, 3) := by decide +kernel
theorem dLaw_27 : decode code 27 = .ok (.aload_n 0, 1) := by decide +kernel
theorem dLaw_28 : decode code 28 = .ok (.iload_n 3, 1) := by decide +kernel
theorem dLaw_29 : decode code 29 = .ok (.iaload, 1) := by decide +kernel
theorem dLaw_30 : decode code 30 = .ok (.bipush 31, 2) := by decide +kernel
theorem dLaw_32 : decode code 32 = .ok (.iand, 1) := by decide +kernel
theorem dLaw_33 : decode code 33 = .ok (.tableswitch 943 0 23 #[111, 174, 197, 210, 233, 256, 289, 312, 375, 418, 451, 494, 517, 540, 583, 606, 649, 692, 735, 778, 811, 844, 867, 920], 111) := by decide +kernel
theorem dLaw_144 : decode code 144 = .ok (.aload_n 1, 1) := by decide +kernel
theorem dLaw_145 : decode code 145 = .ok (.aload_n 0, 1) := by decide +kernel
theorem dLaw_146 : decode code 146 = .ok (.iload_n 3, 1) := by decide +kernel
theorem dLaw_147 : decode code 147 = .ok (.iconst 1, 1) := by decide +kernel
theorem dLaw_148 : decode code 148 = .ok (.iadd, 1) := by decide +kernel
theorem dLaw_149 : decode code 149 = .ok (.iaload, 1) := by decide +kernel
theorem dLaw_150 : decode code 150 = .ok (.aload_n 0, 1) := by decide +kernel
theorem dLaw_151 : decode code 151 = .ok (.iload_n 3, 1) := by decide +kernel
theorem dLaw_152 : decode code 152 = .ok (.iconst 2, 1) := by decide +kernel
theorem dLaw_153 : decode code 153 = .ok (.iadd, 1) := by decide +kernel
theorem dLaw_154 : decode code 154 = .ok (.iaload, 1) := by decide +kernel
theorem dLaw_155 : decode code 155 = .ok (.aload_n 0, 1) := by decide +kernel
theorem dLaw_156 : decode code 156 = .ok (.iload_n 3, 1) := by decide +kernel
theorem dLaw_157 : decode code 157 = .ok (.iconst 3, 1) := by decide +kernel
theorem dLaw_158 : decode code 158 = .ok (.iadd, 1) := by decide +kernel
theorem dLaw_159 : decode code 159 = .ok (.iaload, 1) := by decide +kernel
theorem dLaw_160 : decode code 160 = .ok (.aload_n 0, 1) := by decide +kernel
theorem dLaw_161 : decode code 161 = .ok (.iload_n 3, 1) := by decide +kernel
theorem dLaw_162 : decode code 162 = .ok (.iconst 4, 1) := by decide +kernel
theorem dLaw_163 : decode code 163 = .ok (.iadd, 1) := by decide +kernel
theorem dLaw_164 : decode code 164 = .ok (.iaload, 1) := by decide +kernel
theorem dLaw_165 : decode code 165 = .ok (.aload_n 0, 1) := by decide +kernel
theorem dLaw_166 : decode code 166 = .ok (.iload_n 3, 1) := by decide +kernel
theorem dLaw_167 : decode code 167 = .ok (.iconst 5, 1) := by decide +kernel
theorem dLaw_168 : decode code 168 = .ok (.iadd, 1) := by decide +kernel
theorem dLaw_169 : decode code 169 = .ok (.iaload, 1) := by decide +kernel
theorem dLaw_170 : decode code 170 = .ok (.invokevirtual 13, 3) := by decide +kernel
theorem dLaw_173 : decode code 173 = .ok (.pop, 1) := by decide +kernel
theorem dLaw_174 : decode code 174 = .ok (.aload_n 2, 1) := by decide +kernel
theorem dLaw_175 : decode code 175 = .ok (.aload_n 0, 1) := by decide +kernel
theorem dLaw_176 : decode code 176 = .ok (.iload_n 3, 1) := by decide +kernel
theorem dLaw_177 : decode code 177 = .ok (.iconst 1, 1) := by decide +kernel
theorem dLaw_178 : decode code 178 = .ok (.iadd, 1) := by decide +kernel
theorem dLaw_179 : decode code 179 = .ok (.iaload, 1) := by decide +kernel
theorem dLaw_180 : decode code 180 = .ok (.aload_n 0, 1) := by decide +kernel
theorem dLaw_181 : decode code 181 = .ok (.iload_n 3, 1) := by decide +kernel
theorem dLaw_182 : decode code 182 = .ok (.iconst 2, 1) := by decide +kernel
theorem dLaw_183 : decode code 183 = .ok (.iadd, 1) := by decide +kernel
theorem dLaw_184 : decode code 184 = .ok (.iaload, 1) := by decide +kernel
theorem dLaw_185 : decode code 185 = .ok (.aload_n 0, 1) := by decide +kernel
theorem dLaw_186 : decode code 186 = .ok (.iload_n 3, 1) := by decide +kernel
theorem dLaw_187 : decode code 187 = .ok (.iconst 3, 1) := by decide +kernel
theorem dLaw_188 : decode code 188 = .ok (.iadd, 1) := by decide +kernel
theorem dLaw_189 : decode code 189 = .ok (.iaload, 1) := by decide +kernel
theorem dLaw_190 : decode code 190 = .ok (.aload_n 0, 1) := by decide +kernel
theorem dLaw_191 : decode code 191 = .ok (.iload_n 3, 1) := by decide +kernel
theorem dLaw_192 : decode code 192 = .ok (.iconst 4, 1) := by decide +kernel
theorem dLaw_193 : decode code 193 = .ok (.iadd, 1) := by decide +kernel
theorem dLaw_194 : decode code 194 = .ok (.iaload, 1) := by decide +kernel
theorem dLaw_195 : decode code 195 = .ok (.aload_n 0, 1) := by decide +kernel
theorem dLaw_196 : decode code 196 = .ok (.iload_n 3, 1) := by decide +kernel
theorem dLaw_197 : decode code 197 = .ok (.iconst 5, 1) := by decide +kernel
theorem dLaw_198 : decode code 198 = .ok (.iadd, 1) := by decide +kernel
theorem dLaw_199 : decode code 199 = .ok (.iaload, 1) := by decide +kernel
theorem dLaw_200 : decode code 200 = .ok (.invokevirtual 17, 3) := by decide +kernel
theorem dLaw_203 : decode code 203 = .ok (.pop, 1) := by decide +kernel
theorem dLaw_204 : decode code 204 = .ok (.goto 772, 3) := by decide +kernel
theorem dLaw_207 : decode code 207 = .ok (.aload_n 1, 1) := by decide +kernel
theorem dLaw_208 : decode code 208 = .ok (.aload_n 0, 1) := by decide +kernel
theorem dLaw_209 : decode code 209 = .ok (.iload_n 3, 1) := by decide +kernel
theorem dLaw_210 : decode code 210 = .ok (.iconst 1, 1) := by decide +kernel
theorem dLaw_211 : decode code 211 = .ok (.iadd, 1) := by decide +kernel
theorem dLaw_212 : decode code 212 = .ok (.iaload, 1) := by decide +kernel
theorem dLaw_213 : decode code 213 = .ok (.invokevirtual 18, 3) := by decide +kernel
theorem dLaw_216 : decode code 216 = .ok (.pop, 1) := by decide +kernel
theorem dLaw_217 : decode code 217 = .ok (.aload_n 2, 1) := by decide +kernel
theorem dLaw_218 : decode code 218 = .ok (.aload_n 0, 1) := by decide +kernel
theorem dLaw_219 : decode code 219 = .ok (.iload_n 3, 1) := by decide +kernel
theorem dLaw_220 : decode code 220 = .ok (.iconst 1, 1) := by decide +kernel
theorem dLaw_221 : decode code 221 = .ok (.iadd, 1) := by decide +kernel
theorem dLaw_222 : decode code 222 = .ok (.iaload, 1) := by decide +kernel
theorem dLaw_223 : decode code 223 = .ok (.invokevirtual 22, 3) := by decide +kernel
theorem dLaw_226 : decode code 226 = .ok (.pop, 1) := by decide +kernel
theorem dLaw_227 : decode code 227 = .ok (.goto 749, 3) := by decide +kernel
theorem dLaw_230 : decode code 230 = .ok (.aload_n 1, 1) := by decide +kernel
theorem dLaw_231 : decode code 231 = .ok (.invokevirtual 23, 3) := by decide +kernel
theorem dLaw_234 : decode code 234 = .ok (.pop, 1) := by decide +kernel
theorem dLaw_235 : decode code 235 = .ok (.aload_n 2, 1) := by decide +kernel
theorem dLaw_236 : decode code 236 = .ok (.invokevirtual 27, 3) := by decide +kernel
theorem dLaw_239 : decode code 239 = .ok (.pop, 1) := by decide +kernel
theorem dLaw_240 : decode code 240 = .ok (.goto 736, 3) := by decide +kernel
theorem dLaw_243 : decode code 243 = .ok (.aload_n 1, 1) := by decide +kernel
theorem dLaw_244 : decode code 244 = .ok (.aload_n 0, 1) := by decide +kernel
theorem dLaw_245 : decode code 245 = .ok (.iload_n 3, 1) := by decide +kernel
theorem dLaw_246 : decode code 246 = .ok (.iconst 1, 1) := by decide +kernel
theorem dLaw_247 : decode code 247 = .ok (.iadd, 1) := by decide +kernel
theorem dLaw_248 : decode code 248 = .ok (.iaload, 1) := by decide +kernel
theorem dLaw_249 : decode code 249 = .ok (.invokevirtual 28, 3) := by decide +kernel
theorem dLaw_252 : decode code 252 = .ok (.pop, 1) := by decide +kernel
theorem dLaw_253 : decode code 253 = .ok (.aload_n 2, 1) := by decide +kernel
theorem dLaw_254 : decode code 254 = .ok (.aload_n 0, 1) := by decide +kernel
theorem dLaw_255 : decode code 255 = .ok (.iload_n 3, 1) := by decide +kernel
theorem dLaw_256 : decode code 256 = .ok (.iconst 1, 1) := by decide +kernel
theorem dLaw_257 : decode code 257 = .ok (.iadd, 1) := by decide +kernel
theorem dLaw_258 : decode code 258 = .ok (.iaload, 1) := by decide +kernel
theorem dLaw_259 : decode code 259 = .ok (.invokevirtual 31, 3) := by decide +kernel
theorem dLaw_262 : decode code 262 = .ok (.pop, 1) := by decide +kernel
theorem dLaw_263 : decode code 263 = .ok (.goto 713, 3) := by decide +kernel
theorem dLaw_266 : decode code 266 = .ok (.aload_n 1, 1) := by decide +kernel
theorem dLaw_267 : decode code 267 = .ok (.aload_n 0, 1) := by decide +kernel
theorem dLaw_268 : decode code 268 = .ok (.iload_n 3, 1) := by decide +kernel
theorem dLaw_269 : decode code 269 = .ok (.iconst 1, 1) := by decide +kernel
theorem dLaw_270 : decode code 270 = .ok (.iadd, 1) := by decide +kernel
theorem dLaw_271 : decode code 271 = .ok (.iaload, 1) := by decide +kernel
theorem dLaw_272 : decode code 272 = .ok (.invokevirtual 32, 3) := by decide +kernel
theorem dLaw_275 : decode code 275 = .ok (.aload_n 2, 1) := by decide +kernel
theorem dLaw_276 : decode code 276 = .ok (.aload_n 0, 1) := by decide +kernel
theorem dLaw_277 : decode code 277 = .ok (.iload_n 3, 1) := by decide +kernel
theorem dLaw_278 : decode code 278 = .ok (.iconst 1, 1) := by decide +kernel
theorem dLaw_279 : decode code 279 = .ok (.iadd, 1) := by decide +kernel
theorem dLaw_280 : decode code 280 = .ok (.iaload, 1) := by decide +kernel
theorem dLaw_281 : decode code 281 = .ok (.invokevirtual 35, 3) := by decide +kernel
theorem dLaw_284 : decode code 284 = .ok (.if_icmp .eq 692, 3) := by decide +kernel
theorem dLaw_287 : decode code 287 = .ok (.iconst 0, 1) := by decide +kernel
theorem dLaw_288 : decode code 288 = .ok (.ireturn, 1) := by decide +kernel
theorem dLaw_289 : decode code 289 = .ok (.aload_n 1, 1) := by decide +kernel
theorem dLaw_290 : decode code 290 = .ok (.aload_n 0, 1) := by decide +kernel
theorem dLaw_291 : decode code 291 = .ok (.iload_n 3, 1) := by decide +kernel
theorem dLaw_292 : decode code 292 = .ok (.iconst 1, 1) := by decide +kernel
theorem dLaw_293 : decode code 293 = .ok (.iadd, 1) := by decide +kernel
theorem dLaw_294 : decode code 294 = .ok (.iaload, 1) := by decide +kernel
theorem dLaw_295 : decode code 295 = .ok (.aload_n 0, 1) := by decide +kernel
theorem dLaw_296 : decode code 296 = .ok (.iload_n 3, 1) := by decide +kernel
theorem dLaw_297 : decode code 297 = .ok (.iconst 2, 1) := by decide +kernel
theorem dLaw_298 : decode code 298 = .ok (.iadd, 1) := by decide +kernel
theorem dLaw_299 : decode code 299 = .ok (.iaload, 1) := by decide +kernel
theorem dLaw_300 : decode code 300 = .ok (.invokevirtual 36, 3) := by decide +kernel
theorem dLaw_303 : decode code 303 = .ok (.pop, 1) := by decide +kernel
theorem dLaw_304 : decode code 304 = .ok (.aload_n 2, 1) := by decide +kernel
theorem dLaw_305 : decode code 305 = .ok (.aload_n 0, 1) := by decide +kernel
theorem dLaw_306 : decode code 306 = .ok (.iload_n 3, 1) := by decide +kernel
theorem dLaw_307 : decode code 307 = .ok (.iconst 1, 1) := by decide +kernel
theorem dLaw_308 : decode code 308 = .ok (.iadd, 1) := by decide +kernel
theorem dLaw_309 : decode code 309 = .ok (.iaload, 1) := by decide +kernel
theorem dLaw_310 : decode code 310 = .ok (.aload_n 0, 1) := by decide +kernel
theorem dLaw_311 : decode code 311 = .ok (.iload_n 3, 1) := by decide +kernel
theorem dLaw_312 : decode code 312 = .ok (.iconst 2, 1) := by decide +kernel
theorem dLaw_313 : decode code 313 = .ok (.iadd, 1) := by decide +kernel
theorem dLaw_314 : decode code 314 = .ok (.iaload, 1) := by decide +kernel
theorem dLaw_315 : decode code 315 = .ok (.invokevirtual 40, 3) := by decide +kernel
theorem dLaw_318 : decode code 318 = .ok (.pop, 1) := by decide +kernel
theorem dLaw_319 : decode code 319 = .ok (.goto 657, 3) := by decide +kernel
theorem dLaw_322 : decode code 322 = .ok (.aload_n 1, 1) := by decide +kernel
theorem dLaw_323 : decode code 323 = .ok (.aload_n 0, 1) := by decide +kernel
theorem dLaw_324 : decode code 324 = .ok (.iload_n 3, 1) := by decide +kernel
theorem dLaw_325 : decode code 325 = .ok (.iconst 1, 1) := by decide +kernel
theorem dLaw_326 : decode code 326 = .ok (.iadd, 1) := by decide +kernel
theorem dLaw_327 : decode code 327 = .ok (.iaload, 1) := by decide +kernel
theorem dLaw_328 : decode code 328 = .ok (.invokevirtual 41, 3) := by decide +kernel
theorem dLaw_331 : decode code 331 = .ok (.pop, 1) := by decide +kernel
theorem dLaw_332 : decode code 332 = .ok (.aload_n 2, 1) := by decide +kernel
theorem dLaw_333 : decode code 333 = .ok (.aload_n 0, 1) := by decide +kernel
theorem dLaw_334 : decode code 334 = .ok (.iload_n 3, 1) := by decide +kernel
theorem dLaw_335 : decode code 335 = .ok (.iconst 1, 1) := by decide +kernel
theorem dLaw_336 : decode code 336 = .ok (.iadd, 1) := by decide +kernel
theorem dLaw_337 : decode code 337 = .ok (.iaload, 1) := by decide +kernel
theorem dLaw_338 : decode code 338 = .ok (.invokevirtual 44, 3) := by decide +kernel
theorem dLaw_341 : decode code 341 = .ok (.pop, 1) := by decide +kernel
theorem dLaw_342 : decode code 342 = .ok (.goto 634, 3) := by decide +kernel
theorem dLaw_345 : decode code 345 = .ok (.aload_n 1, 1) := by decide +kernel
theorem dLaw_346 : decode code 346 = .ok (.aload_n 0, 1) := by decide +kernel
theorem dLaw_347 : decode code 347 = .ok (.iload_n 3, 1) := by decide +kernel
theorem dLaw_348 : decode code 348 = .ok (.iconst 1, 1) := by decide +kernel
theorem dLaw_349 : decode code 349 = .ok (.iadd, 1) := by decide +kernel
theorem dLaw_350 : decode code 350 = .ok (.iaload, 1) := by decide +kernel
theorem dLaw_351 : decode code 351 = .ok (.aload_n 0, 1) := by decide +kernel
theorem dLaw_352 : decode code 352 = .ok (.iload_n 3, 1) := by decide +kernel
theorem dLaw_353 : decode code 353 = .ok (.iconst 2, 1) := by decide +kernel
theorem dLaw_354 : decode code 354 = .ok (.iadd, 1) := by decide +kernel
theorem dLaw_355 : decode code 355 = .ok (.iaload, 1) := by decide +kernel
theorem dLaw_356 : decode code 356 = .ok (.aload_n 0, 1) := by decide +kernel
theorem dLaw_357 : decode code 357 = .ok (.iload_n 3, 1) := by decide +kernel
theorem dLaw_358 : decode code 358 = .ok (.iconst 3, 1) := by decide +kernel
theorem dLaw_359 : decode code 359 = .ok (.iadd, 1) := by decide +kernel
theorem dLaw_360 : decode code 360 = .ok (.iaload, 1) := by decide +kernel
theorem dLaw_361 : decode code 361 = .ok (.aload_n 0, 1) := by decide +kernel
theorem dLaw_362 : decode code 362 = .ok (.iload_n 3, 1) := by decide +kernel
theorem dLaw_363 : decode code 363 = .ok (.iconst 4, 1) := by decide +kernel
theorem dLaw_364 : decode code 364 = .ok (.iadd, 1) := by decide +kernel
theorem dLaw_365 : decode code 365 = .ok (.iaload, 1) := by decide +kernel
theorem dLaw_366 : decode code 366 = .ok (.aload_n 0, 1) := by decide +kernel
theorem dLaw_367 : decode code 367 = .ok (.iload_n 3, 1) := by decide +kernel
theorem dLaw_368 : decode code 368 = .ok (.iconst 5, 1) := by decide +kernel
theorem dLaw_369 : decode code 369 = .ok (.iadd, 1) := by decide +kernel
theorem dLaw_370 : decode code 370 = .ok (.iaload, 1) := by decide +kernel
theorem dLaw_371 : decode code 371 = .ok (.invokevirtual 45, 3) := by decide +kernel
theorem dLaw_374 : decode code 374 = .ok (.pop, 1) := by decide +kernel
theorem dLaw_375 : decode code 375 = .ok (.aload_n 2, 1) := by decide +kernel
theorem dLaw_376 : decode code 376 = .ok (.aload_n 0, 1) := by decide +kernel
theorem dLaw_377 : decode code 377 = .ok (.iload_n 3, 1) := by decide +kernel
theorem dLaw_378 : decode code 378 = .ok (.iconst 1, 1) := by decide +kernel
theorem dLaw_379 : decode code 379 = .ok (.iadd, 1) := by decide +kernel
theorem dLaw_380 : decode code 380 = .ok (.iaload, 1) := by decide +kernel
theorem dLaw_381 : decode code 381 = .ok (.aload_n 0, 1) := by decide +kernel
theorem dLaw_382 : decode code 382 = .ok (.iload_n 3, 1) := by decide +kernel
theorem dLaw_383 : decode code 383 = .ok (.iconst 2, 1) := by decide +kernel
theorem dLaw_384 : decode code 384 = .ok (.iadd, 1) := by decide +kernel
theorem dLaw_385 : decode code 385 = .ok (.iaload, 1) := by decide +kernel
theorem dLaw_386 : decode code 386 = .ok (.aload_n 0, 1) := by decide +kernel
theorem dLaw_387 : decode code 387 = .ok (.iload_n 3, 1) := by decide +kernel
theorem dLaw_388 : decode code 388 = .ok (.iconst 3, 1) := by decide +kernel
theorem dLaw_389 : decode code 389 = .ok (.iadd, 1) := by decide +kernel
theorem dLaw_390 : decode code 390 = .ok (.iaload, 1) := by decide +kernel
theorem dLaw_391 : decode code 391 = .ok (.aload_n 0, 1) := by decide +kernel
theorem dLaw_392 : decode code 392 = .ok (.iload_n 3, 1) := by decide +kernel
theorem dLaw_393 : decode code 393 = .ok (.iconst 4, 1) := by decide +kernel
theorem dLaw_394 : decode code 394 = .ok (.iadd, 1) := by decide +kernel
theorem dLaw_395 : decode code 395 = .ok (.iaload, 1) := by decide +kernel
theorem dLaw_396 : decode code 396 = .ok (.aload_n 0, 1) := by decide +kernel
theorem dLaw_397 : decode code 397 = .ok (.iload_n 3, 1) := by decide +kernel
theorem dLaw_398 : decode code 398 = .ok (.iconst 5, 1) := by decide +kernel
theorem dLaw_399 : decode code 399 = .ok (.iadd, 1) := by decide +kernel
theorem dLaw_400 : decode code 400 = .ok (.iaload, 1) := by decide +kernel
theorem dLaw_401 : decode code 401 = .ok (.invokevirtual 49, 3) := by decide +kernel
theorem dLaw_404 : decode code 404 = .ok (.pop, 1) := by decide +kernel
theorem dLaw_405 : decode code 405 = .ok (.goto 571, 3) := by decide +kernel
theorem dLaw_408 : decode code 408 = .ok (.aload_n 1, 1) := by decide +kernel
theorem dLaw_409 : decode code 409 = .ok (.aload_n 0, 1) := by decide +kernel
theorem dLaw_410 : decode code 410 = .ok (.iload_n 3, 1) := by decide +kernel
theorem dLaw_411 : decode code 411 = .ok (.iconst 1, 1) := by decide +kernel
theorem dLaw_412 : decode code 412 = .ok (.iadd, 1) := by decide +kernel
theorem dLaw_413 : decode code 413 = .ok (.iaload, 1) := by decide +kernel
theorem dLaw_414 : decode code 414 = .ok (.aload_n 0, 1) := by decide +kernel
theorem dLaw_415 : decode code 415 = .ok (.iload_n 3, 1) := by decide +kernel
theorem dLaw_416 : decode code 416 = .ok (.iconst 2, 1) := by decide +kernel
theorem dLaw_417 : decode code 417 = .ok (.iadd, 1) := by decide +kernel
theorem dLaw_418 : decode code 418 = .ok (.iaload, 1) := by decide +kernel
theorem dLaw_419 : decode code 419 = .ok (.aload_n 0, 1) := by decide +kernel
theorem dLaw_420 : decode code 420 = .ok (.iload_n 3, 1) := by decide +kernel
theorem dLaw_421 : decode code 421 = .ok (.iconst 3, 1) := by decide +kernel
theorem dLaw_422 : decode code 422 = .ok (.iadd, 1) := by decide +kernel
theorem dLaw_423 : decode code 423 = .ok (.iaload, 1) := by decide +kernel
theorem dLaw_424 : decode code 424 = .ok (.invokevirtual 50, 3) := by decide +kernel
theorem dLaw_427 : decode code 427 = .ok (.pop, 1) := by decide +kernel
theorem dLaw_428 : decode code 428 = .ok (.aload_n 2, 1) := by decide +kernel
theorem dLaw_429 : decode code 429 = .ok (.aload_n 0, 1) := by decide +kernel
theorem dLaw_430 : decode code 430 = .ok (.iload_n 3, 1) := by decide +kernel
theorem dLaw_431 : decode code 431 = .ok (.iconst 1, 1) := by decide +kernel
theorem dLaw_432 : decode code 432 = .ok (.iadd, 1) := by decide +kernel
theorem dLaw_433 : decode code 433 = .ok (.iaload, 1) := by decide +kernel
theorem dLaw_434 : decode code 434 = .ok (.aload_n 0, 1) := by decide +kernel
theorem dLaw_435 : decode code 435 = .ok (.iload_n 3, 1) := by decide +kernel
theorem dLaw_436 : decode code 436 = .ok (.iconst 2, 1) := by decide +kernel
theorem dLaw_437 : decode code 437 = .ok (.iadd, 1) := by decide +kernel
theorem dLaw_438 : decode code 438 = .ok (.iaload, 1) := by decide +kernel
theorem dLaw_439 : decode code 439 = .ok (.aload_n 0, 1) := by decide +kernel
theorem dLaw_440 : decode code 440 = .ok (.iload_n 3, 1) := by decide +kernel
theorem dLaw_441 : decode code 441 = .ok (.iconst 3, 1) := by decide +kernel
theorem dLaw_442 : decode code 442 = .ok (.iadd, 1) := by decide +kernel
theorem dLaw_443 : decode code 443 = .ok (.iaload, 1) := by decide +kernel
theorem dLaw_444 : decode code 444 = .ok (.invokevirtual 54, 3) := by decide +kernel
theorem dLaw_447 : decode code 447 = .ok (.pop, 1) := by decide +kernel
theorem dLaw_448 : decode code 448 = .ok (.goto 528, 3) := by decide +kernel
theorem dLaw_451 : decode code 451 = .ok (.aload_n 1, 1) := by decide +kernel
theorem dLaw_452 : decode code 452 = .ok (.aload_n 0, 1) := by decide +kernel
theorem dLaw_453 : decode code 453 = .ok (.iload_n 3, 1) := by decide +kernel
theorem dLaw_454 : decode code 454 = .ok (.iconst 1, 1) := by decide +kernel
theorem dLaw_455 : decode code 455 = .ok (.iadd, 1) := by decide +kernel
theorem dLaw_456 : decode code 456 = .ok (.iaload, 1) := by decide +kernel
theorem dLaw_457 : decode code 457 = .ok (.aload_n 0, 1) := by decide +kernel
theorem dLaw_458 : decode code 458 = .ok (.iload_n 3, 1) := by decide +kernel
theorem dLaw_459 : decode code 459 = .ok (.iconst 2, 1) := by decide +kernel
theorem dLaw_460 : decode code 460 = .ok (.iadd, 1) := by decide +kernel
theorem dLaw_461 : decode code 461 = .ok (.iaload, 1) := by decide +kernel
theorem dLaw_462 : decode code 462 = .ok (.invokevirtual 55, 3) := by decide +kernel
theorem dLaw_465 : decode code 465 = .ok (.pop, 1) := by decide +kernel
theorem dLaw_466 : decode code 466 = .ok (.aload_n 2, 1) := by decide +kernel
theorem dLaw_467 : decode code 467 = .ok (.aload_n 0, 1) := by decide +kernel
theorem dLaw_468 : decode code 468 = .ok (.iload_n 3, 1) := by decide +kernel
theorem dLaw_469 : decode code 469 = .ok (.iconst 1, 1) := by decide +kernel
theorem dLaw_470 : decode code 470 = .ok (.iadd, 1) := by decide +kernel
theorem dLaw_471 : decode code 471 = .ok (.iaload, 1) := by decide +kernel
theorem dLaw_472 : decode code 472 = .ok (.aload_n 0, 1) := by decide +kernel
theorem dLaw_473 : decode code 473 = .ok (.iload_n 3, 1) := by decide +kernel
theorem dLaw_474 : decode code 474 = .ok (.iconst 2, 1) := by decide +kernel
theorem dLaw_475 : decode code 475 = .ok (.iadd, 1) := by decide +kernel
theorem dLaw_476 : decode code 476 = .ok (.iaload, 1) := by decide +kernel
theorem dLaw_477 : decode code 477 = .ok (.invokevirtual 58, 3) := by decide +kernel
theorem dLaw_480 : decode code 480 = .ok (.pop, 1) := by decide +kernel
theorem dLaw_481 : decode code 481 = .ok (.goto 495, 3) := by decide +kernel
theorem dLaw_484 : decode code 484 = .ok (.aload_n 1, 1) := by decide +kernel
theorem dLaw_485 : decode code 485 = .ok (.aload_n 0, 1) := by decide +kernel
theorem dLaw_486 : decode code 486 = .ok (.iload_n 3, 1) := by decide +kernel
theorem dLaw_487 : decode code 487 = .ok (.iconst 1, 1) := by decide +kernel
theorem dLaw_488 : decode code 488 = .ok (.iadd, 1) := by decide +kernel
theorem dLaw_489 : decode code 489 = .ok (.iaload, 1) := by decide +kernel
theorem dLaw_490 : decode code 490 = .ok (.aload_n 0, 1) := by decide +kernel
theorem dLaw_491 : decode code 491 = .ok (.iload_n 3, 1) := by decide +kernel
theorem dLaw_492 : decode code 492 = .ok (.iconst 2, 1) := by decide +kernel
theorem dLaw_493 : decode code 493 = .ok (.iadd, 1) := by decide +kernel
theorem dLaw_494 : decode code 494 = .ok (.iaload, 1) := by decide +kernel
theorem dLaw_495 : decode code 495 = .ok (.aload_n 0, 1) := by decide +kernel
theorem dLaw_496 : decode code 496 = .ok (.iload_n 3, 1) := by decide +kernel
theorem dLaw_497 : decode code 497 = .ok (.iconst 3, 1) := by decide +kernel
theorem dLaw_498 : decode code 498 = .ok (.iadd, 1) := by decide +kernel
theorem dLaw_499 : decode code 499 = .ok (.iaload, 1) := by decide +kernel
theorem dLaw_500 : decode code 500 = .ok (.invokevirtual 59, 3) := by decide +kernel
theorem dLaw_503 : decode code 503 = .ok (.pop, 1) := by decide +kernel
theorem dLaw_504 : decode code 504 = .ok (.aload_n 2, 1) := by decide +kernel
theorem dLaw_505 : decode code 505 = .ok (.aload_n 0, 1) := by decide +kernel
theorem dLaw_506 : decode code 506 = .ok (.iload_n 3, 1) := by decide +kernel
theorem dLaw_507 : decode code 507 = .ok (.iconst 1, 1) := by decide +kernel
theorem dLaw_508 : decode code 508 = .ok (.iadd, 1) := by decide +kernel
theorem dLaw_509 : decode code 509 = .ok (.iaload, 1) := by decide +kernel
theorem dLaw_510 : decode code 510 = .ok (.aload_n 0, 1) := by decide +kernel
theorem dLaw_511 : decode code 511 = .ok (.iload_n 3, 1) := by decide +kernel
theorem dLaw_512 : decode code 512 = .ok (.iconst 2, 1) := by decide +kernel
theorem dLaw_513 : decode code 513 = .ok (.iadd, 1) := by decide +kernel
theorem dLaw_514 : decode code 514 = .ok (.iaload, 1) := by decide +kernel
theorem dLaw_515 : decode code 515 = .ok (.aload_n 0, 1) := by decide +kernel
theorem dLaw_516 : decode code 516 = .ok (.iload_n 3, 1) := by decide +kernel
theorem dLaw_517 : decode code 517 = .ok (.iconst 3, 1) := by decide +kernel
theorem dLaw_518 : decode code 518 = .ok (.iadd, 1) := by decide +kernel
theorem dLaw_519 : decode code 519 = .ok (.iaload, 1) := by decide +kernel
theorem dLaw_520 : decode code 520 = .ok (.invokevirtual 62, 3) := by decide +kernel
theorem dLaw_523 : decode code 523 = .ok (.pop, 1) := by decide +kernel
theorem dLaw_524 : decode code 524 = .ok (.goto 452, 3) := by decide +kernel
theorem dLaw_527 : decode code 527 = .ok (.aload_n 1, 1) := by decide +kernel
theorem dLaw_528 : decode code 528 = .ok (.aload_n 0, 1) := by decide +kernel
theorem dLaw_529 : decode code 529 = .ok (.iload_n 3, 1) := by decide +kernel
theorem dLaw_530 : decode code 530 = .ok (.iconst 1, 1) := by decide +kernel
theorem dLaw_531 : decode code 531 = .ok (.iadd, 1) := by decide +kernel
theorem dLaw_532 : decode code 532 = .ok (.iaload, 1) := by decide +kernel
theorem dLaw_533 : decode code 533 = .ok (.invokevirtual 63, 3) := by decide +kernel
theorem dLaw_536 : decode code 536 = .ok (.pop, 1) := by decide +kernel
theorem dLaw_537 : decode code 537 = .ok (.aload_n 2, 1) := by decide +kernel
theorem dLaw_538 : decode code 538 = .ok (.aload_n 0, 1) := by decide +kernel
theorem dLaw_539 : decode code 539 = .ok (.iload_n 3, 1) := by decide +kernel
theorem dLaw_540 : decode code 540 = .ok (.iconst 1, 1) := by decide +kernel
theorem dLaw_541 : decode code 541 = .ok (.iadd, 1) := by decide +kernel
theorem dLaw_542 : decode code 542 = .ok (.iaload, 1) := by decide +kernel
theorem dLaw_543 : decode code 543 = .ok (.invokevirtual 67, 3) := by decide +kernel
theorem dLaw_546 : decode code 546 = .ok (.pop, 1) := by decide +kernel
theorem dLaw_547 : decode code 547 = .ok (.goto 429, 3) := by decide +kernel
theorem dLaw_550 : decode code 550 = .ok (.aload_n 1, 1) := by decide +kernel
theorem dLaw_551 : decode code 551 = .ok (.aload_n 0, 1) := by decide +kernel
theorem dLaw_552 : decode code 552 = .ok (.iload_n 3, 1) := by decide +kernel
theorem dLaw_553 : decode code 553 = .ok (.iconst 1, 1) := by decide +kernel
theorem dLaw_554 : decode code 554 = .ok (.iadd, 1) := by decide +kernel
theorem dLaw_555 : decode code 555 = .ok (.iaload, 1) := by decide +kernel
theorem dLaw_556 : decode code 556 = .ok (.invokevirtual 68, 3) := by decide +kernel
theorem dLaw_559 : decode code 559 = .ok (.pop, 1) := by decide +kernel
theorem dLaw_560 : decode code 560 = .ok (.aload_n 2, 1) := by decide +kernel
theorem dLaw_561 : decode code 561 = .ok (.aload_n 0, 1) := by decide +kernel
theorem dLaw_562 : decode code 562 = .ok (.iload_n 3, 1) := by decide +kernel
theorem dLaw_563 : decode code 563 = .ok (.iconst 1, 1) := by decide +kernel
theorem dLaw_564 : decode code 564 = .ok (.iadd, 1) := by decide +kernel
theorem dLaw_565 : decode code 565 = .ok (.iaload, 1) := by decide +kernel
theorem dLaw_566 : decode code 566 = .ok (.invokevirtual 71, 3) := by decide +kernel
theorem dLaw_569 : decode code 569 = .ok (.pop, 1) := by decide +kernel
theorem dLaw_570 : decode code 570 = .ok (.goto 406, 3) := by decide +kernel
theorem dLaw_573 : decode code 573 = .ok (.aload_n 1, 1) := by decide +kernel
theorem dLaw_574 : decode code 574 = .ok (.aload_n 0, 1) := by decide +kernel
theorem dLaw_575 : decode code 575 = .ok (.iload_n 3, 1) := by decide +kernel
theorem dLaw_576 : decode code 576 = .ok (.iconst 1, 1) := by decide +kernel
theorem dLaw_577 : decode code 577 = .ok (.iadd, 1) := by decide +kernel
theorem dLaw_578 : decode code 578 = .ok (.iaload, 1) := by decide +kernel
theorem dLaw_579 : decode code 579 = .ok (.aload_n 0, 1) := by decide +kernel
theorem dLaw_580 : decode code 580 = .ok (.iload_n 3, 1) := by decide +kernel
theorem dLaw_581 : decode code 581 = .ok (.iconst 2, 1) := by decide +kernel
theorem dLaw_582 : decode code 582 = .ok (.iadd, 1) := by decide +kernel
theorem dLaw_583 : decode code 583 = .ok (.iaload, 1) := by decide +kernel
theorem dLaw_584 : decode code 584 = .ok (.aload_n 0, 1) := by decide +kernel
theorem dLaw_585 : decode code 585 = .ok (.iload_n 3, 1) := by decide +kernel
theorem dLaw_586 : decode code 586 = .ok (.iconst 3, 1) := by decide +kernel
theorem dLaw_587 : decode code 587 = .ok (.iadd, 1) := by decide +kernel
theorem dLaw_588 : decode code 588 = .ok (.iaload, 1) := by decide +kernel
theorem dLaw_589 : decode code 589 = .ok (.invokevirtual 72, 3) := by decide +kernel
theorem dLaw_592 : decode code 592 = .ok (.pop, 1) := by decide +kernel
theorem dLaw_593 : decode code 593 = .ok (.aload_n 2, 1) := by decide +kernel
theorem dLaw_594 : decode code 594 = .ok (.aload_n 0, 1) := by decide +kernel
theorem dLaw_595 : decode code 595 = .ok (.iload_n 3, 1) := by decide +kernel
theorem dLaw_596 : decode code 596 = .ok (.iconst 1, 1) := by decide +kernel
theorem dLaw_597 : decode code 597 = .ok (.iadd, 1) := by decide +kernel
theorem dLaw_598 : decode code 598 = .ok (.iaload, 1) := by decide +kernel
theorem dLaw_599 : decode code 599 = .ok (.aload_n 0, 1) := by decide +kernel
theorem dLaw_600 : decode code 600 = .ok (.iload_n 3, 1) := by decide +kernel
theorem dLaw_601 : decode code 601 = .ok (.iconst 2, 1) := by decide +kernel
theorem dLaw_602 : decode code 602 = .ok (.iadd, 1) := by decide +kernel
theorem dLaw_603 : decode code 603 = .ok (.iaload, 1) := by decide +kernel
theorem dLaw_604 : decode code 604 = .ok (.aload_n 0, 1) := by decide +kernel
theorem dLaw_605 : decode code 605 = .ok (.iload_n 3, 1) := by decide +kernel
theorem dLaw_606 : decode code 606 = .ok (.iconst 3, 1) := by decide +kernel
theorem dLaw_607 : decode code 607 = .ok (.iadd, 1) := by decide +kernel
theorem dLaw_608 : decode code 608 = .ok (.iaload, 1) := by decide +kernel
theorem dLaw_609 : decode code 609 = .ok (.invokevirtual 75, 3) := by decide +kernel
theorem dLaw_612 : decode code 612 = .ok (.pop, 1) := by decide +kernel
theorem dLaw_613 : decode code 613 = .ok (.goto 363, 3) := by decide +kernel
theorem dLaw_616 : decode code 616 = .ok (.aload_n 1, 1) := by decide +kernel
theorem dLaw_617 : decode code 617 = .ok (.aload_n 0, 1) := by decide +kernel
theorem dLaw_618 : decode code 618 = .ok (.iload_n 3, 1) := by decide +kernel
theorem dLaw_619 : decode code 619 = .ok (.iconst 1, 1) := by decide +kernel
theorem dLaw_620 : decode code 620 = .ok (.iadd, 1) := by decide +kernel
theorem dLaw_621 : decode code 621 = .ok (.iaload, 1) := by decide +kernel
theorem dLaw_622 : decode code 622 = .ok (.invokevirtual 76, 3) := by decide +kernel
theorem dLaw_625 : decode code 625 = .ok (.pop2, 1) := by decide +kernel
theorem dLaw_626 : decode code 626 = .ok (.aload_n 2, 1) := by decide +kernel
theorem dLaw_627 : decode code 627 = .ok (.aload_n 0, 1) := by decide +kernel
theorem dLaw_628 : decode code 628 = .ok (.iload_n 3, 1) := by decide +kernel
theorem dLaw_629 : decode code 629 = .ok (.iconst 1, 1) := by decide +kernel
theorem dLaw_630 : decode code 630 = .ok (.iadd, 1) := by decide +kernel
theorem dLaw_631 : decode code 631 = .ok (.iaload, 1) := by decide +kernel
theorem dLaw_632 : decode code 632 = .ok (.invokevirtual 80, 3) := by decide +kernel
theorem dLaw_635 : decode code 635 = .ok (.pop2, 1) := by decide +kernel
theorem dLaw_636 : decode code 636 = .ok (.goto 340, 3) := by decide +kernel
theorem dLaw_639 : decode code 639 = .ok (.aload_n 1, 1) := by decide +kernel
theorem dLaw_640 : decode code 640 = .ok (.aload_n 0, 1) := by decide +kernel
theorem dLaw_641 : decode code 641 = .ok (.iload_n 3, 1) := by decide +kernel
theorem dLaw_642 : decode code 642 = .ok (.iconst 1, 1) := by decide +kernel
theorem dLaw_643 : decode code 643 = .ok (.iadd, 1) := by decide +kernel
theorem dLaw_644 : decode code 644 = .ok (.iaload, 1) := by decide +kernel
theorem dLaw_645 : decode code 645 = .ok (.aload_n 0, 1) := by decide +kernel
theorem dLaw_646 : decode code 646 = .ok (.iload_n 3, 1) := by decide +kernel
theorem dLaw_647 : decode code 647 = .ok (.iconst 2, 1) := by decide +kernel
theorem dLaw_648 : decode code 648 = .ok (.iadd, 1) := by decide +kernel
theorem dLaw_649 : decode code 649 = .ok (.iaload, 1) := by decide +kernel
theorem dLaw_650 : decode code 650 = .ok (.aload_n 0, 1) := by decide +kernel
theorem dLaw_651 : decode code 651 = .ok (.iload_n 3, 1) := by decide +kernel
theorem dLaw_652 : decode code 652 = .ok (.iconst 3, 1) := by decide +kernel
theorem dLaw_653 : decode code 653 = .ok (.iadd, 1) := by decide +kernel
theorem dLaw_654 : decode code 654 = .ok (.iaload, 1) := by decide +kernel
theorem dLaw_655 : decode code 655 = .ok (.invokevirtual 81, 3) := by decide +kernel
theorem dLaw_658 : decode code 658 = .ok (.pop, 1) := by decide +kernel
theorem dLaw_659 : decode code 659 = .ok (.aload_n 2, 1) := by decide +kernel
theorem dLaw_660 : decode code 660 = .ok (.aload_n 0, 1) := by decide +kernel
theorem dLaw_661 : decode code 661 = .ok (.iload_n 3, 1) := by decide +kernel
theorem dLaw_662 : decode code 662 = .ok (.iconst 1, 1) := by decide +kernel
theorem dLaw_663 : decode code 663 = .ok (.iadd, 1) := by decide +kernel
theorem dLaw_664 : decode code 664 = .ok (.iaload, 1) := by decide +kernel
theorem dLaw_665 : decode code 665 = .ok (.aload_n 0, 1) := by decide +kernel
theorem dLaw_666 : decode code 666 = .ok (.iload_n 3, 1) := by decide +kernel
theorem dLaw_667 : decode code 667 = .ok (.iconst 2, 1) := by decide +kernel
theorem dLaw_668 : decode code 668 = .ok (.iadd, 1) := by decide +kernel
theorem dLaw_669 : decode code 669 = .ok (.iaload, 1) := by decide +kernel
theorem dLaw_670 : decode code 670 = .ok (.aload_n 0, 1) := by decide +kernel
theorem dLaw_671 : decode code 671 = .ok (.iload_n 3, 1) := by decide +kernel
theorem dLaw_672 : decode code 672 = .ok (.iconst 3, 1) := by decide +kernel
theorem dLaw_673 : decode code 673 = .ok (.iadd, 1) := by decide +kernel
theorem dLaw_674 : decode code 674 = .ok (.iaload, 1) := by decide +kernel
theorem dLaw_675 : decode code 675 = .ok (.invokevirtual 84, 3) := by decide +kernel
theorem dLaw_678 : decode code 678 = .ok (.pop, 1) := by decide +kernel
theorem dLaw_679 : decode code 679 = .ok (.goto 297, 3) := by decide +kernel
theorem dLaw_682 : decode code 682 = .ok (.aload_n 1, 1) := by decide +kernel
theorem dLaw_683 : decode code 683 = .ok (.aload_n 0, 1) := by decide +kernel
theorem dLaw_684 : decode code 684 = .ok (.iload_n 3, 1) := by decide +kernel
theorem dLaw_685 : decode code 685 = .ok (.iconst 1, 1) := by decide +kernel
theorem dLaw_686 : decode code 686 = .ok (.iadd, 1) := by decide +kernel
theorem dLaw_687 : decode code 687 = .ok (.iaload, 1) := by decide +kernel
theorem dLaw_688 : decode code 688 = .ok (.aload_n 0, 1) := by decide +kernel
theorem dLaw_689 : decode code 689 = .ok (.iload_n 3, 1) := by decide +kernel
theorem dLaw_690 : decode code 690 = .ok (.iconst 2, 1) := by decide +kernel
theorem dLaw_691 : decode code 691 = .ok (.iadd, 1) := by decide +kernel
theorem dLaw_692 : decode code 692 = .ok (.iaload, 1) := by decide +kernel
theorem dLaw_693 : decode code 693 = .ok (.aload_n 0, 1) := by decide +kernel
theorem dLaw_694 : decode code 694 = .ok (.iload_n 3, 1) := by decide +kernel
theorem dLaw_695 : decode code 695 = .ok (.iconst 3, 1) := by decide +kernel
theorem dLaw_696 : decode code 696 = .ok (.iadd, 1) := by decide +kernel
theorem dLaw_697 : decode code 697 = .ok (.iaload, 1) := by decide +kernel
theorem dLaw_698 : decode code 698 = .ok (.invokevirtual 85, 3) := by decide +kernel
theorem dLaw_701 : decode code 701 = .ok (.pop, 1) := by decide +kernel
theorem dLaw_702 : decode code 702 = .ok (.aload_n 2, 1) := by decide +kernel
theorem dLaw_703 : decode code 703 = .ok (.aload_n 0, 1) := by decide +kernel
theorem dLaw_704 : decode code 704 = .ok (.iload_n 3, 1) := by decide +kernel
theorem dLaw_705 : decode code 705 = .ok (.iconst 1, 1) := by decide +kernel
theorem dLaw_706 : decode code 706 = .ok (.iadd, 1) := by decide +kernel
theorem dLaw_707 : decode code 707 = .ok (.iaload, 1) := by decide +kernel
theorem dLaw_708 : decode code 708 = .ok (.aload_n 0, 1) := by decide +kernel
theorem dLaw_709 : decode code 709 = .ok (.iload_n 3, 1) := by decide +kernel
theorem dLaw_710 : decode code 710 = .ok (.iconst 2, 1) := by decide +kernel
theorem dLaw_711 : decode code 711 = .ok (.iadd, 1) := by decide +kernel
theorem dLaw_712 : decode code 712 = .ok (.iaload, 1) := by decide +kernel
theorem dLaw_713 : decode code 713 = .ok (.aload_n 0, 1) := by decide +kernel
theorem dLaw_714 : decode code 714 = .ok (.iload_n 3, 1) := by decide +kernel
theorem dLaw_715 : decode code 715 = .ok (.iconst 3, 1) := by decide +kernel
theorem dLaw_716 : decode code 716 = .ok (.iadd, 1) := by decide +kernel
theorem dLaw_717 : decode code 717 = .ok (.iaload, 1) := by decide +kernel
theorem dLaw_718 : decode code 718 = .ok (.invokevirtual 88, 3) := by decide +kernel
theorem dLaw_721 : decode code 721 = .ok (.pop, 1) := by decide +kernel
theorem dLaw_722 : decode code 722 = .ok (.goto 254, 3) := by decide +kernel
theorem dLaw_725 : decode code 725 = .ok (.aload_n 1, 1) := by decide +kernel
theorem dLaw_726 : decode code 726 = .ok (.aload_n 0, 1) := by decide +kernel
theorem dLaw_727 : decode code 727 = .ok (.iload_n 3, 1) := by decide +kernel
theorem dLaw_728 : decode code 728 = .ok (.iconst 1, 1) := by decide +kernel
theorem dLaw_729 : decode code 729 = .ok (.iadd, 1) := by decide +kernel
theorem dLaw_730 : decode code 730 = .ok (.iaload, 1) := by decide +kernel
theorem dLaw_731 : decode code 731 = .ok (.aload_n 0, 1) := by decide +kernel
theorem dLaw_732 : decode code 732 = .ok (.iload_n 3, 1) := by decide +kernel
theorem dLaw_733 : decode code 733 = .ok (.iconst 2, 1) := by decide +kernel
theorem dLaw_734 : decode code 734 = .ok (.iadd, 1) := by decide +kernel
theorem dLaw_735 : decode code 735 = .ok (.iaload, 1) := by decide +kernel
theorem dLaw_736 : decode code 736 = .ok (.aload_n 0, 1) := by decide +kernel
theorem dLaw_737 : decode code 737 = .ok (.iload_n 3, 1) := by decide +kernel
theorem dLaw_738 : decode code 738 = .ok (.iconst 3, 1) := by decide +kernel
theorem dLaw_739 : decode code 739 = .ok (.iadd, 1) := by decide +kernel
theorem dLaw_740 : decode code 740 = .ok (.iaload, 1) := by decide +kernel
theorem dLaw_741 : decode code 741 = .ok (.invokevirtual 89, 3) := by decide +kernel
theorem dLaw_744 : decode code 744 = .ok (.pop, 1) := by decide +kernel
theorem dLaw_745 : decode code 745 = .ok (.aload_n 2, 1) := by decide +kernel
theorem dLaw_746 : decode code 746 = .ok (.aload_n 0, 1) := by decide +kernel
theorem dLaw_747 : decode code 747 = .ok (.iload_n 3, 1) := by decide +kernel
theorem dLaw_748 : decode code 748 = .ok (.iconst 1, 1) := by decide +kernel
theorem dLaw_749 : decode code 749 = .ok (.iadd, 1) := by decide +kernel
theorem dLaw_750 : decode code 750 = .ok (.iaload, 1) := by decide +kernel
theorem dLaw_751 : decode code 751 = .ok (.aload_n 0, 1) := by decide +kernel
theorem dLaw_752 : decode code 752 = .ok (.iload_n 3, 1) := by decide +kernel
theorem dLaw_753 : decode code 753 = .ok (.iconst 2, 1) := by decide +kernel
theorem dLaw_754 : decode code 754 = .ok (.iadd, 1) := by decide +kernel
theorem dLaw_755 : decode code 755 = .ok (.iaload, 1) := by decide +kernel
theorem dLaw_756 : decode code 756 = .ok (.aload_n 0, 1) := by decide +kernel
theorem dLaw_757 : decode code 757 = .ok (.iload_n 3, 1) := by decide +kernel
theorem dLaw_758 : decode code 758 = .ok (.iconst 3, 1) := by decide +kernel
theorem dLaw_759 : decode code 759 = .ok (.iadd, 1) := by decide +kernel
theorem dLaw_760 : decode code 760 = .ok (.iaload, 1) := by decide +kernel
theorem dLaw_761 : decode code 761 = .ok (.invokevirtual 92, 3) := by decide +kernel
theorem dLaw_764 : decode code 764 = .ok (.pop, 1) := by decide +kernel
theorem dLaw_765 : decode code 765 = .ok (.goto 211, 3) := by decide +kernel
theorem dLaw_768 : decode code 768 = .ok (.aload_n 1, 1) := by decide +kernel
theorem dLaw_769 : decode code 769 = .ok (.aload_n 0, 1) := by decide +kernel
theorem dLaw_770 : decode code 770 = .ok (.iload_n 3, 1) := by decide +kernel
theorem dLaw_771 : decode code 771 = .ok (.iconst 1, 1) := by decide +kernel
theorem dLaw_772 : decode code 772 = .ok (.iadd, 1) := by decide +kernel
theorem dLaw_773 : decode code 773 = .ok (.iaload, 1) := by decide +kernel
theorem dLaw_774 : decode code 774 = .ok (.aload_n 0, 1) := by decide +kernel
theorem dLaw_775 : decode code 775 = .ok (.iload_n 3, 1) := by decide +kernel
theorem dLaw_776 : decode code 776 = .ok (.iconst 2, 1) := by decide +kernel
theorem dLaw_777 : decode code 777 = .ok (.iadd, 1) := by decide +kernel
theorem dLaw_778 : decode code 778 = .ok (.iaload, 1) := by decide +kernel
theorem dLaw_779 : decode code 779 = .ok (.aload_n 0, 1) := by decide +kernel
theorem dLaw_780 : decode code 780 = .ok (.iload_n 3, 1) := by decide +kernel
theorem dLaw_781 : decode code 781 = .ok (.iconst 3, 1) := by decide +kernel
theorem dLaw_782 : decode code 782 = .ok (.iadd, 1) := by decide +kernel
theorem dLaw_783 : decode code 783 = .ok (.iaload, 1) := by decide +kernel
theorem dLaw_784 : decode code 784 = .ok (.invokevirtual 93, 3) := by decide +kernel
theorem dLaw_787 : decode code 787 = .ok (.pop2, 1) := by decide +kernel
theorem dLaw_788 : decode code 788 = .ok (.aload_n 2, 1) := by decide +kernel
theorem dLaw_789 : decode code 789 = .ok (.aload_n 0, 1) := by decide +kernel
theorem dLaw_790 : decode code 790 = .ok (.iload_n 3, 1) := by decide +kernel
theorem dLaw_791 : decode code 791 = .ok (.iconst 1, 1) := by decide +kernel
theorem dLaw_792 : decode code 792 = .ok (.iadd, 1) := by decide +kernel
theorem dLaw_793 : decode code 793 = .ok (.iaload, 1) := by decide +kernel
theorem dLaw_794 : decode code 794 = .ok (.aload_n 0, 1) := by decide +kernel
theorem dLaw_795 : decode code 795 = .ok (.iload_n 3, 1) := by decide +kernel
theorem dLaw_796 : decode code 796 = .ok (.iconst 2, 1) := by decide +kernel
theorem dLaw_797 : decode code 797 = .ok (.iadd, 1) := by decide +kernel
theorem dLaw_798 : decode code 798 = .ok (.iaload, 1) := by decide +kernel
theorem dLaw_799 : decode code 799 = .ok (.aload_n 0, 1) := by decide +kernel
theorem dLaw_800 : decode code 800 = .ok (.iload_n 3, 1) := by decide +kernel
theorem dLaw_801 : decode code 801 = .ok (.iconst 3, 1) := by decide +kernel
theorem dLaw_802 : decode code 802 = .ok (.iadd, 1) := by decide +kernel
theorem dLaw_803 : decode code 803 = .ok (.iaload, 1) := by decide +kernel
theorem dLaw_804 : decode code 804 = .ok (.invokevirtual 97, 3) := by decide +kernel
theorem dLaw_807 : decode code 807 = .ok (.pop2, 1) := by decide +kernel
theorem dLaw_808 : decode code 808 = .ok (.goto 168, 3) := by decide +kernel
theorem dLaw_811 : decode code 811 = .ok (.aload_n 1, 1) := by decide +kernel
theorem dLaw_812 : decode code 812 = .ok (.aload_n 0, 1) := by decide +kernel
theorem dLaw_813 : decode code 813 = .ok (.iload_n 3, 1) := by decide +kernel
theorem dLaw_814 : decode code 814 = .ok (.iconst 1, 1) := by decide +kernel
theorem dLaw_815 : decode code 815 = .ok (.iadd, 1) := by decide +kernel
theorem dLaw_816 : decode code 816 = .ok (.iaload, 1) := by decide +kernel
theorem dLaw_817 : decode code 817 = .ok (.aload_n 0, 1) := by decide +kernel
theorem dLaw_818 : decode code 818 = .ok (.iload_n 3, 1) := by decide +kernel
theorem dLaw_819 : decode code 819 = .ok (.iconst 2, 1) := by decide +kernel
theorem dLaw_820 : decode code 820 = .ok (.iadd, 1) := by decide +kernel
theorem dLaw_821 : decode code 821 = .ok (.iaload, 1) := by decide +kernel
theorem dLaw_822 : decode code 822 = .ok (.invokevirtual 98, 3) := by decide +kernel
theorem dLaw_825 : decode code 825 = .ok (.pop, 1) := by decide +kernel
theorem dLaw_826 : decode code 826 = .ok (.aload_n 2, 1) := by decide +kernel
theorem dLaw_827 : decode code 827 = .ok (.aload_n 0, 1) := by decide +kernel
theorem dLaw_828 : decode code 828 = .ok (.iload_n 3, 1) := by decide +kernel
theorem dLaw_829 : decode code 829 = .ok (.iconst 1, 1) := by decide +kernel
theorem dLaw_830 : decode code 830 = .ok (.iadd, 1) := by decide +kernel
theorem dLaw_831 : decode code 831 = .ok (.iaload, 1) := by decide +kernel
theorem dLaw_832 : decode code 832 = .ok (.aload_n 0, 1) := by decide +kernel
theorem dLaw_833 : decode code 833 = .ok (.iload_n 3, 1) := by decide +kernel
theorem dLaw_834 : decode code 834 = .ok (.iconst 2, 1) := by decide +kernel
theorem dLaw_835 : decode code 835 = .ok (.iadd, 1) := by decide +kernel
theorem dLaw_836 : decode code 836 = .ok (.iaload, 1) := by decide +kernel
theorem dLaw_837 : decode code 837 = .ok (.invokevirtual 101, 3) := by decide +kernel
theorem dLaw_840 : decode code 840 = .ok (.pop, 1) := by decide +kernel
theorem dLaw_841 : decode code 841 = .ok (.goto 135, 3) := by decide +kernel
theorem dLaw_844 : decode code 844 = .ok (.aload_n 1, 1) := by decide +kernel
theorem dLaw_845 : decode code 845 = .ok (.aload_n 0, 1) := by decide +kernel
theorem dLaw_846 : decode code 846 = .ok (.iload_n 3, 1) := by decide +kernel
theorem dLaw_847 : decode code 847 = .ok (.iconst 1, 1) := by decide +kernel
theorem dLaw_848 : decode code 848 = .ok (.iadd, 1) := by decide +kernel
theorem dLaw_849 : decode code 849 = .ok (.iaload, 1) := by decide +kernel
theorem dLaw_850 : decode code 850 = .ok (.aload_n 0, 1) := by decide +kernel
theorem dLaw_851 : decode code 851 = .ok (.iload_n 3, 1) := by decide +kernel
theorem dLaw_852 : decode code 852 = .ok (.iconst 2, 1) := by decide +kernel
theorem dLaw_853 : decode code 853 = .ok (.iadd, 1) := by decide +kernel
theorem dLaw_854 : decode code 854 = .ok (.iaload, 1) := by decide +kernel
theorem dLaw_855 : decode code 855 = .ok (.invokevirtual 102, 3) := by decide +kernel
theorem dLaw_858 : decode code 858 = .ok (.pop2, 1) := by decide +kernel
theorem dLaw_859 : decode code 859 = .ok (.aload_n 2, 1) := by decide +kernel
theorem dLaw_860 : decode code 860 = .ok (.aload_n 0, 1) := by decide +kernel
theorem dLaw_861 : decode code 861 = .ok (.iload_n 3, 1) := by decide +kernel
theorem dLaw_862 : decode code 862 = .ok (.iconst 1, 1) := by decide +kernel
theorem dLaw_863 : decode code 863 = .ok (.iadd, 1) := by decide +kernel
theorem dLaw_864 : decode code 864 = .ok (.iaload, 1) := by decide +kernel
theorem dLaw_865 : decode code 865 = .ok (.aload_n 0, 1) := by decide +kernel
theorem dLaw_866 : decode code 866 = .ok (.iload_n 3, 1) := by decide +kernel
theorem dLaw_867 : decode code 867 = .ok (.iconst 2, 1) := by decide +kernel
theorem dLaw_868 : decode code 868 = .ok (.iadd, 1) := by decide +kernel
theorem dLaw_869 : decode code 869 = .ok (.iaload, 1) := by decide +kernel
theorem dLaw_870 : decode code 870 = .ok (.invokevirtual 106, 3) := by decide +kernel
theorem dLaw_873 : decode code 873 = .ok (.pop2, 1) := by decide +kernel
theorem dLaw_874 : decode code 874 = .ok (.goto 102, 3) := by decide +kernel
theorem dLaw_877 : decode code 877 = .ok (.aload_n 1, 1) := by decide +kernel
theorem dLaw_878 : decode code 878 = .ok (.aload_n 0, 1) := by decide +kernel
theorem dLaw_879 : decode code 879 = .ok (.iload_n 3, 1) := by decide +kernel
theorem dLaw_880 : decode code 880 = .ok (.iconst 1, 1) := by decide +kernel
theorem dLaw_881 : decode code 881 = .ok (.iadd, 1) := by decide +kernel
theorem dLaw_882 : decode code 882 = .ok (.iaload, 1) := by decide +kernel
theorem dLaw_883 : decode code 883 = .ok (.invokevirtual 107, 3) := by decide +kernel
theorem dLaw_886 : decode code 886 = .ok (.pop2, 1) := by decide +kernel
theorem dLaw_887 : decode code 887 = .ok (.aload_n 2, 1) := by decide +kernel
theorem dLaw_888 : decode code 888 = .ok (.aload_n 0, 1) := by decide +kernel
theorem dLaw_889 : decode code 889 = .ok (.iload_n 3, 1) := by decide +kernel
theorem dLaw_890 : decode code 890 = .ok (.iconst 1, 1) := by decide +kernel
theorem dLaw_891 : decode code 891 = .ok (.iadd, 1) := by decide +kernel
theorem dLaw_892 : decode code 892 = .ok (.iaload, 1) := by decide +kernel
theorem dLaw_893 : decode code 893 = .ok (.invokevirtual 110, 3) := by decide +kernel
theorem dLaw_896 : decode code 896 = .ok (.pop2, 1) := by decide +kernel
theorem dLaw_897 : decode code 897 = .ok (.goto 79, 3) := by decide +kernel
theorem dLaw_900 : decode code 900 = .ok (.aload_n 1, 1) := by decide +kernel
theorem dLaw_901 : decode code 901 = .ok (.aload_n 0, 1) := by decide +kernel
theorem dLaw_902 : decode code 902 = .ok (.iload_n 3, 1) := by decide +kernel
theorem dLaw_903 : decode code 903 = .ok (.iconst 1, 1) := by decide +kernel
theorem dLaw_904 : decode code 904 = .ok (.iadd, 1) := by decide +kernel
theorem dLaw_905 : decode code 905 = .ok (.iaload, 1) := by decide +kernel
theorem dLaw_906 : decode code 906 = .ok (.aload_n 0, 1) := by decide +kernel
theorem dLaw_907 : decode code 907 = .ok (.iload_n 3, 1) := by decide +kernel
theorem dLaw_908 : decode code 908 = .ok (.iconst 2, 1) := by decide +kernel
theorem dLaw_909 : decode code 909 = .ok (.iadd, 1) := by decide +kernel
theorem dLaw_910 : decode code 910 = .ok (.iaload, 1) := by decide +kernel
theorem dLaw_911 : decode code 911 = .ok (.aload_n 0, 1) := by decide +kernel
theorem dLaw_912 : decode code 912 = .ok (.iload_n 3, 1) := by decide +kernel
theorem dLaw_913 : decode code 913 = .ok (.iconst 3, 1) := by decide +kernel
theorem dLaw_914 : decode code 914 = .ok (.iadd, 1) := by decide +kernel
theorem dLaw_915 : decode code 915 = .ok (.iaload, 1) := by decide +kernel
theorem dLaw_916 : decode code 916 = .ok (.aload_n 0, 1) := by decide +kernel
theorem dLaw_917 : decode code 917 = .ok (.iload_n 3, 1) := by decide +kernel
theorem dLaw_918 : decode code 918 = .ok (.iconst 4, 1) := by decide +kernel
theorem dLaw_919 : decode code 919 = .ok (.iadd, 1) := by decide +kernel
theorem dLaw_920 : decode code 920 = .ok (.iaload, 1) := by decide +kernel
theorem dLaw_921 : decode code 921 = .ok (.invokevirtual 111, 3) := by decide +kernel
theorem dLaw_924 : decode code 924 = .ok (.pop, 1) := by decide +kernel
theorem dLaw_925 : decode code 925 = .ok (.aload_n 2, 1) := by decide +kernel
theorem dLaw_926 : decode code 926 = .ok (.aload_n 0, 1) := by decide +kernel
theorem dLaw_927 : decode code 927 = .ok (.iload_n 3, 1) := by decide +kernel
theorem dLaw_928 : decode code 928 = .ok (.iconst 1, 1) := by decide +kernel
theorem dLaw_929 : decode code 929 = .ok (.iadd, 1) := by decide +kernel
theorem dLaw_930 : decode code 930 = .ok (.iaload, 1) := by decide +kernel
theorem dLaw_931 : decode code 931 = .ok (.aload_n 0, 1) := by decide +kernel
theorem dLaw_932 : decode code 932 = .ok (.iload_n 3, 1) := by decide +kernel
theorem dLaw_933 : decode code 933 = .ok (.iconst 2, 1) := by decide +kernel
theorem dLaw_934 : decode code 934 = .ok (.iadd, 1) := by decide +kernel
theorem dLaw_935 : decode code 935 = .ok (.iaload, 1) := by decide +kernel
theorem dLaw_936 : decode code 936 = .ok (.aload_n 0, 1) := by decide +kernel
theorem dLaw_937 : decode code 937 = .ok (.iload_n 3, 1) := by decide +kernel
theorem dLaw_938 : decode code 938 = .ok (.iconst 3, 1) := by decide +kernel
theorem dLaw_939 : decode code 939 = .ok (.iadd, 1) := by decide +kernel
theorem dLaw_940 : decode code 940 = .ok (.iaload, 1) := by decide +kernel
theorem dLaw_941 : decode code 941 = .ok (.aload_n 0, 1) := by decide +kernel
theorem dLaw_942 : decode code 942 = .ok (.iload_n 3, 1) := by decide +kernel
theorem dLaw_943 : decode code 943 = .ok (.iconst 4, 1) := by decide +kernel
theorem dLaw_944 : decode code 944 = .ok (.iadd, 1) := by decide +kernel
theorem dLaw_945 : decode code 945 = .ok (.iaload, 1) := by decide +kernel
theorem dLaw_946 : decode code 946 = .ok (.invokevirtual 115, 3) := by decide +kernel
theorem dLaw_949 : decode code 949 = .ok (.pop, 1) := by decide +kernel
theorem dLaw_950 : decode code 950 = .ok (.goto 26, 3) := by decide +kernel
theorem dLaw_953 : decode code 953 = .ok (.aload_n 1, 1) := by decide +kernel
theorem dLaw_954 : decode code 954 = .ok (.aload_n 0, 1) := by decide +kernel
theorem dLaw_955 : decode code 955 = .ok (.iload_n 3, 1) := by decide +kernel
theorem dLaw_956 : decode code 956 = .ok (.iconst 1, 1) := by decide +kernel
theorem dLaw_957 : decode code 957 = .ok (.iadd, 1) := by decide +kernel
theorem dLaw_958 : decode code 958 = .ok (.iaload, 1) := by decide +kernel
theorem dLaw_959 : decode code 959 = .ok (.invokevirtual 116, 3) := by decide +kernel
theorem dLaw_962 : decode code 962 = .ok (.pop, 1) := by decide +kernel
theorem dLaw_963 : decode code 963 = .ok (.aload_n 2, 1) := by decide +kernel
theorem dLaw_964 : decode code 964 = .ok (.aload_n 0, 1) := by decide +kernel
theorem dLaw_965 : decode code 965 = .ok (.iload_n 3, 1) := by decide +kernel
theorem dLaw_966 : decode code 966 = .ok (.iconst 1, 1) := by decide +kernel
theorem dLaw_967 : decode code 967 = .ok (.iadd, 1) := by decide +kernel
theorem dLaw_968 : decode code 968 = .ok (.iaload, 1) := by decide +kernel
theorem dLaw_969 : decode code 969 = .ok (.invokevirtual 119, 3) := by decide +kernel
theorem dLaw_972 : decode code 972 = .ok (.pop, 1) := by decide +kernel
theorem dLaw_973 : decode code 973 = .ok (.goto 3, 3) := by decide +kernel
theorem dLaw_976 : decode code 976 = .ok (.iinc 3 6, 3) := by decide +kernel
theorem dLaw_979 : decode code 979 = .ok (.goto (-961), 3) := by decide +kernel
theorem dLaw_982 : decode code 982 = .ok (.iconst 1, 1) := by decide +kernel
theorem dLaw_983 : decode code 983 = .ok (.ireturn, 1) := by decide +kernel
