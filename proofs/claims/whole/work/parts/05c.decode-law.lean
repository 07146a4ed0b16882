/-! decode rows -/
theorem dL_law_0 : decode M_L_law.2.1 0 = .ok (.new 7, 3) := by decide +kernel
theorem dL_law_3 : decode M_L_law.2.1 3 = .ok (.dup, 1) := by decide +kernel
theorem dL_law_4 : decode M_L_law.2.1 4 = .ok (.invokespecial 9, 3) := by decide +kernel
theorem dL_law_7 : decode M_L_law.2.1 7 = .ok (.astore_n 1, 1) := by decide +kernel
theorem dL_law_8 : decode M_L_law.2.1 8 = .ok (.new 10, 3) := by decide +kernel
theorem dL_law_11 : decode M_L_law.2.1 11 = .ok (.dup, 1) := by decide +kernel
theorem dL_law_12 : decode M_L_law.2.1 12 = .ok (.invokespecial 12, 3) := by decide +kernel
theorem dL_law_15 : decode M_L_law.2.1 15 = .ok (.astore_n 2, 1) := by decide +kernel
theorem dL_law_16 : decode M_L_law.2.1 16 = .ok (.iconst 0, 1) := by decide +kernel
theorem dL_law_17 : decode M_L_law.2.1 17 = .ok (.istore_n 3, 1) := by decide +kernel
theorem dL_law_18 : decode M_L_law.2.1 18 = .ok (.iload_n 3, 1) := by decide +kernel
theorem dL_law_19 : decode M_L_law.2.1 19 = .ok (.aload_n 0, 1) := by decide +kernel
theorem dL_law_20 : decode M_L_law.2.1 20 = .ok (.arraylength, 1) := by decide +kernel
theorem dL_law_21 : decode M_L_law.2.1 21 = .ok (.iconst 4, 1) := by decide +kernel
theorem dL_law_22 : decode M_L_law.2.1 22 = .ok (.isub, 1) := by decide +kernel
theorem dL_law_23 : decode M_L_law.2.1 23 = .ok (.if_icmp .gt 1327, 3) := by decide +kernel
theorem dL_law_26 : decode M_L_law.2.1 26 = .ok (.aload_n 0, 1) := by decide +kernel
theorem dL_law_27 : decode M_L_law.2.1 27 = .ok (.iload_n 3, 1) := by decide +kernel
theorem dL_law_28 : decode M_L_law.2.1 28 = .ok (.iaload, 1) := by decide +kernel
theorem dL_law_29 : decode M_L_law.2.1 29 = .ok (.bipush 63, 2) := by decide +kernel
theorem dL_law_31 : decode M_L_law.2.1 31 = .ok (.iand, 1) := by decide +kernel
theorem dL_law_32 : decode M_L_law.2.1 32 = .ok (.tableswitch 1312 0 40 #[180, 203, 216, 259, 292, 335, 378, 411, 460, 483, 506, 539, 552, 565, 598, 621, 634, 657, 670, 714, 737, 760, 793, 826, 859, 902, 915, 948, 971, 1005, 1039, 1062, 1095, 1118, 1151, 1164, 1207, 1230, 1263, 1276, 1289], 180) := by decide +kernel
theorem dL_law_212 : decode M_L_law.2.1 212 = .ok (.aload_n 1, 1) := by decide +kernel
theorem dL_law_213 : decode M_L_law.2.1 213 = .ok (.aload_n 0, 1) := by decide +kernel
theorem dL_law_214 : decode M_L_law.2.1 214 = .ok (.iload_n 3, 1) := by decide +kernel
theorem dL_law_215 : decode M_L_law.2.1 215 = .ok (.iconst 1, 1) := by decide +kernel
theorem dL_law_216 : decode M_L_law.2.1 216 = .ok (.iadd, 1) := by decide +kernel
theorem dL_law_217 : decode M_L_law.2.1 217 = .ok (.iaload, 1) := by decide +kernel
theorem dL_law_218 : decode M_L_law.2.1 218 = .ok (.invokevirtual 13, 3) := by decide +kernel
theorem dL_law_221 : decode M_L_law.2.1 221 = .ok (.aload_n 2, 1) := by decide +kernel
theorem dL_law_222 : decode M_L_law.2.1 222 = .ok (.aload_n 0, 1) := by decide +kernel
theorem dL_law_223 : decode M_L_law.2.1 223 = .ok (.iload_n 3, 1) := by decide +kernel
theorem dL_law_224 : decode M_L_law.2.1 224 = .ok (.iconst 1, 1) := by decide +kernel
theorem dL_law_225 : decode M_L_law.2.1 225 = .ok (.iadd, 1) := by decide +kernel
theorem dL_law_226 : decode M_L_law.2.1 226 = .ok (.iaload, 1) := by decide +kernel
theorem dL_law_227 : decode M_L_law.2.1 227 = .ok (.invokevirtual 17, 3) := by decide +kernel
theorem dL_law_230 : decode M_L_law.2.1 230 = .ok (.if_icmp .eq 1114, 3) := by decide +kernel
theorem dL_law_233 : decode M_L_law.2.1 233 = .ok (.iconst 0, 1) := by decide +kernel
theorem dL_law_234 : decode M_L_law.2.1 234 = .ok (.ireturn, 1) := by decide +kernel
theorem dL_law_235 : decode M_L_law.2.1 235 = .ok (.aload_n 1, 1) := by decide +kernel
theorem dL_law_236 : decode M_L_law.2.1 236 = .ok (.invokevirtual 18, 3) := by decide +kernel
theorem dL_law_239 : decode M_L_law.2.1 239 = .ok (.aload_n 2, 1) := by decide +kernel
theorem dL_law_240 : decode M_L_law.2.1 240 = .ok (.invokevirtual 22, 3) := by decide +kernel
theorem dL_law_243 : decode M_L_law.2.1 243 = .ok (.if_icmp .eq 1101, 3) := by decide +kernel
theorem dL_law_246 : decode M_L_law.2.1 246 = .ok (.iconst 0, 1) := by decide +kernel
theorem dL_law_247 : decode M_L_law.2.1 247 = .ok (.ireturn, 1) := by decide +kernel
theorem dL_law_248 : decode M_L_law.2.1 248 = .ok (.aload_n 1, 1) := by decide +kernel
theorem dL_law_249 : decode M_L_law.2.1 249 = .ok (.aload_n 0, 1) := by decide +kernel
theorem dL_law_250 : decode M_L_law.2.1 250 = .ok (.iload_n 3, 1) := by decide +kernel
theorem dL_law_251 : decode M_L_law.2.1 251 = .ok (.iconst 1, 1) := by decide +kernel
theorem dL_law_252 : decode M_L_law.2.1 252 = .ok (.iadd, 1) := by decide +kernel
theorem dL_law_253 : decode M_L_law.2.1 253 = .ok (.iaload, 1) := by decide +kernel
theorem dL_law_254 : decode M_L_law.2.1 254 = .ok (.aload_n 0, 1) := by decide +kernel
theorem dL_law_255 : decode M_L_law.2.1 255 = .ok (.iload_n 3, 1) := by decide +kernel
theorem dL_law_256 : decode M_L_law.2.1 256 = .ok (.iconst 2, 1) := by decide +kernel
theorem dL_law_257 : decode M_L_law.2.1 257 = .ok (.iadd, 1) := by decide +kernel
theorem dL_law_258 : decode M_L_law.2.1 258 = .ok (.iaload, 1) := by decide +kernel
theorem dL_law_259 : decode M_L_law.2.1 259 = .ok (.aload_n 0, 1) := by decide +kernel
theorem dL_law_260 : decode M_L_law.2.1 260 = .ok (.iload_n 3, 1) := by decide +kernel
theorem dL_law_261 : decode M_L_law.2.1 261 = .ok (.iconst 3, 1) := by decide +kernel
theorem dL_law_262 : decode M_L_law.2.1 262 = .ok (.iadd, 1) := by decide +kernel
theorem dL_law_263 : decode M_L_law.2.1 263 = .ok (.iaload, 1) := by decide +kernel
theorem dL_law_264 : decode M_L_law.2.1 264 = .ok (.invokevirtual 23, 3) := by decide +kernel
theorem dL_law_267 : decode M_L_law.2.1 267 = .ok (.aload_n 2, 1) := by decide +kernel
theorem dL_law_268 : decode M_L_law.2.1 268 = .ok (.aload_n 0, 1) := by decide +kernel
theorem dL_law_269 : decode M_L_law.2.1 269 = .ok (.iload_n 3, 1) := by decide +kernel
theorem dL_law_270 : decode M_L_law.2.1 270 = .ok (.iconst 1, 1) := by decide +kernel
theorem dL_law_271 : decode M_L_law.2.1 271 = .ok (.iadd, 1) := by decide +kernel
theorem dL_law_272 : decode M_L_law.2.1 272 = .ok (.iaload, 1) := by decide +kernel
theorem dL_law_273 : decode M_L_law.2.1 273 = .ok (.aload_n 0, 1) := by decide +kernel
theorem dL_law_274 : decode M_L_law.2.1 274 = .ok (.iload_n 3, 1) := by decide +kernel
theorem dL_law_275 : decode M_L_law.2.1 275 = .ok (.iconst 2, 1) := by decide +kernel
theorem dL_law_276 : decode M_L_law.2.1 276 = .ok (.iadd, 1) := by decide +kernel
theorem dL_law_277 : decode M_L_law.2.1 277 = .ok (.iaload, 1) := by decide +kernel
theorem dL_law_278 : decode M_L_law.2.1 278 = .ok (.aload_n 0, 1) := by decide +kernel
theorem dL_law_279 : decode M_L_law.2.1 279 = .ok (.iload_n 3, 1) := by decide +kernel
theorem dL_law_280 : decode M_L_law.2.1 280 = .ok (.iconst 3, 1) := by decide +kernel
theorem dL_law_281 : decode M_L_law.2.1 281 = .ok (.iadd, 1) := by decide +kernel
theorem dL_law_282 : decode M_L_law.2.1 282 = .ok (.iaload, 1) := by decide +kernel
theorem dL_law_283 : decode M_L_law.2.1 283 = .ok (.invokevirtual 27, 3) := by decide +kernel
theorem dL_law_286 : decode M_L_law.2.1 286 = .ok (.if_icmp .eq 1058, 3) := by decide +kernel
theorem dL_law_289 : decode M_L_law.2.1 289 = .ok (.iconst 0, 1) := by decide +kernel
theorem dL_law_290 : decode M_L_law.2.1 290 = .ok (.ireturn, 1) := by decide +kernel
theorem dL_law_291 : decode M_L_law.2.1 291 = .ok (.aload_n 1, 1) := by decide +kernel
theorem dL_law_292 : decode M_L_law.2.1 292 = .ok (.aload_n 0, 1) := by decide +kernel
theorem dL_law_293 : decode M_L_law.2.1 293 = .ok (.iload_n 3, 1) := by decide +kernel
theorem dL_law_294 : decode M_L_law.2.1 294 = .ok (.iconst 1, 1) := by decide +kernel
theorem dL_law_295 : decode M_L_law.2.1 295 = .ok (.iadd, 1) := by decide +kernel
theorem dL_law_296 : decode M_L_law.2.1 296 = .ok (.iaload, 1) := by decide +kernel
theorem dL_law_297 : decode M_L_law.2.1 297 = .ok (.aload_n 0, 1) := by decide +kernel
theorem dL_law_298 : decode M_L_law.2.1 298 = .ok (.iload_n 3, 1) := by decide +kernel
theorem dL_law_299 : decode M_L_law.2.1 299 = .ok (.iconst 2, 1) := by decide +kernel
theorem dL_law_300 : decode M_L_law.2.1 300 = .ok (.iadd, 1) := by decide +kernel
theorem dL_law_301 : decode M_L_law.2.1 301 = .ok (.iaload, 1) := by decide +kernel
theorem dL_law_302 : decode M_L_law.2.1 302 = .ok (.invokevirtual 28, 3) := by decide +kernel
theorem dL_law_305 : decode M_L_law.2.1 305 = .ok (.aload_n 2, 1) := by decide +kernel
theorem dL_law_306 : decode M_L_law.2.1 306 = .ok (.aload_n 0, 1) := by decide +kernel
theorem dL_law_307 : decode M_L_law.2.1 307 = .ok (.iload_n 3, 1) := by decide +kernel
theorem dL_law_308 : decode M_L_law.2.1 308 = .ok (.iconst 1, 1) := by decide +kernel
theorem dL_law_309 : decode M_L_law.2.1 309 = .ok (.iadd, 1) := by decide +kernel
theorem dL_law_310 : decode M_L_law.2.1 310 = .ok (.iaload, 1) := by decide +kernel
theorem dL_law_311 : decode M_L_law.2.1 311 = .ok (.aload_n 0, 1) := by decide +kernel
theorem dL_law_312 : decode M_L_law.2.1 312 = .ok (.iload_n 3, 1) := by decide +kernel
theorem dL_law_313 : decode M_L_law.2.1 313 = .ok (.iconst 2, 1) := by decide +kernel
theorem dL_law_314 : decode M_L_law.2.1 314 = .ok (.iadd, 1) := by decide +kernel
theorem dL_law_315 : decode M_L_law.2.1 315 = .ok (.iaload, 1) := by decide +kernel
theorem dL_law_316 : decode M_L_law.2.1 316 = .ok (.invokevirtual 32, 3) := by decide +kernel
theorem dL_law_319 : decode M_L_law.2.1 319 = .ok (.if_icmp .eq 1025, 3) := by decide +kernel
theorem dL_law_322 : decode M_L_law.2.1 322 = .ok (.iconst 0, 1) := by decide +kernel
theorem dL_law_323 : decode M_L_law.2.1 323 = .ok (.ireturn, 1) := by decide +kernel
theorem dL_law_324 : decode M_L_law.2.1 324 = .ok (.aload_n 1, 1) := by decide +kernel
theorem dL_law_325 : decode M_L_law.2.1 325 = .ok (.aload_n 0, 1) := by decide +kernel
theorem dL_law_326 : decode M_L_law.2.1 326 = .ok (.iload_n 3, 1) := by decide +kernel
theorem dL_law_327 : decode M_L_law.2.1 327 = .ok (.iconst 1, 1) := by decide +kernel
theorem dL_law_328 : decode M_L_law.2.1 328 = .ok (.iadd, 1) := by decide +kernel
theorem dL_law_329 : decode M_L_law.2.1 329 = .ok (.iaload, 1) := by decide +kernel
theorem dL_law_330 : decode M_L_law.2.1 330 = .ok (.aload_n 0, 1) := by decide +kernel
theorem dL_law_331 : decode M_L_law.2.1 331 = .ok (.iload_n 3, 1) := by decide +kernel
theorem dL_law_332 : decode M_L_law.2.1 332 = .ok (.iconst 2, 1) := by decide +kernel
theorem dL_law_333 : decode M_L_law.2.1 333 = .ok (.iadd, 1) := by decide +kernel
theorem dL_law_334 : decode M_L_law.2.1 334 = .ok (.iaload, 1) := by decide +kernel
theorem dL_law_335 : decode M_L_law.2.1 335 = .ok (.aload_n 0, 1) := by decide +kernel
theorem dL_law_336 : decode M_L_law.2.1 336 = .ok (.iload_n 3, 1) := by decide +kernel
theorem dL_law_337 : decode M_L_law.2.1 337 = .ok (.iconst 3, 1) := by decide +kernel
theorem dL_law_338 : decode M_L_law.2.1 338 = .ok (.iadd, 1) := by decide +kernel
theorem dL_law_339 : decode M_L_law.2.1 339 = .ok (.iaload, 1) := by decide +kernel
theorem dL_law_340 : decode M_L_law.2.1 340 = .ok (.invokevirtual 33, 3) := by decide +kernel
theorem dL_law_343 : decode M_L_law.2.1 343 = .ok (.aload_n 2, 1) := by decide +kernel
theorem dL_law_344 : decode M_L_law.2.1 344 = .ok (.aload_n 0, 1) := by decide +kernel
theorem dL_law_345 : decode M_L_law.2.1 345 = .ok (.iload_n 3, 1) := by decide +kernel
theorem dL_law_346 : decode M_L_law.2.1 346 = .ok (.iconst 1, 1) := by decide +kernel
theorem dL_law_347 : decode M_L_law.2.1 347 = .ok (.iadd, 1) := by decide +kernel
theorem dL_law_348 : decode M_L_law.2.1 348 = .ok (.iaload, 1) := by decide +kernel
theorem dL_law_349 : decode M_L_law.2.1 349 = .ok (.aload_n 0, 1) := by decide +kernel
theorem dL_law_350 : decode M_L_law.2.1 350 = .ok (.iload_n 3, 1) := by decide +kernel
theorem dL_law_351 : decode M_L_law.2.1 351 = .ok (.iconst 2, 1) := by decide +kernel
theorem dL_law_352 : decode M_L_law.2.1 352 = .ok (.iadd, 1) := by decide +kernel
theorem dL_law_353 : decode M_L_law.2.1 353 = .ok (.iaload, 1) := by decide +kernel
theorem dL_law_354 : decode M_L_law.2.1 354 = .ok (.aload_n 0, 1) := by decide +kernel
theorem dL_law_355 : decode M_L_law.2.1 355 = .ok (.iload_n 3, 1) := by decide +kernel
theorem dL_law_356 : decode M_L_law.2.1 356 = .ok (.iconst 3, 1) := by decide +kernel
theorem dL_law_357 : decode M_L_law.2.1 357 = .ok (.iadd, 1) := by decide +kernel
theorem dL_law_358 : decode M_L_law.2.1 358 = .ok (.iaload, 1) := by decide +kernel
theorem dL_law_359 : decode M_L_law.2.1 359 = .ok (.invokevirtual 36, 3) := by decide +kernel
theorem dL_law_362 : decode M_L_law.2.1 362 = .ok (.if_icmp .eq 982, 3) := by decide +kernel
theorem dL_law_365 : decode M_L_law.2.1 365 = .ok (.iconst 0, 1) := by decide +kernel
theorem dL_law_366 : decode M_L_law.2.1 366 = .ok (.ireturn, 1) := by decide +kernel
theorem dL_law_367 : decode M_L_law.2.1 367 = .ok (.aload_n 1, 1) := by decide +kernel
theorem dL_law_368 : decode M_L_law.2.1 368 = .ok (.aload_n 0, 1) := by decide +kernel
theorem dL_law_369 : decode M_L_law.2.1 369 = .ok (.iload_n 3, 1) := by decide +kernel
theorem dL_law_370 : decode M_L_law.2.1 370 = .ok (.iconst 1, 1) := by decide +kernel
theorem dL_law_371 : decode M_L_law.2.1 371 = .ok (.iadd, 1) := by decide +kernel
theorem dL_law_372 : decode M_L_law.2.1 372 = .ok (.iaload, 1) := by decide +kernel
theorem dL_law_373 : decode M_L_law.2.1 373 = .ok (.aload_n 0, 1) := by decide +kernel
theorem dL_law_374 : decode M_L_law.2.1 374 = .ok (.iload_n 3, 1) := by decide +kernel
theorem dL_law_375 : decode M_L_law.2.1 375 = .ok (.iconst 2, 1) := by decide +kernel
theorem dL_law_376 : decode M_L_law.2.1 376 = .ok (.iadd, 1) := by decide +kernel
theorem dL_law_377 : decode M_L_law.2.1 377 = .ok (.iaload, 1) := by decide +kernel
theorem dL_law_378 : decode M_L_law.2.1 378 = .ok (.aload_n 0, 1) := by decide +kernel
theorem dL_law_379 : decode M_L_law.2.1 379 = .ok (.iload_n 3, 1) := by decide +kernel
theorem dL_law_380 : decode M_L_law.2.1 380 = .ok (.iconst 3, 1) := by decide +kernel
theorem dL_law_381 : decode M_L_law.2.1 381 = .ok (.iadd, 1) := by decide +kernel
theorem dL_law_382 : decode M_L_law.2.1 382 = .ok (.iaload, 1) := by decide +kernel
theorem dL_law_383 : decode M_L_law.2.1 383 = .ok (.invokevirtual 37, 3) := by decide +kernel
theorem dL_law_386 : decode M_L_law.2.1 386 = .ok (.aload_n 2, 1) := by decide +kernel
theorem dL_law_387 : decode M_L_law.2.1 387 = .ok (.aload_n 0, 1) := by decide +kernel
theorem dL_law_388 : decode M_L_law.2.1 388 = .ok (.iload_n 3, 1) := by decide +kernel
theorem dL_law_389 : decode M_L_law.2.1 389 = .ok (.iconst 1, 1) := by decide +kernel
theorem dL_law_390 : decode M_L_law.2.1 390 = .ok (.iadd, 1) := by decide +kernel
theorem dL_law_391 : decode M_L_law.2.1 391 = .ok (.iaload, 1) := by decide +kernel
theorem dL_law_392 : decode M_L_law.2.1 392 = .ok (.aload_n 0, 1) := by decide +kernel
theorem dL_law_393 : decode M_L_law.2.1 393 = .ok (.iload_n 3, 1) := by decide +kernel
theorem dL_law_394 : decode M_L_law.2.1 394 = .ok (.iconst 2, 1) := by decide +kernel
theorem dL_law_395 : decode M_L_law.2.1 395 = .ok (.iadd, 1) := by decide +kernel
theorem dL_law_396 : decode M_L_law.2.1 396 = .ok (.iaload, 1) := by decide +kernel
theorem dL_law_397 : decode M_L_law.2.1 397 = .ok (.aload_n 0, 1) := by decide +kernel
theorem dL_law_398 : decode M_L_law.2.1 398 = .ok (.iload_n 3, 1) := by decide +kernel
theorem dL_law_399 : decode M_L_law.2.1 399 = .ok (.iconst 3, 1) := by decide +kernel
theorem dL_law_400 : decode M_L_law.2.1 400 = .ok (.iadd, 1) := by decide +kernel
theorem dL_law_401 : decode M_L_law.2.1 401 = .ok (.iaload, 1) := by decide +kernel
theorem dL_law_402 : decode M_L_law.2.1 402 = .ok (.invokevirtual 40, 3) := by decide +kernel
theorem dL_law_405 : decode M_L_law.2.1 405 = .ok (.if_icmp .eq 939, 3) := by decide +kernel
theorem dL_law_408 : decode M_L_law.2.1 408 = .ok (.iconst 0, 1) := by decide +kernel
theorem dL_law_409 : decode M_L_law.2.1 409 = .ok (.ireturn, 1) := by decide +kernel
theorem dL_law_410 : decode M_L_law.2.1 410 = .ok (.aload_n 1, 1) := by decide +kernel
theorem dL_law_411 : decode M_L_law.2.1 411 = .ok (.aload_n 0, 1) := by decide +kernel
theorem dL_law_412 : decode M_L_law.2.1 412 = .ok (.iload_n 3, 1) := by decide +kernel
theorem dL_law_413 : decode M_L_law.2.1 413 = .ok (.iconst 1, 1) := by decide +kernel
theorem dL_law_414 : decode M_L_law.2.1 414 = .ok (.iadd, 1) := by decide +kernel
theorem dL_law_415 : decode M_L_law.2.1 415 = .ok (.iaload, 1) := by decide +kernel
theorem dL_law_416 : decode M_L_law.2.1 416 = .ok (.aload_n 0, 1) := by decide +kernel
theorem dL_law_417 : decode M_L_law.2.1 417 = .ok (.iload_n 3, 1) := by decide +kernel
theorem dL_law_418 : decode M_L_law.2.1 418 = .ok (.iconst 2, 1) := by decide +kernel
theorem dL_law_419 : decode M_L_law.2.1 419 = .ok (.iadd, 1) := by decide +kernel
theorem dL_law_420 : decode M_L_law.2.1 420 = .ok (.iaload, 1) := by decide +kernel
theorem dL_law_421 : decode M_L_law.2.1 421 = .ok (.invokevirtual 41, 3) := by decide +kernel
theorem dL_law_424 : decode M_L_law.2.1 424 = .ok (.aload_n 2, 1) := by decide +kernel
theorem dL_law_425 : decode M_L_law.2.1 425 = .ok (.aload_n 0, 1) := by decide +kernel
theorem dL_law_426 : decode M_L_law.2.1 426 = .ok (.iload_n 3, 1) := by decide +kernel
theorem dL_law_427 : decode M_L_law.2.1 427 = .ok (.iconst 1, 1) := by decide +kernel
theorem dL_law_428 : decode M_L_law.2.1 428 = .ok (.iadd, 1) := by decide +kernel
theorem dL_law_429 : decode M_L_law.2.1 429 = .ok (.iaload, 1) := by decide +kernel
theorem dL_law_430 : decode M_L_law.2.1 430 = .ok (.aload_n 0, 1) := by decide +kernel
theorem dL_law_431 : decode M_L_law.2.1 431 = .ok (.iload_n 3, 1) := by decide +kernel
theorem dL_law_432 : decode M_L_law.2.1 432 = .ok (.iconst 2, 1) := by decide +kernel
theorem dL_law_433 : decode M_L_law.2.1 433 = .ok (.iadd, 1) := by decide +kernel
theorem dL_law_434 : decode M_L_law.2.1 434 = .ok (.iaload, 1) := by decide +kernel
theorem dL_law_435 : decode M_L_law.2.1 435 = .ok (.invokevirtual 44, 3) := by decide +kernel
theorem dL_law_438 : decode M_L_law.2.1 438 = .ok (.if_icmp .eq 906, 3) := by decide +kernel
theorem dL_law_441 : decode M_L_law.2.1 441 = .ok (.iconst 0, 1) := by decide +kernel
theorem dL_law_442 : decode M_L_law.2.1 442 = .ok (.ireturn, 1) := by decide +kernel
theorem dL_law_443 : decode M_L_law.2.1 443 = .ok (.aload_n 1, 1) := by decide +kernel
theorem dL_law_444 : decode M_L_law.2.1 444 = .ok (.aload_n 0, 1) := by decide +kernel
theorem dL_law_445 : decode M_L_law.2.1 445 = .ok (.iload_n 3, 1) := by decide +kernel
theorem dL_law_446 : decode M_L_law.2.1 446 = .ok (.iconst 1, 1) := by decide +kernel
theorem dL_law_447 : decode M_L_law.2.1 447 = .ok (.iadd, 1) := by decide +kernel
theorem dL_law_448 : decode M_L_law.2.1 448 = .ok (.iaload, 1) := by decide +kernel
theorem dL_law_449 : decode M_L_law.2.1 449 = .ok (.aload_n 0, 1) := by decide +kernel
theorem dL_law_450 : decode M_L_law.2.1 450 = .ok (.iload_n 3, 1) := by decide +kernel
theorem dL_law_451 : decode M_L_law.2.1 451 = .ok (.iconst 2, 1) := by decide +kernel
theorem dL_law_452 : decode M_L_law.2.1 452 = .ok (.iadd, 1) := by decide +kernel
theorem dL_law_453 : decode M_L_law.2.1 453 = .ok (.iaload, 1) := by decide +kernel
theorem dL_law_454 : decode M_L_law.2.1 454 = .ok (.ifCond .eq 7, 3) := by decide +kernel
theorem dL_law_457 : decode M_L_law.2.1 457 = .ok (.iconst 1, 1) := by decide +kernel
theorem dL_law_458 : decode M_L_law.2.1 458 = .ok (.goto 4, 3) := by decide +kernel
theorem dL_law_461 : decode M_L_law.2.1 461 = .ok (.iconst 0, 1) := by decide +kernel
theorem dL_law_462 : decode M_L_law.2.1 462 = .ok (.invokevirtual 45, 3) := by decide +kernel
theorem dL_law_465 : decode M_L_law.2.1 465 = .ok (.aload_n 2, 1) := by decide +kernel
theorem dL_law_466 : decode M_L_law.2.1 466 = .ok (.aload_n 0, 1) := by decide +kernel
theorem dL_law_467 : decode M_L_law.2.1 467 = .ok (.iload_n 3, 1) := by decide +kernel
theorem dL_law_468 : decode M_L_law.2.1 468 = .ok (.iconst 1, 1) := by decide +kernel
theorem dL_law_469 : decode M_L_law.2.1 469 = .ok (.iadd, 1) := by decide +kernel
theorem dL_law_470 : decode M_L_law.2.1 470 = .ok (.iaload, 1) := by decide +kernel
theorem dL_law_471 : decode M_L_law.2.1 471 = .ok (.aload_n 0, 1) := by decide +kernel
theorem dL_law_472 : decode M_L_law.2.1 472 = .ok (.iload_n 3, 1) := by decide +kernel
theorem dL_law_473 : decode M_L_law.2.1 473 = .ok (.iconst 2, 1) := by decide +kernel
theorem dL_law_474 : decode M_L_law.2.1 474 = .ok (.iadd, 1) := by decide +kernel
theorem dL_law_475 : decode M_L_law.2.1 475 = .ok (.iaload, 1) := by decide +kernel
theorem dL_law_476 : decode M_L_law.2.1 476 = .ok (.ifCond .eq 7, 3) := by decide +kernel
theorem dL_law_479 : decode M_L_law.2.1 479 = .ok (.iconst 1, 1) := by decide +kernel
theorem dL_law_480 : decode M_L_law.2.1 480 = .ok (.goto 4, 3) := by decide +kernel
theorem dL_law_483 : decode M_L_law.2.1 483 = .ok (.iconst 0, 1) := by decide +kernel
theorem dL_law_484 : decode M_L_law.2.1 484 = .ok (.invokevirtual 49, 3) := by decide +kernel
theorem dL_law_487 : decode M_L_law.2.1 487 = .ok (.if_icmp .eq 857, 3) := by decide +kernel
theorem dL_law_490 : decode M_L_law.2.1 490 = .ok (.iconst 0, 1) := by decide +kernel
theorem dL_law_491 : decode M_L_law.2.1 491 = .ok (.ireturn, 1) := by decide +kernel
theorem dL_law_492 : decode M_L_law.2.1 492 = .ok (.aload_n 1, 1) := by decide +kernel
theorem dL_law_493 : decode M_L_law.2.1 493 = .ok (.aload_n 0, 1) := by decide +kernel
theorem dL_law_494 : decode M_L_law.2.1 494 = .ok (.iload_n 3, 1) := by decide +kernel
theorem dL_law_495 : decode M_L_law.2.1 495 = .ok (.iconst 1, 1) := by decide +kernel
theorem dL_law_496 : decode M_L_law.2.1 496 = .ok (.iadd, 1) := by decide +kernel
theorem dL_law_497 : decode M_L_law.2.1 497 = .ok (.iaload, 1) := by decide +kernel
theorem dL_law_498 : decode M_L_law.2.1 498 = .ok (.invokevirtual 50, 3) := by decide +kernel
theorem dL_law_501 : decode M_L_law.2.1 501 = .ok (.aload_n 2, 1) := by decide +kernel
theorem dL_law_502 : decode M_L_law.2.1 502 = .ok (.aload_n 0, 1) := by decide +kernel
theorem dL_law_503 : decode M_L_law.2.1 503 = .ok (.iload_n 3, 1) := by decide +kernel
theorem dL_law_504 : decode M_L_law.2.1 504 = .ok (.iconst 1, 1) := by decide +kernel
theorem dL_law_505 : decode M_L_law.2.1 505 = .ok (.iadd, 1) := by decide +kernel
theorem dL_law_506 : decode M_L_law.2.1 506 = .ok (.iaload, 1) := by decide +kernel
theorem dL_law_507 : decode M_L_law.2.1 507 = .ok (.invokevirtual 53, 3) := by decide +kernel
theorem dL_law_510 : decode M_L_law.2.1 510 = .ok (.if_icmp .eq 834, 3) := by decide +kernel
theorem dL_law_513 : decode M_L_law.2.1 513 = .ok (.iconst 0, 1) := by decide +kernel
theorem dL_law_514 : decode M_L_law.2.1 514 = .ok (.ireturn, 1) := by decide +kernel
theorem dL_law_515 : decode M_L_law.2.1 515 = .ok (.aload_n 1, 1) := by decide +kernel
theorem dL_law_516 : decode M_L_law.2.1 516 = .ok (.aload_n 0, 1) := by decide +kernel
theorem dL_law_517 : decode M_L_law.2.1 517 = .ok (.iload_n 3, 1) := by decide +kernel
theorem dL_law_518 : decode M_L_law.2.1 518 = .ok (.iconst 1, 1) := by decide +kernel
theorem dL_law_519 : decode M_L_law.2.1 519 = .ok (.iadd, 1) := by decide +kernel
theorem dL_law_520 : decode M_L_law.2.1 520 = .ok (.iaload, 1) := by decide +kernel
theorem dL_law_521 : decode M_L_law.2.1 521 = .ok (.invokevirtual 54, 3) := by decide +kernel
theorem dL_law_524 : decode M_L_law.2.1 524 = .ok (.aload_n 2, 1) := by decide +kernel
theorem dL_law_525 : decode M_L_law.2.1 525 = .ok (.aload_n 0, 1) := by decide +kernel
theorem dL_law_526 : decode M_L_law.2.1 526 = .ok (.iload_n 3, 1) := by decide +kernel
theorem dL_law_527 : decode M_L_law.2.1 527 = .ok (.iconst 1, 1) := by decide +kernel
theorem dL_law_528 : decode M_L_law.2.1 528 = .ok (.iadd, 1) := by decide +kernel
theorem dL_law_529 : decode M_L_law.2.1 529 = .ok (.iaload, 1) := by decide +kernel
theorem dL_law_530 : decode M_L_law.2.1 530 = .ok (.invokevirtual 57, 3) := by decide +kernel
theorem dL_law_533 : decode M_L_law.2.1 533 = .ok (.if_icmp .eq 811, 3) := by decide +kernel
theorem dL_law_536 : decode M_L_law.2.1 536 = .ok (.iconst 0, 1) := by decide +kernel
theorem dL_law_537 : decode M_L_law.2.1 537 = .ok (.ireturn, 1) := by decide +kernel
theorem dL_law_538 : decode M_L_law.2.1 538 = .ok (.aload_n 1, 1) := by decide +kernel
theorem dL_law_539 : decode M_L_law.2.1 539 = .ok (.aload_n 0, 1) := by decide +kernel
theorem dL_law_540 : decode M_L_law.2.1 540 = .ok (.iload_n 3, 1) := by decide +kernel
theorem dL_law_541 : decode M_L_law.2.1 541 = .ok (.iconst 1, 1) := by decide +kernel
theorem dL_law_542 : decode M_L_law.2.1 542 = .ok (.iadd, 1) := by decide +kernel
theorem dL_law_543 : decode M_L_law.2.1 543 = .ok (.iaload, 1) := by decide +kernel
theorem dL_law_544 : decode M_L_law.2.1 544 = .ok (.aload_n 0, 1) := by decide +kernel
theorem dL_law_545 : decode M_L_law.2.1 545 = .ok (.iload_n 3, 1) := by decide +kernel
theorem dL_law_546 : decode M_L_law.2.1 546 = .ok (.iconst 2, 1) := by decide +kernel
theorem dL_law_547 : decode M_L_law.2.1 547 = .ok (.iadd, 1) := by decide +kernel
theorem dL_law_548 : decode M_L_law.2.1 548 = .ok (.iaload, 1) := by decide +kernel
theorem dL_law_549 : decode M_L_law.2.1 549 = .ok (.invokevirtual 58, 3) := by decide +kernel
theorem dL_law_552 : decode M_L_law.2.1 552 = .ok (.aload_n 2, 1) := by decide +kernel
theorem dL_law_553 : decode M_L_law.2.1 553 = .ok (.aload_n 0, 1) := by decide +kernel
theorem dL_law_554 : decode M_L_law.2.1 554 = .ok (.iload_n 3, 1) := by decide +kernel
theorem dL_law_555 : decode M_L_law.2.1 555 = .ok (.iconst 1, 1) := by decide +kernel
theorem dL_law_556 : decode M_L_law.2.1 556 = .ok (.iadd, 1) := by decide +kernel
theorem dL_law_557 : decode M_L_law.2.1 557 = .ok (.iaload, 1) := by decide +kernel
theorem dL_law_558 : decode M_L_law.2.1 558 = .ok (.aload_n 0, 1) := by decide +kernel
theorem dL_law_559 : decode M_L_law.2.1 559 = .ok (.iload_n 3, 1) := by decide +kernel
theorem dL_law_560 : decode M_L_law.2.1 560 = .ok (.iconst 2, 1) := by decide +kernel
theorem dL_law_561 : decode M_L_law.2.1 561 = .ok (.iadd, 1) := by decide +kernel
theorem dL_law_562 : decode M_L_law.2.1 562 = .ok (.iaload, 1) := by decide +kernel
theorem dL_law_563 : decode M_L_law.2.1 563 = .ok (.invokevirtual 61, 3) := by decide +kernel
theorem dL_law_566 : decode M_L_law.2.1 566 = .ok (.if_icmp .eq 778, 3) := by decide +kernel
theorem dL_law_569 : decode M_L_law.2.1 569 = .ok (.iconst 0, 1) := by decide +kernel
theorem dL_law_570 : decode M_L_law.2.1 570 = .ok (.ireturn, 1) := by decide +kernel
theorem dL_law_571 : decode M_L_law.2.1 571 = .ok (.aload_n 1, 1) := by decide +kernel
theorem dL_law_572 : decode M_L_law.2.1 572 = .ok (.invokevirtual 62, 3) := by decide +kernel
theorem dL_law_575 : decode M_L_law.2.1 575 = .ok (.aload_n 2, 1) := by decide +kernel
theorem dL_law_576 : decode M_L_law.2.1 576 = .ok (.invokevirtual 65, 3) := by decide +kernel
theorem dL_law_579 : decode M_L_law.2.1 579 = .ok (.if_icmp .eq 765, 3) := by decide +kernel
theorem dL_law_582 : decode M_L_law.2.1 582 = .ok (.iconst 0, 1) := by decide +kernel
theorem dL_law_583 : decode M_L_law.2.1 583 = .ok (.ireturn, 1) := by decide +kernel
theorem dL_law_584 : decode M_L_law.2.1 584 = .ok (.aload_n 1, 1) := by decide +kernel
theorem dL_law_585 : decode M_L_law.2.1 585 = .ok (.invokevirtual 66, 3) := by decide +kernel
theorem dL_law_588 : decode M_L_law.2.1 588 = .ok (.aload_n 2, 1) := by decide +kernel
theorem dL_law_589 : decode M_L_law.2.1 589 = .ok (.invokevirtual 69, 3) := by decide +kernel
theorem dL_law_592 : decode M_L_law.2.1 592 = .ok (.if_icmp .eq 752, 3) := by decide +kernel
theorem dL_law_595 : decode M_L_law.2.1 595 = .ok (.iconst 0, 1) := by decide +kernel
theorem dL_law_596 : decode M_L_law.2.1 596 = .ok (.ireturn, 1) := by decide +kernel
theorem dL_law_597 : decode M_L_law.2.1 597 = .ok (.aload_n 1, 1) := by decide +kernel
theorem dL_law_598 : decode M_L_law.2.1 598 = .ok (.aload_n 0, 1) := by decide +kernel
theorem dL_law_599 : decode M_L_law.2.1 599 = .ok (.iload_n 3, 1) := by decide +kernel
theorem dL_law_600 : decode M_L_law.2.1 600 = .ok (.iconst 1, 1) := by decide +kernel
theorem dL_law_601 : decode M_L_law.2.1 601 = .ok (.iadd, 1) := by decide +kernel
theorem dL_law_602 : decode M_L_law.2.1 602 = .ok (.iaload, 1) := by decide +kernel
theorem dL_law_603 : decode M_L_law.2.1 603 = .ok (.aload_n 0, 1) := by decide +kernel
theorem dL_law_604 : decode M_L_law.2.1 604 = .ok (.iload_n 3, 1) := by decide +kernel
theorem dL_law_605 : decode M_L_law.2.1 605 = .ok (.iconst 2, 1) := by decide +kernel
theorem dL_law_606 : decode M_L_law.2.1 606 = .ok (.iadd, 1) := by decide +kernel
theorem dL_law_607 : decode M_L_law.2.1 607 = .ok (.iaload, 1) := by decide +kernel
theorem dL_law_608 : decode M_L_law.2.1 608 = .ok (.invokevirtual 70, 3) := by decide +kernel
theorem dL_law_611 : decode M_L_law.2.1 611 = .ok (.aload_n 2, 1) := by decide +kernel
theorem dL_law_612 : decode M_L_law.2.1 612 = .ok (.aload_n 0, 1) := by decide +kernel
theorem dL_law_613 : decode M_L_law.2.1 613 = .ok (.iload_n 3, 1) := by decide +kernel
theorem dL_law_614 : decode M_L_law.2.1 614 = .ok (.iconst 1, 1) := by decide +kernel
theorem dL_law_615 : decode M_L_law.2.1 615 = .ok (.iadd, 1) := by decide +kernel
theorem dL_law_616 : decode M_L_law.2.1 616 = .ok (.iaload, 1) := by decide +kernel
theorem dL_law_617 : decode M_L_law.2.1 617 = .ok (.aload_n 0, 1) := by decide +kernel
theorem dL_law_618 : decode M_L_law.2.1 618 = .ok (.iload_n 3, 1) := by decide +kernel
theorem dL_law_619 : decode M_L_law.2.1 619 = .ok (.iconst 2, 1) := by decide +kernel
theorem dL_law_620 : decode M_L_law.2.1 620 = .ok (.iadd, 1) := by decide +kernel
theorem dL_law_621 : decode M_L_law.2.1 621 = .ok (.iaload, 1) := by decide +kernel
theorem dL_law_622 : decode M_L_law.2.1 622 = .ok (.invokevirtual 73, 3) := by decide +kernel
theorem dL_law_625 : decode M_L_law.2.1 625 = .ok (.if_icmp .eq 719, 3) := by decide +kernel
theorem dL_law_628 : decode M_L_law.2.1 628 = .ok (.iconst 0, 1) := by decide +kernel
theorem dL_law_629 : decode M_L_law.2.1 629 = .ok (.ireturn, 1) := by decide +kernel
theorem dL_law_630 : decode M_L_law.2.1 630 = .ok (.aload_n 1, 1) := by decide +kernel
theorem dL_law_631 : decode M_L_law.2.1 631 = .ok (.aload_n 0, 1) := by decide +kernel
theorem dL_law_632 : decode M_L_law.2.1 632 = .ok (.iload_n 3, 1) := by decide +kernel
theorem dL_law_633 : decode M_L_law.2.1 633 = .ok (.iconst 1, 1) := by decide +kernel
theorem dL_law_634 : decode M_L_law.2.1 634 = .ok (.iadd, 1) := by decide +kernel
theorem dL_law_635 : decode M_L_law.2.1 635 = .ok (.iaload, 1) := by decide +kernel
theorem dL_law_636 : decode M_L_law.2.1 636 = .ok (.invokevirtual 74, 3) := by decide +kernel
theorem dL_law_639 : decode M_L_law.2.1 639 = .ok (.aload_n 2, 1) := by decide +kernel
theorem dL_law_640 : decode M_L_law.2.1 640 = .ok (.aload_n 0, 1) := by decide +kernel
theorem dL_law_641 : decode M_L_law.2.1 641 = .ok (.iload_n 3, 1) := by decide +kernel
theorem dL_law_642 : decode M_L_law.2.1 642 = .ok (.iconst 1, 1) := by decide +kernel
theorem dL_law_643 : decode M_L_law.2.1 643 = .ok (.iadd, 1) := by decide +kernel
theorem dL_law_644 : decode M_L_law.2.1 644 = .ok (.iaload, 1) := by decide +kernel
theorem dL_law_645 : decode M_L_law.2.1 645 = .ok (.invokevirtual 77, 3) := by decide +kernel
theorem dL_law_648 : decode M_L_law.2.1 648 = .ok (.if_icmp .eq 696, 3) := by decide +kernel
theorem dL_law_651 : decode M_L_law.2.1 651 = .ok (.iconst 0, 1) := by decide +kernel
theorem dL_law_652 : decode M_L_law.2.1 652 = .ok (.ireturn, 1) := by decide +kernel
theorem dL_law_653 : decode M_L_law.2.1 653 = .ok (.aload_n 1, 1) := by decide +kernel
theorem dL_law_654 : decode M_L_law.2.1 654 = .ok (.invokevirtual 78, 3) := by decide +kernel
theorem dL_law_657 : decode M_L_law.2.1 657 = .ok (.aload_n 2, 1) := by decide +kernel
theorem dL_law_658 : decode M_L_law.2.1 658 = .ok (.invokevirtual 81, 3) := by decide +kernel
theorem dL_law_661 : decode M_L_law.2.1 661 = .ok (.if_icmp .eq 683, 3) := by decide +kernel
theorem dL_law_664 : decode M_L_law.2.1 664 = .ok (.iconst 0, 1) := by decide +kernel
theorem dL_law_665 : decode M_L_law.2.1 665 = .ok (.ireturn, 1) := by decide +kernel
theorem dL_law_666 : decode M_L_law.2.1 666 = .ok (.aload_n 1, 1) := by decide +kernel
theorem dL_law_667 : decode M_L_law.2.1 667 = .ok (.aload_n 0, 1) := by decide +kernel
theorem dL_law_668 : decode M_L_law.2.1 668 = .ok (.iload_n 3, 1) := by decide +kernel
theorem dL_law_669 : decode M_L_law.2.1 669 = .ok (.iconst 1, 1) := by decide +kernel
theorem dL_law_670 : decode M_L_law.2.1 670 = .ok (.iadd, 1) := by decide +kernel
theorem dL_law_671 : decode M_L_law.2.1 671 = .ok (.iaload, 1) := by decide +kernel
theorem dL_law_672 : decode M_L_law.2.1 672 = .ok (.invokevirtual 82, 3) := by decide +kernel
theorem dL_law_675 : decode M_L_law.2.1 675 = .ok (.aload_n 2, 1) := by decide +kernel
theorem dL_law_676 : decode M_L_law.2.1 676 = .ok (.aload_n 0, 1) := by decide +kernel
theorem dL_law_677 : decode M_L_law.2.1 677 = .ok (.iload_n 3, 1) := by decide +kernel
theorem dL_law_678 : decode M_L_law.2.1 678 = .ok (.iconst 1, 1) := by decide +kernel
theorem dL_law_679 : decode M_L_law.2.1 679 = .ok (.iadd, 1) := by decide +kernel
theorem dL_law_680 : decode M_L_law.2.1 680 = .ok (.iaload, 1) := by decide +kernel
theorem dL_law_681 : decode M_L_law.2.1 681 = .ok (.invokevirtual 85, 3) := by decide +kernel
theorem dL_law_684 : decode M_L_law.2.1 684 = .ok (.if_icmp .eq 660, 3) := by decide +kernel
theorem dL_law_687 : decode M_L_law.2.1 687 = .ok (.iconst 0, 1) := by decide +kernel
theorem dL_law_688 : decode M_L_law.2.1 688 = .ok (.ireturn, 1) := by decide +kernel
theorem dL_law_689 : decode M_L_law.2.1 689 = .ok (.aload_n 1, 1) := by decide +kernel
theorem dL_law_690 : decode M_L_law.2.1 690 = .ok (.invokevirtual 86, 3) := by decide +kernel
theorem dL_law_693 : decode M_L_law.2.1 693 = .ok (.aload_n 2, 1) := by decide +kernel
theorem dL_law_694 : decode M_L_law.2.1 694 = .ok (.invokevirtual 89, 3) := by decide +kernel
theorem dL_law_697 : decode M_L_law.2.1 697 = .ok (.if_icmp .eq 647, 3) := by decide +kernel
theorem dL_law_700 : decode M_L_law.2.1 700 = .ok (.iconst 0, 1) := by decide +kernel
theorem dL_law_701 : decode M_L_law.2.1 701 = .ok (.ireturn, 1) := by decide +kernel
theorem dL_law_702 : decode M_L_law.2.1 702 = .ok (.aload_n 1, 1) := by decide +kernel
theorem dL_law_703 : decode M_L_law.2.1 703 = .ok (.aload_n 0, 1) := by decide +kernel
theorem dL_law_704 : decode M_L_law.2.1 704 = .ok (.iload_n 3, 1) := by decide +kernel
theorem dL_law_705 : decode M_L_law.2.1 705 = .ok (.iconst 1, 1) := by decide +kernel
theorem dL_law_706 : decode M_L_law.2.1 706 = .ok (.iadd, 1) := by decide +kernel
theorem dL_law_707 : decode M_L_law.2.1 707 = .ok (.iaload, 1) := by decide +kernel
theorem dL_law_708 : decode M_L_law.2.1 708 = .ok (.aload_n 0, 1) := by decide +kernel
theorem dL_law_709 : decode M_L_law.2.1 709 = .ok (.iload_n 3, 1) := by decide +kernel
theorem dL_law_710 : decode M_L_law.2.1 710 = .ok (.iconst 2, 1) := by decide +kernel
theorem dL_law_711 : decode M_L_law.2.1 711 = .ok (.iadd, 1) := by decide +kernel
theorem dL_law_712 : decode M_L_law.2.1 712 = .ok (.iaload, 1) := by decide +kernel
theorem dL_law_713 : decode M_L_law.2.1 713 = .ok (.aload_n 0, 1) := by decide +kernel
theorem dL_law_714 : decode M_L_law.2.1 714 = .ok (.iload_n 3, 1) := by decide +kernel
theorem dL_law_715 : decode M_L_law.2.1 715 = .ok (.iconst 3, 1) := by decide +kernel
theorem dL_law_716 : decode M_L_law.2.1 716 = .ok (.iadd, 1) := by decide +kernel
theorem dL_law_717 : decode M_L_law.2.1 717 = .ok (.iaload, 1) := by decide +kernel
theorem dL_law_718 : decode M_L_law.2.1 718 = .ok (.invokevirtual 90, 3) := by decide +kernel
theorem dL_law_721 : decode M_L_law.2.1 721 = .ok (.aload_n 2, 1) := by decide +kernel
theorem dL_law_722 : decode M_L_law.2.1 722 = .ok (.aload_n 0, 1) := by decide +kernel
theorem dL_law_723 : decode M_L_law.2.1 723 = .ok (.iload_n 3, 1) := by decide +kernel
theorem dL_law_724 : decode M_L_law.2.1 724 = .ok (.iconst 1, 1) := by decide +kernel
theorem dL_law_725 : decode M_L_law.2.1 725 = .ok (.iadd, 1) := by decide +kernel
theorem dL_law_726 : decode M_L_law.2.1 726 = .ok (.iaload, 1) := by decide +kernel
theorem dL_law_727 : decode M_L_law.2.1 727 = .ok (.aload_n 0, 1) := by decide +kernel
theorem dL_law_728 : decode M_L_law.2.1 728 = .ok (.iload_n 3, 1) := by decide +kernel
theorem dL_law_729 : decode M_L_law.2.1 729 = .ok (.iconst 2, 1) := by decide +kernel
theorem dL_law_730 : decode M_L_law.2.1 730 = .ok (.iadd, 1) := by decide +kernel
theorem dL_law_731 : decode M_L_law.2.1 731 = .ok (.iaload, 1) := by decide +kernel
theorem dL_law_732 : decode M_L_law.2.1 732 = .ok (.aload_n 0, 1) := by decide +kernel
theorem dL_law_733 : decode M_L_law.2.1 733 = .ok (.iload_n 3, 1) := by decide +kernel
theorem dL_law_734 : decode M_L_law.2.1 734 = .ok (.iconst 3, 1) := by decide +kernel
theorem dL_law_735 : decode M_L_law.2.1 735 = .ok (.iadd, 1) := by decide +kernel
theorem dL_law_736 : decode M_L_law.2.1 736 = .ok (.iaload, 1) := by decide +kernel
theorem dL_law_737 : decode M_L_law.2.1 737 = .ok (.invokevirtual 94, 3) := by decide +kernel
theorem dL_law_740 : decode M_L_law.2.1 740 = .ok (.lcmp, 1) := by decide +kernel
theorem dL_law_741 : decode M_L_law.2.1 741 = .ok (.ifCond .eq 603, 3) := by decide +kernel
theorem dL_law_744 : decode M_L_law.2.1 744 = .ok (.iconst 0, 1) := by decide +kernel
theorem dL_law_745 : decode M_L_law.2.1 745 = .ok (.ireturn, 1) := by decide +kernel
theorem dL_law_746 : decode M_L_law.2.1 746 = .ok (.aload_n 1, 1) := by decide +kernel
theorem dL_law_747 : decode M_L_law.2.1 747 = .ok (.aload_n 0, 1) := by decide +kernel
theorem dL_law_748 : decode M_L_law.2.1 748 = .ok (.iload_n 3, 1) := by decide +kernel
theorem dL_law_749 : decode M_L_law.2.1 749 = .ok (.iconst 1, 1) := by decide +kernel
theorem dL_law_750 : decode M_L_law.2.1 750 = .ok (.iadd, 1) := by decide +kernel
theorem dL_law_751 : decode M_L_law.2.1 751 = .ok (.iaload, 1) := by decide +kernel
theorem dL_law_752 : decode M_L_law.2.1 752 = .ok (.invokevirtual 95, 3) := by decide +kernel
theorem dL_law_755 : decode M_L_law.2.1 755 = .ok (.aload_n 2, 1) := by decide +kernel
theorem dL_law_756 : decode M_L_law.2.1 756 = .ok (.aload_n 0, 1) := by decide +kernel
theorem dL_law_757 : decode M_L_law.2.1 757 = .ok (.iload_n 3, 1) := by decide +kernel
theorem dL_law_758 : decode M_L_law.2.1 758 = .ok (.iconst 1, 1) := by decide +kernel
theorem dL_law_759 : decode M_L_law.2.1 759 = .ok (.iadd, 1) := by decide +kernel
theorem dL_law_760 : decode M_L_law.2.1 760 = .ok (.iaload, 1) := by decide +kernel
theorem dL_law_761 : decode M_L_law.2.1 761 = .ok (.invokevirtual 98, 3) := by decide +kernel
theorem dL_law_764 : decode M_L_law.2.1 764 = .ok (.if_icmp .eq 580, 3) := by decide +kernel
theorem dL_law_767 : decode M_L_law.2.1 767 = .ok (.iconst 0, 1) := by decide +kernel
theorem dL_law_768 : decode M_L_law.2.1 768 = .ok (.ireturn, 1) := by decide +kernel
theorem dL_law_769 : decode M_L_law.2.1 769 = .ok (.aload_n 1, 1) := by decide +kernel
theorem dL_law_770 : decode M_L_law.2.1 770 = .ok (.aload_n 0, 1) := by decide +kernel
theorem dL_law_771 : decode M_L_law.2.1 771 = .ok (.iload_n 3, 1) := by decide +kernel
theorem dL_law_772 : decode M_L_law.2.1 772 = .ok (.iconst 1, 1) := by decide +kernel
theorem dL_law_773 : decode M_L_law.2.1 773 = .ok (.iadd, 1) := by decide +kernel
theorem dL_law_774 : decode M_L_law.2.1 774 = .ok (.iaload, 1) := by decide +kernel
theorem dL_law_775 : decode M_L_law.2.1 775 = .ok (.invokevirtual 99, 3) := by decide +kernel
theorem dL_law_778 : decode M_L_law.2.1 778 = .ok (.aload_n 2, 1) := by decide +kernel
theorem dL_law_779 : decode M_L_law.2.1 779 = .ok (.aload_n 0, 1) := by decide +kernel
theorem dL_law_780 : decode M_L_law.2.1 780 = .ok (.iload_n 3, 1) := by decide +kernel
theorem dL_law_781 : decode M_L_law.2.1 781 = .ok (.iconst 1, 1) := by decide +kernel
theorem dL_law_782 : decode M_L_law.2.1 782 = .ok (.iadd, 1) := by decide +kernel
theorem dL_law_783 : decode M_L_law.2.1 783 = .ok (.iaload, 1) := by decide +kernel
theorem dL_law_784 : decode M_L_law.2.1 784 = .ok (.invokevirtual 102, 3) := by decide +kernel
theorem dL_law_787 : decode M_L_law.2.1 787 = .ok (.if_icmp .eq 557, 3) := by decide +kernel
theorem dL_law_790 : decode M_L_law.2.1 790 = .ok (.iconst 0, 1) := by decide +kernel
theorem dL_law_791 : decode M_L_law.2.1 791 = .ok (.ireturn, 1) := by decide +kernel
theorem dL_law_792 : decode M_L_law.2.1 792 = .ok (.aload_n 1, 1) := by decide +kernel
theorem dL_law_793 : decode M_L_law.2.1 793 = .ok (.aload_n 0, 1) := by decide +kernel
theorem dL_law_794 : decode M_L_law.2.1 794 = .ok (.iload_n 3, 1) := by decide +kernel
theorem dL_law_795 : decode M_L_law.2.1 795 = .ok (.iconst 1, 1) := by decide +kernel
theorem dL_law_796 : decode M_L_law.2.1 796 = .ok (.iadd, 1) := by decide +kernel
theorem dL_law_797 : decode M_L_law.2.1 797 = .ok (.iaload, 1) := by decide +kernel
theorem dL_law_798 : decode M_L_law.2.1 798 = .ok (.aload_n 0, 1) := by decide +kernel
theorem dL_law_799 : decode M_L_law.2.1 799 = .ok (.iload_n 3, 1) := by decide +kernel
theorem dL_law_800 : decode M_L_law.2.1 800 = .ok (.iconst 2, 1) := by decide +kernel
theorem dL_law_801 : decode M_L_law.2.1 801 = .ok (.iadd, 1) := by decide +kernel
theorem dL_law_802 : decode M_L_law.2.1 802 = .ok (.iaload, 1) := by decide +kernel
theorem dL_law_803 : decode M_L_law.2.1 803 = .ok (.invokevirtual 103, 3) := by decide +kernel
theorem dL_law_806 : decode M_L_law.2.1 806 = .ok (.aload_n 2, 1) := by decide +kernel
theorem dL_law_807 : decode M_L_law.2.1 807 = .ok (.aload_n 0, 1) := by decide +kernel
theorem dL_law_808 : decode M_L_law.2.1 808 = .ok (.iload_n 3, 1) := by decide +kernel
theorem dL_law_809 : decode M_L_law.2.1 809 = .ok (.iconst 1, 1) := by decide +kernel
theorem dL_law_810 : decode M_L_law.2.1 810 = .ok (.iadd, 1) := by decide +kernel
theorem dL_law_811 : decode M_L_law.2.1 811 = .ok (.iaload, 1) := by decide +kernel
theorem dL_law_812 : decode M_L_law.2.1 812 = .ok (.aload_n 0, 1) := by decide +kernel
theorem dL_law_813 : decode M_L_law.2.1 813 = .ok (.iload_n 3, 1) := by decide +kernel
theorem dL_law_814 : decode M_L_law.2.1 814 = .ok (.iconst 2, 1) := by decide +kernel
theorem dL_law_815 : decode M_L_law.2.1 815 = .ok (.iadd, 1) := by decide +kernel
theorem dL_law_816 : decode M_L_law.2.1 816 = .ok (.iaload, 1) := by decide +kernel
theorem dL_law_817 : decode M_L_law.2.1 817 = .ok (.invokevirtual 106, 3) := by decide +kernel
theorem dL_law_820 : decode M_L_law.2.1 820 = .ok (.if_icmp .eq 524, 3) := by decide +kernel
theorem dL_law_823 : decode M_L_law.2.1 823 = .ok (.iconst 0, 1) := by decide +kernel
theorem dL_law_824 : decode M_L_law.2.1 824 = .ok (.ireturn, 1) := by decide +kernel
theorem dL_law_825 : decode M_L_law.2.1 825 = .ok (.aload_n 1, 1) := by decide +kernel
theorem dL_law_826 : decode M_L_law.2.1 826 = .ok (.aload_n 0, 1) := by decide +kernel
theorem dL_law_827 : decode M_L_law.2.1 827 = .ok (.iload_n 3, 1) := by decide +kernel
theorem dL_law_828 : decode M_L_law.2.1 828 = .ok (.iconst 1, 1) := by decide +kernel
theorem dL_law_829 : decode M_L_law.2.1 829 = .ok (.iadd, 1) := by decide +kernel
theorem dL_law_830 : decode M_L_law.2.1 830 = .ok (.iaload, 1) := by decide +kernel
theorem dL_law_831 : decode M_L_law.2.1 831 = .ok (.aload_n 0, 1) := by decide +kernel
theorem dL_law_832 : decode M_L_law.2.1 832 = .ok (.iload_n 3, 1) := by decide +kernel
theorem dL_law_833 : decode M_L_law.2.1 833 = .ok (.iconst 2, 1) := by decide +kernel
theorem dL_law_834 : decode M_L_law.2.1 834 = .ok (.iadd, 1) := by decide +kernel
theorem dL_law_835 : decode M_L_law.2.1 835 = .ok (.iaload, 1) := by decide +kernel
theorem dL_law_836 : decode M_L_law.2.1 836 = .ok (.invokevirtual 107, 3) := by decide +kernel
theorem dL_law_839 : decode M_L_law.2.1 839 = .ok (.aload_n 2, 1) := by decide +kernel
theorem dL_law_840 : decode M_L_law.2.1 840 = .ok (.aload_n 0, 1) := by decide +kernel
theorem dL_law_841 : decode M_L_law.2.1 841 = .ok (.iload_n 3, 1) := by decide +kernel
theorem dL_law_842 : decode M_L_law.2.1 842 = .ok (.iconst 1, 1) := by decide +kernel
theorem dL_law_843 : decode M_L_law.2.1 843 = .ok (.iadd, 1) := by decide +kernel
theorem dL_law_844 : decode M_L_law.2.1 844 = .ok (.iaload, 1) := by decide +kernel
theorem dL_law_845 : decode M_L_law.2.1 845 = .ok (.aload_n 0, 1) := by decide +kernel
theorem dL_law_846 : decode M_L_law.2.1 846 = .ok (.iload_n 3, 1) := by decide +kernel
theorem dL_law_847 : decode M_L_law.2.1 847 = .ok (.iconst 2, 1) := by decide +kernel
theorem dL_law_848 : decode M_L_law.2.1 848 = .ok (.iadd, 1) := by decide +kernel
theorem dL_law_849 : decode M_L_law.2.1 849 = .ok (.iaload, 1) := by decide +kernel
theorem dL_law_850 : decode M_L_law.2.1 850 = .ok (.invokevirtual 110, 3) := by decide +kernel
theorem dL_law_853 : decode M_L_law.2.1 853 = .ok (.if_icmp .eq 491, 3) := by decide +kernel
theorem dL_law_856 : decode M_L_law.2.1 856 = .ok (.iconst 0, 1) := by decide +kernel
theorem dL_law_857 : decode M_L_law.2.1 857 = .ok (.ireturn, 1) := by decide +kernel
theorem dL_law_858 : decode M_L_law.2.1 858 = .ok (.aload_n 1, 1) := by decide +kernel
theorem dL_law_859 : decode M_L_law.2.1 859 = .ok (.aload_n 0, 1) := by decide +kernel
theorem dL_law_860 : decode M_L_law.2.1 860 = .ok (.iload_n 3, 1) := by decide +kernel
theorem dL_law_861 : decode M_L_law.2.1 861 = .ok (.iconst 1, 1) := by decide +kernel
theorem dL_law_862 : decode M_L_law.2.1 862 = .ok (.iadd, 1) := by decide +kernel
theorem dL_law_863 : decode M_L_law.2.1 863 = .ok (.iaload, 1) := by decide +kernel
theorem dL_law_864 : decode M_L_law.2.1 864 = .ok (.aload_n 0, 1) := by decide +kernel
theorem dL_law_865 : decode M_L_law.2.1 865 = .ok (.iload_n 3, 1) := by decide +kernel
theorem dL_law_866 : decode M_L_law.2.1 866 = .ok (.iconst 2, 1) := by decide +kernel
theorem dL_law_867 : decode M_L_law.2.1 867 = .ok (.iadd, 1) := by decide +kernel
theorem dL_law_868 : decode M_L_law.2.1 868 = .ok (.iaload, 1) := by decide +kernel
theorem dL_law_869 : decode M_L_law.2.1 869 = .ok (.invokevirtual 111, 3) := by decide +kernel
theorem dL_law_872 : decode M_L_law.2.1 872 = .ok (.aload_n 2, 1) := by decide +kernel
theorem dL_law_873 : decode M_L_law.2.1 873 = .ok (.aload_n 0, 1) := by decide +kernel
theorem dL_law_874 : decode M_L_law.2.1 874 = .ok (.iload_n 3, 1) := by decide +kernel
theorem dL_law_875 : decode M_L_law.2.1 875 = .ok (.iconst 1, 1) := by decide +kernel
theorem dL_law_876 : decode M_L_law.2.1 876 = .ok (.iadd, 1) := by decide +kernel
theorem dL_law_877 : decode M_L_law.2.1 877 = .ok (.iaload, 1) := by decide +kernel
theorem dL_law_878 : decode M_L_law.2.1 878 = .ok (.aload_n 0, 1) := by decide +kernel
theorem dL_law_879 : decode M_L_law.2.1 879 = .ok (.iload_n 3, 1) := by decide +kernel
theorem dL_law_880 : decode M_L_law.2.1 880 = .ok (.iconst 2, 1) := by decide +kernel
theorem dL_law_881 : decode M_L_law.2.1 881 = .ok (.iadd, 1) := by decide +kernel
theorem dL_law_882 : decode M_L_law.2.1 882 = .ok (.iaload, 1) := by decide +kernel
theorem dL_law_883 : decode M_L_law.2.1 883 = .ok (.invokevirtual 114, 3) := by decide +kernel
theorem dL_law_886 : decode M_L_law.2.1 886 = .ok (.if_icmp .eq 458, 3) := by decide +kernel
theorem dL_law_889 : decode M_L_law.2.1 889 = .ok (.iconst 0, 1) := by decide +kernel
theorem dL_law_890 : decode M_L_law.2.1 890 = .ok (.ireturn, 1) := by decide +kernel
theorem dL_law_891 : decode M_L_law.2.1 891 = .ok (.aload_n 1, 1) := by decide +kernel
theorem dL_law_892 : decode M_L_law.2.1 892 = .ok (.aload_n 0, 1) := by decide +kernel
theorem dL_law_893 : decode M_L_law.2.1 893 = .ok (.iload_n 3, 1) := by decide +kernel
theorem dL_law_894 : decode M_L_law.2.1 894 = .ok (.iconst 1, 1) := by decide +kernel
theorem dL_law_895 : decode M_L_law.2.1 895 = .ok (.iadd, 1) := by decide +kernel
theorem dL_law_896 : decode M_L_law.2.1 896 = .ok (.iaload, 1) := by decide +kernel
theorem dL_law_897 : decode M_L_law.2.1 897 = .ok (.aload_n 0, 1) := by decide +kernel
theorem dL_law_898 : decode M_L_law.2.1 898 = .ok (.iload_n 3, 1) := by decide +kernel
theorem dL_law_899 : decode M_L_law.2.1 899 = .ok (.iconst 2, 1) := by decide +kernel
theorem dL_law_900 : decode M_L_law.2.1 900 = .ok (.iadd, 1) := by decide +kernel
theorem dL_law_901 : decode M_L_law.2.1 901 = .ok (.iaload, 1) := by decide +kernel
theorem dL_law_902 : decode M_L_law.2.1 902 = .ok (.aload_n 0, 1) := by decide +kernel
theorem dL_law_903 : decode M_L_law.2.1 903 = .ok (.iload_n 3, 1) := by decide +kernel
theorem dL_law_904 : decode M_L_law.2.1 904 = .ok (.iconst 3, 1) := by decide +kernel
theorem dL_law_905 : decode M_L_law.2.1 905 = .ok (.iadd, 1) := by decide +kernel
theorem dL_law_906 : decode M_L_law.2.1 906 = .ok (.iaload, 1) := by decide +kernel
theorem dL_law_907 : decode M_L_law.2.1 907 = .ok (.invokevirtual 115, 3) := by decide +kernel
theorem dL_law_910 : decode M_L_law.2.1 910 = .ok (.aload_n 2, 1) := by decide +kernel
theorem dL_law_911 : decode M_L_law.2.1 911 = .ok (.aload_n 0, 1) := by decide +kernel
theorem dL_law_912 : decode M_L_law.2.1 912 = .ok (.iload_n 3, 1) := by decide +kernel
theorem dL_law_913 : decode M_L_law.2.1 913 = .ok (.iconst 1, 1) := by decide +kernel
theorem dL_law_914 : decode M_L_law.2.1 914 = .ok (.iadd, 1) := by decide +kernel
theorem dL_law_915 : decode M_L_law.2.1 915 = .ok (.iaload, 1) := by decide +kernel
theorem dL_law_916 : decode M_L_law.2.1 916 = .ok (.aload_n 0, 1) := by decide +kernel
theorem dL_law_917 : decode M_L_law.2.1 917 = .ok (.iload_n 3, 1) := by decide +kernel
theorem dL_law_918 : decode M_L_law.2.1 918 = .ok (.iconst 2, 1) := by decide +kernel
theorem dL_law_919 : decode M_L_law.2.1 919 = .ok (.iadd, 1) := by decide +kernel
theorem dL_law_920 : decode M_L_law.2.1 920 = .ok (.iaload, 1) := by decide +kernel
theorem dL_law_921 : decode M_L_law.2.1 921 = .ok (.aload_n 0, 1) := by decide +kernel
theorem dL_law_922 : decode M_L_law.2.1 922 = .ok (.iload_n 3, 1) := by decide +kernel
theorem dL_law_923 : decode M_L_law.2.1 923 = .ok (.iconst 3, 1) := by decide +kernel
theorem dL_law_924 : decode M_L_law.2.1 924 = .ok (.iadd, 1) := by decide +kernel
theorem dL_law_925 : decode M_L_law.2.1 925 = .ok (.iaload, 1) := by decide +kernel
theorem dL_law_926 : decode M_L_law.2.1 926 = .ok (.invokevirtual 118, 3) := by decide +kernel
theorem dL_law_929 : decode M_L_law.2.1 929 = .ok (.if_icmp .eq 415, 3) := by decide +kernel
theorem dL_law_932 : decode M_L_law.2.1 932 = .ok (.iconst 0, 1) := by decide +kernel
theorem dL_law_933 : decode M_L_law.2.1 933 = .ok (.ireturn, 1) := by decide +kernel
theorem dL_law_934 : decode M_L_law.2.1 934 = .ok (.aload_n 1, 1) := by decide +kernel
theorem dL_law_935 : decode M_L_law.2.1 935 = .ok (.invokevirtual 119, 3) := by decide +kernel
theorem dL_law_938 : decode M_L_law.2.1 938 = .ok (.aload_n 2, 1) := by decide +kernel
theorem dL_law_939 : decode M_L_law.2.1 939 = .ok (.invokevirtual 122, 3) := by decide +kernel
theorem dL_law_942 : decode M_L_law.2.1 942 = .ok (.if_icmp .eq 402, 3) := by decide +kernel
theorem dL_law_945 : decode M_L_law.2.1 945 = .ok (.iconst 0, 1) := by decide +kernel
theorem dL_law_946 : decode M_L_law.2.1 946 = .ok (.ireturn, 1) := by decide +kernel
theorem dL_law_947 : decode M_L_law.2.1 947 = .ok (.aload_n 1, 1) := by decide +kernel
theorem dL_law_948 : decode M_L_law.2.1 948 = .ok (.aload_n 0, 1) := by decide +kernel
theorem dL_law_949 : decode M_L_law.2.1 949 = .ok (.iload_n 3, 1) := by decide +kernel
theorem dL_law_950 : decode M_L_law.2.1 950 = .ok (.iconst 1, 1) := by decide +kernel
theorem dL_law_951 : decode M_L_law.2.1 951 = .ok (.iadd, 1) := by decide +kernel
theorem dL_law_952 : decode M_L_law.2.1 952 = .ok (.iaload, 1) := by decide +kernel
theorem dL_law_953 : decode M_L_law.2.1 953 = .ok (.aload_n 0, 1) := by decide +kernel
theorem dL_law_954 : decode M_L_law.2.1 954 = .ok (.iload_n 3, 1) := by decide +kernel
theorem dL_law_955 : decode M_L_law.2.1 955 = .ok (.iconst 2, 1) := by decide +kernel
theorem dL_law_956 : decode M_L_law.2.1 956 = .ok (.iadd, 1) := by decide +kernel
theorem dL_law_957 : decode M_L_law.2.1 957 = .ok (.iaload, 1) := by decide +kernel
theorem dL_law_958 : decode M_L_law.2.1 958 = .ok (.invokevirtual 123, 3) := by decide +kernel
theorem dL_law_961 : decode M_L_law.2.1 961 = .ok (.aload_n 2, 1) := by decide +kernel
theorem dL_law_962 : decode M_L_law.2.1 962 = .ok (.aload_n 0, 1) := by decide +kernel
theorem dL_law_963 : decode M_L_law.2.1 963 = .ok (.iload_n 3, 1) := by decide +kernel
theorem dL_law_964 : decode M_L_law.2.1 964 = .ok (.iconst 1, 1) := by decide +kernel
theorem dL_law_965 : decode M_L_law.2.1 965 = .ok (.iadd, 1) := by decide +kernel
theorem dL_law_966 : decode M_L_law.2.1 966 = .ok (.iaload, 1) := by decide +kernel
theorem dL_law_967 : decode M_L_law.2.1 967 = .ok (.aload_n 0, 1) := by decide +kernel
theorem dL_law_968 : decode M_L_law.2.1 968 = .ok (.iload_n 3, 1) := by decide +kernel
theorem dL_law_969 : decode M_L_law.2.1 969 = .ok (.iconst 2, 1) := by decide +kernel
theorem dL_law_970 : decode M_L_law.2.1 970 = .ok (.iadd, 1) := by decide +kernel
theorem dL_law_971 : decode M_L_law.2.1 971 = .ok (.iaload, 1) := by decide +kernel
theorem dL_law_972 : decode M_L_law.2.1 972 = .ok (.invokevirtual 126, 3) := by decide +kernel
theorem dL_law_975 : decode M_L_law.2.1 975 = .ok (.if_icmp .eq 369, 3) := by decide +kernel
theorem dL_law_978 : decode M_L_law.2.1 978 = .ok (.iconst 0, 1) := by decide +kernel
theorem dL_law_979 : decode M_L_law.2.1 979 = .ok (.ireturn, 1) := by decide +kernel
theorem dL_law_980 : decode M_L_law.2.1 980 = .ok (.aload_n 1, 1) := by decide +kernel
theorem dL_law_981 : decode M_L_law.2.1 981 = .ok (.aload_n 0, 1) := by decide +kernel
theorem dL_law_982 : decode M_L_law.2.1 982 = .ok (.iload_n 3, 1) := by decide +kernel
theorem dL_law_983 : decode M_L_law.2.1 983 = .ok (.iconst 1, 1) := by decide +kernel
theorem dL_law_984 : decode M_L_law.2.1 984 = .ok (.iadd, 1) := by decide +kernel
theorem dL_law_985 : decode M_L_law.2.1 985 = .ok (.iaload, 1) := by decide +kernel
theorem dL_law_986 : decode M_L_law.2.1 986 = .ok (.invokevirtual 127, 3) := by decide +kernel
theorem dL_law_989 : decode M_L_law.2.1 989 = .ok (.aload_n 2, 1) := by decide +kernel
theorem dL_law_990 : decode M_L_law.2.1 990 = .ok (.aload_n 0, 1) := by decide +kernel
theorem dL_law_991 : decode M_L_law.2.1 991 = .ok (.iload_n 3, 1) := by decide +kernel
theorem dL_law_992 : decode M_L_law.2.1 992 = .ok (.iconst 1, 1) := by decide +kernel
theorem dL_law_993 : decode M_L_law.2.1 993 = .ok (.iadd, 1) := by decide +kernel
theorem dL_law_994 : decode M_L_law.2.1 994 = .ok (.iaload, 1) := by decide +kernel
theorem dL_law_995 : decode M_L_law.2.1 995 = .ok (.invokevirtual 130, 3) := by decide +kernel
theorem dL_law_998 : decode M_L_law.2.1 998 = .ok (.if_icmp .eq 346, 3) := by decide +kernel
theorem dL_law_1001 : decode M_L_law.2.1 1001 = .ok (.iconst 0, 1) := by decide +kernel
theorem dL_law_1002 : decode M_L_law.2.1 1002 = .ok (.ireturn, 1) := by decide +kernel
theorem dL_law_1003 : decode M_L_law.2.1 1003 = .ok (.aload_n 1, 1) := by decide +kernel
theorem dL_law_1004 : decode M_L_law.2.1 1004 = .ok (.aload_n 0, 1) := by decide +kernel
theorem dL_law_1005 : decode M_L_law.2.1 1005 = .ok (.iload_n 3, 1) := by decide +kernel
theorem dL_law_1006 : decode M_L_law.2.1 1006 = .ok (.iconst 1, 1) := by decide +kernel
theorem dL_law_1007 : decode M_L_law.2.1 1007 = .ok (.iadd, 1) := by decide +kernel
theorem dL_law_1008 : decode M_L_law.2.1 1008 = .ok (.iaload, 1) := by decide +kernel
theorem dL_law_1009 : decode M_L_law.2.1 1009 = .ok (.aload_n 0, 1) := by decide +kernel
theorem dL_law_1010 : decode M_L_law.2.1 1010 = .ok (.iload_n 3, 1) := by decide +kernel
theorem dL_law_1011 : decode M_L_law.2.1 1011 = .ok (.iconst 2, 1) := by decide +kernel
theorem dL_law_1012 : decode M_L_law.2.1 1012 = .ok (.iadd, 1) := by decide +kernel
theorem dL_law_1013 : decode M_L_law.2.1 1013 = .ok (.iaload, 1) := by decide +kernel
theorem dL_law_1014 : decode M_L_law.2.1 1014 = .ok (.invokevirtual 131, 3) := by decide +kernel
theorem dL_law_1017 : decode M_L_law.2.1 1017 = .ok (.aload_n 2, 1) := by decide +kernel
theorem dL_law_1018 : decode M_L_law.2.1 1018 = .ok (.aload_n 0, 1) := by decide +kernel
theorem dL_law_1019 : decode M_L_law.2.1 1019 = .ok (.iload_n 3, 1) := by decide +kernel
theorem dL_law_1020 : decode M_L_law.2.1 1020 = .ok (.iconst 1, 1) := by decide +kernel
theorem dL_law_1021 : decode M_L_law.2.1 1021 = .ok (.iadd, 1) := by decide +kernel
theorem dL_law_1022 : decode M_L_law.2.1 1022 = .ok (.iaload, 1) := by decide +kernel
theorem dL_law_1023 : decode M_L_law.2.1 1023 = .ok (.aload_n 0, 1) := by decide +kernel
theorem dL_law_1024 : decode M_L_law.2.1 1024 = .ok (.iload_n 3, 1) := by decide +kernel
theorem dL_law_1025 : decode M_L_law.2.1 1025 = .ok (.iconst 2, 1) := by decide +kernel
theorem dL_law_1026 : decode M_L_law.2.1 1026 = .ok (.iadd, 1) := by decide +kernel
theorem dL_law_1027 : decode M_L_law.2.1 1027 = .ok (.iaload, 1) := by decide +kernel
theorem dL_law_1028 : decode M_L_law.2.1 1028 = .ok (.invokevirtual 135, 3) := by decide +kernel
theorem dL_law_1031 : decode M_L_law.2.1 1031 = .ok (.lcmp, 1) := by decide +kernel
theorem dL_law_1032 : decode M_L_law.2.1 1032 = .ok (.ifCond .eq 312, 3) := by decide +kernel
theorem dL_law_1035 : decode M_L_law.2.1 1035 = .ok (.iconst 0, 1) := by decide +kernel
theorem dL_law_1036 : decode M_L_law.2.1 1036 = .ok (.ireturn, 1) := by decide +kernel
theorem dL_law_1037 : decode M_L_law.2.1 1037 = .ok (.aload_n 1, 1) := by decide +kernel
theorem dL_law_1038 : decode M_L_law.2.1 1038 = .ok (.aload_n 0, 1) := by decide +kernel
theorem dL_law_1039 : decode M_L_law.2.1 1039 = .ok (.iload_n 3, 1) := by decide +kernel
theorem dL_law_1040 : decode M_L_law.2.1 1040 = .ok (.iconst 1, 1) := by decide +kernel
theorem dL_law_1041 : decode M_L_law.2.1 1041 = .ok (.iadd, 1) := by decide +kernel
theorem dL_law_1042 : decode M_L_law.2.1 1042 = .ok (.iaload, 1) := by decide +kernel
theorem dL_law_1043 : decode M_L_law.2.1 1043 = .ok (.aload_n 0, 1) := by decide +kernel
theorem dL_law_1044 : decode M_L_law.2.1 1044 = .ok (.iload_n 3, 1) := by decide +kernel
theorem dL_law_1045 : decode M_L_law.2.1 1045 = .ok (.iconst 2, 1) := by decide +kernel
theorem dL_law_1046 : decode M_L_law.2.1 1046 = .ok (.iadd, 1) := by decide +kernel
theorem dL_law_1047 : decode M_L_law.2.1 1047 = .ok (.iaload, 1) := by decide +kernel
theorem dL_law_1048 : decode M_L_law.2.1 1048 = .ok (.invokevirtual 136, 3) := by decide +kernel
theorem dL_law_1051 : decode M_L_law.2.1 1051 = .ok (.aload_n 2, 1) := by decide +kernel
theorem dL_law_1052 : decode M_L_law.2.1 1052 = .ok (.aload_n 0, 1) := by decide +kernel
theorem dL_law_1053 : decode M_L_law.2.1 1053 = .ok (.iload_n 3, 1) := by decide +kernel
theorem dL_law_1054 : decode M_L_law.2.1 1054 = .ok (.iconst 1, 1) := by decide +kernel
theorem dL_law_1055 : decode M_L_law.2.1 1055 = .ok (.iadd, 1) := by decide +kernel
theorem dL_law_1056 : decode M_L_law.2.1 1056 = .ok (.iaload, 1) := by decide +kernel
theorem dL_law_1057 : decode M_L_law.2.1 1057 = .ok (.aload_n 0, 1) := by decide +kernel
theorem dL_law_1058 : decode M_L_law.2.1 1058 = .ok (.iload_n 3, 1) := by decide +kernel
theorem dL_law_1059 : decode M_L_law.2.1 1059 = .ok (.iconst 2, 1) := by decide +kernel
theorem dL_law_1060 : decode M_L_law.2.1 1060 = .ok (.iadd, 1) := by decide +kernel
theorem dL_law_1061 : decode M_L_law.2.1 1061 = .ok (.iaload, 1) := by decide +kernel
theorem dL_law_1062 : decode M_L_law.2.1 1062 = .ok (.invokevirtual 139, 3) := by decide +kernel
theorem dL_law_1065 : decode M_L_law.2.1 1065 = .ok (.lcmp, 1) := by decide +kernel
theorem dL_law_1066 : decode M_L_law.2.1 1066 = .ok (.ifCond .eq 278, 3) := by decide +kernel
theorem dL_law_1069 : decode M_L_law.2.1 1069 = .ok (.iconst 0, 1) := by decide +kernel
theorem dL_law_1070 : decode M_L_law.2.1 1070 = .ok (.ireturn, 1) := by decide +kernel
theorem dL_law_1071 : decode M_L_law.2.1 1071 = .ok (.aload_n 1, 1) := by decide +kernel
theorem dL_law_1072 : decode M_L_law.2.1 1072 = .ok (.aload_n 0, 1) := by decide +kernel
theorem dL_law_1073 : decode M_L_law.2.1 1073 = .ok (.iload_n 3, 1) := by decide +kernel
theorem dL_law_1074 : decode M_L_law.2.1 1074 = .ok (.iconst 1, 1) := by decide +kernel
theorem dL_law_1075 : decode M_L_law.2.1 1075 = .ok (.iadd, 1) := by decide +kernel
theorem dL_law_1076 : decode M_L_law.2.1 1076 = .ok (.iaload, 1) := by decide +kernel
theorem dL_law_1077 : decode M_L_law.2.1 1077 = .ok (.invokevirtual 140, 3) := by decide +kernel
theorem dL_law_1080 : decode M_L_law.2.1 1080 = .ok (.aload_n 2, 1) := by decide +kernel
theorem dL_law_1081 : decode M_L_law.2.1 1081 = .ok (.aload_n 0, 1) := by decide +kernel
theorem dL_law_1082 : decode M_L_law.2.1 1082 = .ok (.iload_n 3, 1) := by decide +kernel
theorem dL_law_1083 : decode M_L_law.2.1 1083 = .ok (.iconst 1, 1) := by decide +kernel
theorem dL_law_1084 : decode M_L_law.2.1 1084 = .ok (.iadd, 1) := by decide +kernel
theorem dL_law_1085 : decode M_L_law.2.1 1085 = .ok (.iaload, 1) := by decide +kernel
theorem dL_law_1086 : decode M_L_law.2.1 1086 = .ok (.invokevirtual 143, 3) := by decide +kernel
theorem dL_law_1089 : decode M_L_law.2.1 1089 = .ok (.if_icmp .eq 255, 3) := by decide +kernel
theorem dL_law_1092 : decode M_L_law.2.1 1092 = .ok (.iconst 0, 1) := by decide +kernel
theorem dL_law_1093 : decode M_L_law.2.1 1093 = .ok (.ireturn, 1) := by decide +kernel
theorem dL_law_1094 : decode M_L_law.2.1 1094 = .ok (.aload_n 1, 1) := by decide +kernel
theorem dL_law_1095 : decode M_L_law.2.1 1095 = .ok (.aload_n 0, 1) := by decide +kernel
theorem dL_law_1096 : decode M_L_law.2.1 1096 = .ok (.iload_n 3, 1) := by decide +kernel
theorem dL_law_1097 : decode M_L_law.2.1 1097 = .ok (.iconst 1, 1) := by decide +kernel
theorem dL_law_1098 : decode M_L_law.2.1 1098 = .ok (.iadd, 1) := by decide +kernel
theorem dL_law_1099 : decode M_L_law.2.1 1099 = .ok (.iaload, 1) := by decide +kernel
theorem dL_law_1100 : decode M_L_law.2.1 1100 = .ok (.aload_n 0, 1) := by decide +kernel
theorem dL_law_1101 : decode M_L_law.2.1 1101 = .ok (.iload_n 3, 1) := by decide +kernel
theorem dL_law_1102 : decode M_L_law.2.1 1102 = .ok (.iconst 2, 1) := by decide +kernel
theorem dL_law_1103 : decode M_L_law.2.1 1103 = .ok (.iadd, 1) := by decide +kernel
theorem dL_law_1104 : decode M_L_law.2.1 1104 = .ok (.iaload, 1) := by decide +kernel
theorem dL_law_1105 : decode M_L_law.2.1 1105 = .ok (.invokevirtual 144, 3) := by decide +kernel
theorem dL_law_1108 : decode M_L_law.2.1 1108 = .ok (.aload_n 2, 1) := by decide +kernel
theorem dL_law_1109 : decode M_L_law.2.1 1109 = .ok (.aload_n 0, 1) := by decide +kernel
theorem dL_law_1110 : decode M_L_law.2.1 1110 = .ok (.iload_n 3, 1) := by decide +kernel
theorem dL_law_1111 : decode M_L_law.2.1 1111 = .ok (.iconst 1, 1) := by decide +kernel
theorem dL_law_1112 : decode M_L_law.2.1 1112 = .ok (.iadd, 1) := by decide +kernel
theorem dL_law_1113 : decode M_L_law.2.1 1113 = .ok (.iaload, 1) := by decide +kernel
theorem dL_law_1114 : decode M_L_law.2.1 1114 = .ok (.aload_n 0, 1) := by decide +kernel
theorem dL_law_1115 : decode M_L_law.2.1 1115 = .ok (.iload_n 3, 1) := by decide +kernel
theorem dL_law_1116 : decode M_L_law.2.1 1116 = .ok (.iconst 2, 1) := by decide +kernel
theorem dL_law_1117 : decode M_L_law.2.1 1117 = .ok (.iadd, 1) := by decide +kernel
theorem dL_law_1118 : decode M_L_law.2.1 1118 = .ok (.iaload, 1) := by decide +kernel
theorem dL_law_1119 : decode M_L_law.2.1 1119 = .ok (.invokevirtual 147, 3) := by decide +kernel
theorem dL_law_1122 : decode M_L_law.2.1 1122 = .ok (.if_icmp .eq 222, 3) := by decide +kernel
theorem dL_law_1125 : decode M_L_law.2.1 1125 = .ok (.iconst 0, 1) := by decide +kernel
theorem dL_law_1126 : decode M_L_law.2.1 1126 = .ok (.ireturn, 1) := by decide +kernel
theorem dL_law_1127 : decode M_L_law.2.1 1127 = .ok (.aload_n 1, 1) := by decide +kernel
theorem dL_law_1128 : decode M_L_law.2.1 1128 = .ok (.aload_n 0, 1) := by decide +kernel
theorem dL_law_1129 : decode M_L_law.2.1 1129 = .ok (.iload_n 3, 1) := by decide +kernel
theorem dL_law_1130 : decode M_L_law.2.1 1130 = .ok (.iconst 1, 1) := by decide +kernel
theorem dL_law_1131 : decode M_L_law.2.1 1131 = .ok (.iadd, 1) := by decide +kernel
theorem dL_law_1132 : decode M_L_law.2.1 1132 = .ok (.iaload, 1) := by decide +kernel
theorem dL_law_1133 : decode M_L_law.2.1 1133 = .ok (.invokevirtual 148, 3) := by decide +kernel
theorem dL_law_1136 : decode M_L_law.2.1 1136 = .ok (.aload_n 2, 1) := by decide +kernel
theorem dL_law_1137 : decode M_L_law.2.1 1137 = .ok (.aload_n 0, 1) := by decide +kernel
theorem dL_law_1138 : decode M_L_law.2.1 1138 = .ok (.iload_n 3, 1) := by decide +kernel
theorem dL_law_1139 : decode M_L_law.2.1 1139 = .ok (.iconst 1, 1) := by decide +kernel
theorem dL_law_1140 : decode M_L_law.2.1 1140 = .ok (.iadd, 1) := by decide +kernel
theorem dL_law_1141 : decode M_L_law.2.1 1141 = .ok (.iaload, 1) := by decide +kernel
theorem dL_law_1142 : decode M_L_law.2.1 1142 = .ok (.invokevirtual 151, 3) := by decide +kernel
theorem dL_law_1145 : decode M_L_law.2.1 1145 = .ok (.if_icmp .eq 199, 3) := by decide +kernel
theorem dL_law_1148 : decode M_L_law.2.1 1148 = .ok (.iconst 0, 1) := by decide +kernel
theorem dL_law_1149 : decode M_L_law.2.1 1149 = .ok (.ireturn, 1) := by decide +kernel
theorem dL_law_1150 : decode M_L_law.2.1 1150 = .ok (.aload_n 1, 1) := by decide +kernel
theorem dL_law_1151 : decode M_L_law.2.1 1151 = .ok (.aload_n 0, 1) := by decide +kernel
theorem dL_law_1152 : decode M_L_law.2.1 1152 = .ok (.iload_n 3, 1) := by decide +kernel
theorem dL_law_1153 : decode M_L_law.2.1 1153 = .ok (.iconst 1, 1) := by decide +kernel
theorem dL_law_1154 : decode M_L_law.2.1 1154 = .ok (.iadd, 1) := by decide +kernel
theorem dL_law_1155 : decode M_L_law.2.1 1155 = .ok (.iaload, 1) := by decide +kernel
theorem dL_law_1156 : decode M_L_law.2.1 1156 = .ok (.aload_n 0, 1) := by decide +kernel
theorem dL_law_1157 : decode M_L_law.2.1 1157 = .ok (.iload_n 3, 1) := by decide +kernel
theorem dL_law_1158 : decode M_L_law.2.1 1158 = .ok (.iconst 2, 1) := by decide +kernel
theorem dL_law_1159 : decode M_L_law.2.1 1159 = .ok (.iadd, 1) := by decide +kernel
theorem dL_law_1160 : decode M_L_law.2.1 1160 = .ok (.iaload, 1) := by decide +kernel
theorem dL_law_1161 : decode M_L_law.2.1 1161 = .ok (.invokevirtual 152, 3) := by decide +kernel
theorem dL_law_1164 : decode M_L_law.2.1 1164 = .ok (.aload_n 2, 1) := by decide +kernel
theorem dL_law_1165 : decode M_L_law.2.1 1165 = .ok (.aload_n 0, 1) := by decide +kernel
theorem dL_law_1166 : decode M_L_law.2.1 1166 = .ok (.iload_n 3, 1) := by decide +kernel
theorem dL_law_1167 : decode M_L_law.2.1 1167 = .ok (.iconst 1, 1) := by decide +kernel
theorem dL_law_1168 : decode M_L_law.2.1 1168 = .ok (.iadd, 1) := by decide +kernel
theorem dL_law_1169 : decode M_L_law.2.1 1169 = .ok (.iaload, 1) := by decide +kernel
theorem dL_law_1170 : decode M_L_law.2.1 1170 = .ok (.aload_n 0, 1) := by decide +kernel
theorem dL_law_1171 : decode M_L_law.2.1 1171 = .ok (.iload_n 3, 1) := by decide +kernel
theorem dL_law_1172 : decode M_L_law.2.1 1172 = .ok (.iconst 2, 1) := by decide +kernel
theorem dL_law_1173 : decode M_L_law.2.1 1173 = .ok (.iadd, 1) := by decide +kernel
theorem dL_law_1174 : decode M_L_law.2.1 1174 = .ok (.iaload, 1) := by decide +kernel
theorem dL_law_1175 : decode M_L_law.2.1 1175 = .ok (.invokevirtual 155, 3) := by decide +kernel
theorem dL_law_1178 : decode M_L_law.2.1 1178 = .ok (.if_icmp .eq 166, 3) := by decide +kernel
theorem dL_law_1181 : decode M_L_law.2.1 1181 = .ok (.iconst 0, 1) := by decide +kernel
theorem dL_law_1182 : decode M_L_law.2.1 1182 = .ok (.ireturn, 1) := by decide +kernel
theorem dL_law_1183 : decode M_L_law.2.1 1183 = .ok (.aload_n 1, 1) := by decide +kernel
theorem dL_law_1184 : decode M_L_law.2.1 1184 = .ok (.invokevirtual 156, 3) := by decide +kernel
theorem dL_law_1187 : decode M_L_law.2.1 1187 = .ok (.aload_n 2, 1) := by decide +kernel
theorem dL_law_1188 : decode M_L_law.2.1 1188 = .ok (.invokevirtual 159, 3) := by decide +kernel
theorem dL_law_1191 : decode M_L_law.2.1 1191 = .ok (.if_icmp .eq 153, 3) := by decide +kernel
theorem dL_law_1194 : decode M_L_law.2.1 1194 = .ok (.iconst 0, 1) := by decide +kernel
theorem dL_law_1195 : decode M_L_law.2.1 1195 = .ok (.ireturn, 1) := by decide +kernel
theorem dL_law_1196 : decode M_L_law.2.1 1196 = .ok (.aload_n 1, 1) := by decide +kernel
theorem dL_law_1197 : decode M_L_law.2.1 1197 = .ok (.aload_n 0, 1) := by decide +kernel
theorem dL_law_1198 : decode M_L_law.2.1 1198 = .ok (.iload_n 3, 1) := by decide +kernel
theorem dL_law_1199 : decode M_L_law.2.1 1199 = .ok (.iconst 1, 1) := by decide +kernel
theorem dL_law_1200 : decode M_L_law.2.1 1200 = .ok (.iadd, 1) := by decide +kernel
theorem dL_law_1201 : decode M_L_law.2.1 1201 = .ok (.iaload, 1) := by decide +kernel
theorem dL_law_1202 : decode M_L_law.2.1 1202 = .ok (.aload_n 0, 1) := by decide +kernel
theorem dL_law_1203 : decode M_L_law.2.1 1203 = .ok (.iload_n 3, 1) := by decide +kernel
theorem dL_law_1204 : decode M_L_law.2.1 1204 = .ok (.iconst 2, 1) := by decide +kernel
theorem dL_law_1205 : decode M_L_law.2.1 1205 = .ok (.iadd, 1) := by decide +kernel
theorem dL_law_1206 : decode M_L_law.2.1 1206 = .ok (.iaload, 1) := by decide +kernel
theorem dL_law_1207 : decode M_L_law.2.1 1207 = .ok (.aload_n 0, 1) := by decide +kernel
theorem dL_law_1208 : decode M_L_law.2.1 1208 = .ok (.iload_n 3, 1) := by decide +kernel
theorem dL_law_1209 : decode M_L_law.2.1 1209 = .ok (.iconst 3, 1) := by decide +kernel
theorem dL_law_1210 : decode M_L_law.2.1 1210 = .ok (.iadd, 1) := by decide +kernel
theorem dL_law_1211 : decode M_L_law.2.1 1211 = .ok (.iaload, 1) := by decide +kernel
theorem dL_law_1212 : decode M_L_law.2.1 1212 = .ok (.invokevirtual 160, 3) := by decide +kernel
theorem dL_law_1215 : decode M_L_law.2.1 1215 = .ok (.aload_n 2, 1) := by decide +kernel
theorem dL_law_1216 : decode M_L_law.2.1 1216 = .ok (.aload_n 0, 1) := by decide +kernel
theorem dL_law_1217 : decode M_L_law.2.1 1217 = .ok (.iload_n 3, 1) := by decide +kernel
theorem dL_law_1218 : decode M_L_law.2.1 1218 = .ok (.iconst 1, 1) := by decide +kernel
theorem dL_law_1219 : decode M_L_law.2.1 1219 = .ok (.iadd, 1) := by decide +kernel
theorem dL_law_1220 : decode M_L_law.2.1 1220 = .ok (.iaload, 1) := by decide +kernel
theorem dL_law_1221 : decode M_L_law.2.1 1221 = .ok (.aload_n 0, 1) := by decide +kernel
theorem dL_law_1222 : decode M_L_law.2.1 1222 = .ok (.iload_n 3, 1) := by decide +kernel
theorem dL_law_1223 : decode M_L_law.2.1 1223 = .ok (.iconst 2, 1) := by decide +kernel
theorem dL_law_1224 : decode M_L_law.2.1 1224 = .ok (.iadd, 1) := by decide +kernel
theorem dL_law_1225 : decode M_L_law.2.1 1225 = .ok (.iaload, 1) := by decide +kernel
theorem dL_law_1226 : decode M_L_law.2.1 1226 = .ok (.aload_n 0, 1) := by decide +kernel
theorem dL_law_1227 : decode M_L_law.2.1 1227 = .ok (.iload_n 3, 1) := by decide +kernel
theorem dL_law_1228 : decode M_L_law.2.1 1228 = .ok (.iconst 3, 1) := by decide +kernel
theorem dL_law_1229 : decode M_L_law.2.1 1229 = .ok (.iadd, 1) := by decide +kernel
theorem dL_law_1230 : decode M_L_law.2.1 1230 = .ok (.iaload, 1) := by decide +kernel
theorem dL_law_1231 : decode M_L_law.2.1 1231 = .ok (.invokevirtual 163, 3) := by decide +kernel
theorem dL_law_1234 : decode M_L_law.2.1 1234 = .ok (.if_icmp .eq 110, 3) := by decide +kernel
theorem dL_law_1237 : decode M_L_law.2.1 1237 = .ok (.iconst 0, 1) := by decide +kernel
theorem dL_law_1238 : decode M_L_law.2.1 1238 = .ok (.ireturn, 1) := by decide +kernel
theorem dL_law_1239 : decode M_L_law.2.1 1239 = .ok (.aload_n 1, 1) := by decide +kernel
theorem dL_law_1240 : decode M_L_law.2.1 1240 = .ok (.aload_n 0, 1) := by decide +kernel
theorem dL_law_1241 : decode M_L_law.2.1 1241 = .ok (.iload_n 3, 1) := by decide +kernel
theorem dL_law_1242 : decode M_L_law.2.1 1242 = .ok (.iconst 1, 1) := by decide +kernel
theorem dL_law_1243 : decode M_L_law.2.1 1243 = .ok (.iadd, 1) := by decide +kernel
theorem dL_law_1244 : decode M_L_law.2.1 1244 = .ok (.iaload, 1) := by decide +kernel
theorem dL_law_1245 : decode M_L_law.2.1 1245 = .ok (.invokevirtual 164, 3) := by decide +kernel
theorem dL_law_1248 : decode M_L_law.2.1 1248 = .ok (.aload_n 2, 1) := by decide +kernel
theorem dL_law_1249 : decode M_L_law.2.1 1249 = .ok (.aload_n 0, 1) := by decide +kernel
theorem dL_law_1250 : decode M_L_law.2.1 1250 = .ok (.iload_n 3, 1) := by decide +kernel
theorem dL_law_1251 : decode M_L_law.2.1 1251 = .ok (.iconst 1, 1) := by decide +kernel
theorem dL_law_1252 : decode M_L_law.2.1 1252 = .ok (.iadd, 1) := by decide +kernel
theorem dL_law_1253 : decode M_L_law.2.1 1253 = .ok (.iaload, 1) := by decide +kernel
theorem dL_law_1254 : decode M_L_law.2.1 1254 = .ok (.invokevirtual 167, 3) := by decide +kernel
theorem dL_law_1257 : decode M_L_law.2.1 1257 = .ok (.if_icmp .eq 87, 3) := by decide +kernel
theorem dL_law_1260 : decode M_L_law.2.1 1260 = .ok (.iconst 0, 1) := by decide +kernel
theorem dL_law_1261 : decode M_L_law.2.1 1261 = .ok (.ireturn, 1) := by decide +kernel
theorem dL_law_1262 : decode M_L_law.2.1 1262 = .ok (.aload_n 1, 1) := by decide +kernel
theorem dL_law_1263 : decode M_L_law.2.1 1263 = .ok (.aload_n 0, 1) := by decide +kernel
theorem dL_law_1264 : decode M_L_law.2.1 1264 = .ok (.iload_n 3, 1) := by decide +kernel
theorem dL_law_1265 : decode M_L_law.2.1 1265 = .ok (.iconst 1, 1) := by decide +kernel
theorem dL_law_1266 : decode M_L_law.2.1 1266 = .ok (.iadd, 1) := by decide +kernel
theorem dL_law_1267 : decode M_L_law.2.1 1267 = .ok (.iaload, 1) := by decide +kernel
theorem dL_law_1268 : decode M_L_law.2.1 1268 = .ok (.aload_n 0, 1) := by decide +kernel
theorem dL_law_1269 : decode M_L_law.2.1 1269 = .ok (.iload_n 3, 1) := by decide +kernel
theorem dL_law_1270 : decode M_L_law.2.1 1270 = .ok (.iconst 2, 1) := by decide +kernel
theorem dL_law_1271 : decode M_L_law.2.1 1271 = .ok (.iadd, 1) := by decide +kernel
theorem dL_law_1272 : decode M_L_law.2.1 1272 = .ok (.iaload, 1) := by decide +kernel
theorem dL_law_1273 : decode M_L_law.2.1 1273 = .ok (.invokevirtual 168, 3) := by decide +kernel
theorem dL_law_1276 : decode M_L_law.2.1 1276 = .ok (.aload_n 2, 1) := by decide +kernel
theorem dL_law_1277 : decode M_L_law.2.1 1277 = .ok (.aload_n 0, 1) := by decide +kernel
theorem dL_law_1278 : decode M_L_law.2.1 1278 = .ok (.iload_n 3, 1) := by decide +kernel
theorem dL_law_1279 : decode M_L_law.2.1 1279 = .ok (.iconst 1, 1) := by decide +kernel
theorem dL_law_1280 : decode M_L_law.2.1 1280 = .ok (.iadd, 1) := by decide +kernel
theorem dL_law_1281 : decode M_L_law.2.1 1281 = .ok (.iaload, 1) := by decide +kernel
theorem dL_law_1282 : decode M_L_law.2.1 1282 = .ok (.aload_n 0, 1) := by decide +kernel
theorem dL_law_1283 : decode M_L_law.2.1 1283 = .ok (.iload_n 3, 1) := by decide +kernel
theorem dL_law_1284 : decode M_L_law.2.1 1284 = .ok (.iconst 2, 1) := by decide +kernel
theorem dL_law_1285 : decode M_L_law.2.1 1285 = .ok (.iadd, 1) := by decide +kernel
theorem dL_law_1286 : decode M_L_law.2.1 1286 = .ok (.iaload, 1) := by decide +kernel
theorem dL_law_1287 : decode M_L_law.2.1 1287 = .ok (.invokevirtual 171, 3) := by decide +kernel
theorem dL_law_1290 : decode M_L_law.2.1 1290 = .ok (.if_icmp .eq 54, 3) := by decide +kernel
theorem dL_law_1293 : decode M_L_law.2.1 1293 = .ok (.iconst 0, 1) := by decide +kernel
theorem dL_law_1294 : decode M_L_law.2.1 1294 = .ok (.ireturn, 1) := by decide +kernel
theorem dL_law_1295 : decode M_L_law.2.1 1295 = .ok (.aload_n 1, 1) := by decide +kernel
theorem dL_law_1296 : decode M_L_law.2.1 1296 = .ok (.invokevirtual 172, 3) := by decide +kernel
theorem dL_law_1299 : decode M_L_law.2.1 1299 = .ok (.aload_n 2, 1) := by decide +kernel
theorem dL_law_1300 : decode M_L_law.2.1 1300 = .ok (.invokevirtual 175, 3) := by decide +kernel
theorem dL_law_1303 : decode M_L_law.2.1 1303 = .ok (.if_icmp .eq 41, 3) := by decide +kernel
theorem dL_law_1306 : decode M_L_law.2.1 1306 = .ok (.iconst 0, 1) := by decide +kernel
theorem dL_law_1307 : decode M_L_law.2.1 1307 = .ok (.ireturn, 1) := by decide +kernel
theorem dL_law_1308 : decode M_L_law.2.1 1308 = .ok (.aload_n 1, 1) := by decide +kernel
theorem dL_law_1309 : decode M_L_law.2.1 1309 = .ok (.invokevirtual 176, 3) := by decide +kernel
theorem dL_law_1312 : decode M_L_law.2.1 1312 = .ok (.aload_n 2, 1) := by decide +kernel
theorem dL_law_1313 : decode M_L_law.2.1 1313 = .ok (.invokevirtual 179, 3) := by decide +kernel
theorem dL_law_1316 : decode M_L_law.2.1 1316 = .ok (.if_icmp .eq 28, 3) := by decide +kernel
theorem dL_law_1319 : decode M_L_law.2.1 1319 = .ok (.iconst 0, 1) := by decide +kernel
theorem dL_law_1320 : decode M_L_law.2.1 1320 = .ok (.ireturn, 1) := by decide +kernel
theorem dL_law_1321 : decode M_L_law.2.1 1321 = .ok (.aload_n 1, 1) := by decide +kernel
theorem dL_law_1322 : decode M_L_law.2.1 1322 = .ok (.aload_n 0, 1) := by decide +kernel
theorem dL_law_1323 : decode M_L_law.2.1 1323 = .ok (.iload_n 3, 1) := by decide +kernel
theorem dL_law_1324 : decode M_L_law.2.1 1324 = .ok (.iconst 1, 1) := by decide +kernel
theorem dL_law_1325 : decode M_L_law.2.1 1325 = .ok (.iadd, 1) := by decide +kernel
theorem dL_law_1326 : decode M_L_law.2.1 1326 = .ok (.iaload, 1) := by decide +kernel
theorem dL_law_1327 : decode M_L_law.2.1 1327 = .ok (.invokevirtual 180, 3) := by decide +kernel
theorem dL_law_1330 : decode M_L_law.2.1 1330 = .ok (.aload_n 2, 1) := by decide +kernel
theorem dL_law_1331 : decode M_L_law.2.1 1331 = .ok (.aload_n 0, 1) := by decide +kernel
theorem dL_law_1332 : decode M_L_law.2.1 1332 = .ok (.iload_n 3, 1) := by decide +kernel
theorem dL_law_1333 : decode M_L_law.2.1 1333 = .ok (.iconst 1, 1) := by decide +kernel
theorem dL_law_1334 : decode M_L_law.2.1 1334 = .ok (.iadd, 1) := by decide +kernel
theorem dL_law_1335 : decode M_L_law.2.1 1335 = .ok (.iaload, 1) := by decide +kernel
theorem dL_law_1336 : decode M_L_law.2.1 1336 = .ok (.invokevirtual 183, 3) := by decide +kernel
theorem dL_law_1339 : decode M_L_law.2.1 1339 = .ok (.if_icmp .eq 5, 3) := by decide +kernel
theorem dL_law_1342 : decode M_L_law.2.1 1342 = .ok (.iconst 0, 1) := by decide +kernel
theorem dL_law_1343 : decode M_L_law.2.1 1343 = .ok (.ireturn, 1) := by decide +kernel
theorem dL_law_1344 : decode M_L_law.2.1 1344 = .ok (.iinc 3 4, 3) := by decide +kernel
theorem dL_law_1347 : decode M_L_law.2.1 1347 = .ok (.goto (-1329), 3) := by decide +kernel
theorem dL_law_1350 : decode M_L_law.2.1 1350 = .ok (.iconst 1, 1) := by decide +kernel
theorem dL_law_1351 : decode M_L_law.2.1 1351 = .ok (.ireturn, 1) := by decide +kernel
