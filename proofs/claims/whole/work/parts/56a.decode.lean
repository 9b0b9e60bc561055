/-! the law, its instructions -/
theorem dL_0 : decode code 0 = .ok (.new 7, 3) := by decide +kernel
theorem dL_3 : decode code 3 = .ok (.dup, 1) := by decide +kernel
theorem dL_4 : decode code 4 = .ok (.invokespecial 9, 3) := by decide +kernel
theorem dL_7 : decode code 7 = .ok (.astore_n 1, 1) := by decide +kernel
theorem dL_8 : decode code 8 = .ok (.new 10, 3) := by decide +kernel
theorem dL_11 : decode code 11 = .ok (.dup, 1) := by decide +kernel
theorem dL_12 : decode code 12 = .ok (.invokespecial 12, 3) := by decide +kernel
theorem dL_15 : decode code 15 = .ok (.astore_n 2, 1) := by decide +kernel
theorem dL_16 : decode code 16 = .ok (.iconst 0, 1) := by decide +kernel
theorem dL_17 : decode code 17 = .ok (.istore_n 3, 1) := by decide +kernel
theorem dL_18 : decode code 18 = .ok (.iload_n 3, 1) := by decide +kernel
theorem dL_19 : decode code 19 = .ok (.aload_n 0, 1) := by decide +kernel
theorem dL_20 : decode code 20 = .ok (.arraylength, 1) := by decide +kernel
theorem dL_21 : decode code 21 = .ok (.bipush 6, 2) := by decide +kernel
theorem dL_23 : decode code 23 = .ok (.isub, 1) := by decide +kernel
theorem dL_24 : decode code 24 = .ok (.if_icmp .gt 1734, 3) := by decide +kernel
theorem dL_27 : decode code 27 = .ok (.aload_n 0, 1) := by decide +kernel
theorem dL_28 : decode code 28 = .ok (.iload_n 3, 1) := by decide +kernel
theorem dL_29 : decode code 29 = .ok (.iaload, 1) := by decide +kernel
theorem dL_30 : decode code 30 = .ok (.bipush 63, 2) := by decide +kernel
theorem dL_32 : decode code 32 = .ok (.iand, 1) := by decide +kernel
theorem dL_33 : decode code 33 = .ok (.tableswitch 1719 0 51 #[223, 266, 299, 332, 365, 398, 431, 464, 497, 540, 563, 586, 619, 642, 665, 698, 721, 734, 757, 780, 813, 836, 879, 922, 945, 968, 981, 994, 1007, 1050, 1103, 1136, 1159, 1192, 1225, 1248, 1271, 1294, 1327, 1340, 1353, 1386, 1419, 1462, 1505, 1568, 1601, 1634, 1647, 1660, 1673, 1696], 223) := by decide +kernel
theorem dL_256 : decode code 256 = .ok (.aload_n 1, 1) := by decide +kernel
theorem dL_257 : decode code 257 = .ok (.aload_n 0, 1) := by decide +kernel
theorem dL_258 : decode code 258 = .ok (.iload_n 3, 1) := by decide +kernel
theorem dL_259 : decode code 259 = .ok (.iconst 1, 1) := by decide +kernel
theorem dL_260 : decode code 260 = .ok (.iadd, 1) := by decide +kernel
theorem dL_261 : decode code 261 = .ok (.iaload, 1) := by decide +kernel
theorem dL_262 : decode code 262 = .ok (.aload_n 0, 1) := by decide +kernel
theorem dL_263 : decode code 263 = .ok (.iload_n 3, 1) := by decide +kernel
theorem dL_264 : decode code 264 = .ok (.iconst 2, 1) := by decide +kernel
theorem dL_265 : decode code 265 = .ok (.iadd, 1) := by decide +kernel
theorem dL_266 : decode code 266 = .ok (.iaload, 1) := by decide +kernel
theorem dL_267 : decode code 267 = .ok (.aload_n 0, 1) := by decide +kernel
theorem dL_268 : decode code 268 = .ok (.iload_n 3, 1) := by decide +kernel
theorem dL_269 : decode code 269 = .ok (.iconst 3, 1) := by decide +kernel
theorem dL_270 : decode code 270 = .ok (.iadd, 1) := by decide +kernel
theorem dL_271 : decode code 271 = .ok (.iaload, 1) := by decide +kernel
theorem dL_272 : decode code 272 = .ok (.invokevirtual 13, 3) := by decide +kernel
theorem dL_275 : decode code 275 = .ok (.aload_n 2, 1) := by decide +kernel
theorem dL_276 : decode code 276 = .ok (.aload_n 0, 1) := by decide +kernel
theorem dL_277 : decode code 277 = .ok (.iload_n 3, 1) := by decide +kernel
theorem dL_278 : decode code 278 = .ok (.iconst 1, 1) := by decide +kernel
theorem dL_279 : decode code 279 = .ok (.iadd, 1) := by decide +kernel
theorem dL_280 : decode code 280 = .ok (.iaload, 1) := by decide +kernel
theorem dL_281 : decode code 281 = .ok (.aload_n 0, 1) := by decide +kernel
theorem dL_282 : decode code 282 = .ok (.iload_n 3, 1) := by decide +kernel
theorem dL_283 : decode code 283 = .ok (.iconst 2, 1) := by decide +kernel
theorem dL_284 : decode code 284 = .ok (.iadd, 1) := by decide +kernel
theorem dL_285 : decode code 285 = .ok (.iaload, 1) := by decide +kernel
theorem dL_286 : decode code 286 = .ok (.aload_n 0, 1) := by decide +kernel
theorem dL_287 : decode code 287 = .ok (.iload_n 3, 1) := by decide +kernel
theorem dL_288 : decode code 288 = .ok (.iconst 3, 1) := by decide +kernel
theorem dL_289 : decode code 289 = .ok (.iadd, 1) := by decide +kernel
theorem dL_290 : decode code 290 = .ok (.iaload, 1) := by decide +kernel
theorem dL_291 : decode code 291 = .ok (.invokevirtual 17, 3) := by decide +kernel
theorem dL_294 : decode code 294 = .ok (.if_icmp .eq 1458, 3) := by decide +kernel
theorem dL_299 : decode code 299 = .ok (.aload_n 1, 1) := by decide +kernel
theorem dL_300 : decode code 300 = .ok (.aload_n 0, 1) := by decide +kernel
theorem dL_301 : decode code 301 = .ok (.iload_n 3, 1) := by decide +kernel
theorem dL_302 : decode code 302 = .ok (.iconst 1, 1) := by decide +kernel
theorem dL_303 : decode code 303 = .ok (.iadd, 1) := by decide +kernel
theorem dL_304 : decode code 304 = .ok (.iaload, 1) := by decide +kernel
theorem dL_305 : decode code 305 = .ok (.aload_n 0, 1) := by decide +kernel
theorem dL_306 : decode code 306 = .ok (.iload_n 3, 1) := by decide +kernel
theorem dL_307 : decode code 307 = .ok (.iconst 2, 1) := by decide +kernel
theorem dL_308 : decode code 308 = .ok (.iadd, 1) := by decide +kernel
theorem dL_309 : decode code 309 = .ok (.iaload, 1) := by decide +kernel
theorem dL_310 : decode code 310 = .ok (.invokevirtual 18, 3) := by decide +kernel
theorem dL_313 : decode code 313 = .ok (.aload_n 2, 1) := by decide +kernel
theorem dL_314 : decode code 314 = .ok (.aload_n 0, 1) := by decide +kernel
theorem dL_315 : decode code 315 = .ok (.iload_n 3, 1) := by decide +kernel
theorem dL_316 : decode code 316 = .ok (.iconst 1, 1) := by decide +kernel
theorem dL_317 : decode code 317 = .ok (.iadd, 1) := by decide +kernel
theorem dL_318 : decode code 318 = .ok (.iaload, 1) := by decide +kernel
theorem dL_319 : decode code 319 = .ok (.aload_n 0, 1) := by decide +kernel
theorem dL_320 : decode code 320 = .ok (.iload_n 3, 1) := by decide +kernel
theorem dL_321 : decode code 321 = .ok (.iconst 2, 1) := by decide +kernel
theorem dL_322 : decode code 322 = .ok (.iadd, 1) := by decide +kernel
theorem dL_323 : decode code 323 = .ok (.iaload, 1) := by decide +kernel
theorem dL_324 : decode code 324 = .ok (.invokevirtual 22, 3) := by decide +kernel
theorem dL_327 : decode code 327 = .ok (.if_icmp .eq 1425, 3) := by decide +kernel
theorem dL_332 : decode code 332 = .ok (.aload_n 1, 1) := by decide +kernel
theorem dL_333 : decode code 333 = .ok (.aload_n 0, 1) := by decide +kernel
theorem dL_334 : decode code 334 = .ok (.iload_n 3, 1) := by decide +kernel
theorem dL_335 : decode code 335 = .ok (.iconst 1, 1) := by decide +kernel
theorem dL_336 : decode code 336 = .ok (.iadd, 1) := by decide +kernel
theorem dL_337 : decode code 337 = .ok (.iaload, 1) := by decide +kernel
theorem dL_338 : decode code 338 = .ok (.aload_n 0, 1) := by decide +kernel
theorem dL_339 : decode code 339 = .ok (.iload_n 3, 1) := by decide +kernel
theorem dL_340 : decode code 340 = .ok (.iconst 2, 1) := by decide +kernel
theorem dL_341 : decode code 341 = .ok (.iadd, 1) := by decide +kernel
theorem dL_342 : decode code 342 = .ok (.iaload, 1) := by decide +kernel
theorem dL_343 : decode code 343 = .ok (.invokevirtual 23, 3) := by decide +kernel
theorem dL_346 : decode code 346 = .ok (.aload_n 2, 1) := by decide +kernel
theorem dL_347 : decode code 347 = .ok (.aload_n 0, 1) := by decide +kernel
theorem dL_348 : decode code 348 = .ok (.iload_n 3, 1) := by decide +kernel
theorem dL_349 : decode code 349 = .ok (.iconst 1, 1) := by decide +kernel
theorem dL_350 : decode code 350 = .ok (.iadd, 1) := by decide +kernel
theorem dL_351 : decode code 351 = .ok (.iaload, 1) := by decide +kernel
theorem dL_352 : decode code 352 = .ok (.aload_n 0, 1) := by decide +kernel
theorem dL_353 : decode code 353 = .ok (.iload_n 3, 1) := by decide +kernel
theorem dL_354 : decode code 354 = .ok (.iconst 2, 1) := by decide +kernel
theorem dL_355 : decode code 355 = .ok (.iadd, 1) := by decide +kernel
theorem dL_356 : decode code 356 = .ok (.iaload, 1) := by decide +kernel
theorem dL_357 : decode code 357 = .ok (.invokevirtual 26, 3) := by decide +kernel
theorem dL_360 : decode code 360 = .ok (.if_icmp .eq 1392, 3) := by decide +kernel
theorem dL_365 : decode code 365 = .ok (.aload_n 1, 1) := by decide +kernel
theorem dL_366 : decode code 366 = .ok (.aload_n 0, 1) := by decide +kernel
theorem dL_367 : decode code 367 = .ok (.iload_n 3, 1) := by decide +kernel
theorem dL_368 : decode code 368 = .ok (.iconst 1, 1) := by decide +kernel
theorem dL_369 : decode code 369 = .ok (.iadd, 1) := by decide +kernel
theorem dL_370 : decode code 370 = .ok (.iaload, 1) := by decide +kernel
theorem dL_371 : decode code 371 = .ok (.aload_n 0, 1) := by decide +kernel
theorem dL_372 : decode code 372 = .ok (.iload_n 3, 1) := by decide +kernel
theorem dL_373 : decode code 373 = .ok (.iconst 2, 1) := by decide +kernel
theorem dL_374 : decode code 374 = .ok (.iadd, 1) := by decide +kernel
theorem dL_375 : decode code 375 = .ok (.iaload, 1) := by decide +kernel
theorem dL_376 : decode code 376 = .ok (.invokevirtual 27, 3) := by decide +kernel
theorem dL_379 : decode code 379 = .ok (.aload_n 2, 1) := by decide +kernel
theorem dL_380 : decode code 380 = .ok (.aload_n 0, 1) := by decide +kernel
theorem dL_381 : decode code 381 = .ok (.iload_n 3, 1) := by decide +kernel
theorem dL_382 : decode code 382 = .ok (.iconst 1, 1) := by decide +kernel
theorem dL_383 : decode code 383 = .ok (.iadd, 1) := by decide +kernel
theorem dL_384 : decode code 384 = .ok (.iaload, 1) := by decide +kernel
theorem dL_385 : decode code 385 = .ok (.aload_n 0, 1) := by decide +kernel
theorem dL_386 : decode code 386 = .ok (.iload_n 3, 1) := by decide +kernel
theorem dL_387 : decode code 387 = .ok (.iconst 2, 1) := by decide +kernel
theorem dL_388 : decode code 388 = .ok (.iadd, 1) := by decide +kernel
theorem dL_389 : decode code 389 = .ok (.iaload, 1) := by decide +kernel
theorem dL_390 : decode code 390 = .ok (.invokevirtual 30, 3) := by decide +kernel
theorem dL_393 : decode code 393 = .ok (.if_icmp .eq 1359, 3) := by decide +kernel
theorem dL_398 : decode code 398 = .ok (.aload_n 1, 1) := by decide +kernel
theorem dL_399 : decode code 399 = .ok (.aload_n 0, 1) := by decide +kernel
theorem dL_400 : decode code 400 = .ok (.iload_n 3, 1) := by decide +kernel
theorem dL_401 : decode code 401 = .ok (.iconst 1, 1) := by decide +kernel
theorem dL_402 : decode code 402 = .ok (.iadd, 1) := by decide +kernel
theorem dL_403 : decode code 403 = .ok (.iaload, 1) := by decide +kernel
theorem dL_404 : decode code 404 = .ok (.aload_n 0, 1) := by decide +kernel
theorem dL_405 : decode code 405 = .ok (.iload_n 3, 1) := by decide +kernel
