theorem d_L_law_277 : decode code 277 = .ok (.iaload, 1) := by decide +kernel
theorem d_L_law_278 : decode code 278 = .ok (.invokevirtual 39, 3) := by decide +kernel
theorem d_L_law_281 : decode code 281 = .ok (.aload_n 2, 1) := by decide +kernel
theorem d_L_law_282 : decode code 282 = .ok (.aload_n 0, 1) := by decide +kernel
theorem d_L_law_283 : decode code 283 = .ok (.iload_n 3, 1) := by decide +kernel
theorem d_L_law_284 : decode code 284 = .ok (.iconst 1, 1) := by decide +kernel
theorem d_L_law_285 : decode code 285 = .ok (.iadd, 1) := by decide +kernel
theorem d_L_law_286 : decode code 286 = .ok (.iaload, 1) := by decide +kernel
theorem d_L_law_287 : decode code 287 = .ok (.invokevirtual 43, 3) := by decide +kernel
theorem d_L_law_290 : decode code 290 = .ok (.if_icmp .eq 634, 3) := by decide +kernel
theorem d_L_law_293 : decode code 293 = .ok (.iconst 0, 1) := by decide +kernel
theorem d_L_law_294 : decode code 294 = .ok (.ireturn, 1) := by decide +kernel
theorem d_L_law_295 : decode code 295 = .ok (.aload_n 1, 1) := by decide +kernel
theorem d_L_law_296 : decode code 296 = .ok (.aload_n 0, 1) := by decide +kernel
theorem d_L_law_297 : decode code 297 = .ok (.iload_n 3, 1) := by decide +kernel
theorem d_L_law_298 : decode code 298 = .ok (.iconst 1, 1) := by decide +kernel
theorem d_L_law_299 : decode code 299 = .ok (.iadd, 1) := by decide +kernel
theorem d_L_law_300 : decode code 300 = .ok (.iaload, 1) := by decide +kernel
theorem d_L_law_301 : decode code 301 = .ok (.aload_n 0, 1) := by decide +kernel
theorem d_L_law_302 : decode code 302 = .ok (.iload_n 3, 1) := by decide +kernel
theorem d_L_law_303 : decode code 303 = .ok (.iconst 2, 1) := by decide +kernel
theorem d_L_law_304 : decode code 304 = .ok (.iadd, 1) := by decide +kernel
theorem d_L_law_305 : decode code 305 = .ok (.iaload, 1) := by decide +kernel
theorem d_L_law_306 : decode code 306 = .ok (.ifCond .eq 7, 3) := by decide +kernel
theorem d_L_law_309 : decode code 309 = .ok (.iconst 1, 1) := by decide +kernel
theorem d_L_law_310 : decode code 310 = .ok (.goto 4, 3) := by decide +kernel
theorem d_L_law_313 : decode code 313 = .ok (.iconst 0, 1) := by decide +kernel
theorem d_L_law_314 : decode code 314 = .ok (.invokevirtual 44, 3) := by decide +kernel
theorem d_L_law_317 : decode code 317 = .ok (.aload_n 2, 1) := by decide +kernel
theorem d_L_law_318 : decode code 318 = .ok (.aload_n 0, 1) := by decide +kernel
theorem d_L_law_319 : decode code 319 = .ok (.iload_n 3, 1) := by decide +kernel
theorem d_L_law_320 : decode code 320 = .ok (.iconst 1, 1) := by decide +kernel
theorem d_L_law_321 : decode code 321 = .ok (.iadd, 1) := by decide +kernel
theorem d_L_law_322 : decode code 322 = .ok (.iaload, 1) := by decide +kernel
theorem d_L_law_323 : decode code 323 = .ok (.aload_n 0, 1) := by decide +kernel
theorem d_L_law_324 : decode code 324 = .ok (.iload_n 3, 1) := by decide +kernel
theorem d_L_law_325 : decode code 325 = .ok (.iconst 2, 1) := by decide +kernel
theorem d_L_law_326 : decode code 326 = .ok (.iadd, 1) := by decide +kernel
theorem d_L_law_327 : decode code 327 = .ok (.iaload, 1) := by decide +kernel
theorem d_L_law_328 : decode code 328 = .ok (.ifCond .eq 7, 3) := by decide +kernel
theorem d_L_law_331 : decode code 331 = .ok (.iconst 1, 1) := by decide +kernel
theorem d_L_law_332 : decode code 332 = .ok (.goto 4, 3) := by decide +kernel
theorem d_L_law_335 : decode code 335 = .ok (.iconst 0, 1) := by decide +kernel
theorem d_L_law_336 : decode code 336 = .ok (.invokevirtual 48, 3) := by decide +kernel
theorem d_L_law_339 : decode code 339 = .ok (.if_icmp .eq 585, 3) := by decide +kernel
theorem d_L_law_342 : decode code 342 = .ok (.iconst 0, 1) := by decide +kernel
theorem d_L_law_343 : decode code 343 = .ok (.ireturn, 1) := by decide +kernel
theorem d_L_law_344 : decode code 344 = .ok (.aload_n 1, 1) := by decide +kernel
theorem d_L_law_345 : decode code 345 = .ok (.aload_n 0, 1) := by decide +kernel
theorem d_L_law_346 : decode code 346 = .ok (.iload_n 3, 1) := by decide +kernel
theorem d_L_law_347 : decode code 347 = .ok (.iconst 1, 1) := by decide +kernel
theorem d_L_law_348 : decode code 348 = .ok (.iadd, 1) := by decide +kernel
theorem d_L_law_349 : decode code 349 = .ok (.iaload, 1) := by decide +kernel
theorem d_L_law_350 : decode code 350 = .ok (.aload_n 0, 1) := by decide +kernel
theorem d_L_law_351 : decode code 351 = .ok (.iload_n 3, 1) := by decide +kernel
theorem d_L_law_352 : decode code 352 = .ok (.iconst 2, 1) := by decide +kernel
theorem d_L_law_353 : decode code 353 = .ok (.iadd, 1) := by decide +kernel
theorem d_L_law_354 : decode code 354 = .ok (.iaload, 1) := by decide +kernel
theorem d_L_law_355 : decode code 355 = .ok (.invokevirtual 49, 3) := by decide +kernel
theorem d_L_law_358 : decode code 358 = .ok (.aload_n 2, 1) := by decide +kernel
theorem d_L_law_359 : decode code 359 = .ok (.aload_n 0, 1) := by decide +kernel
theorem d_L_law_360 : decode code 360 = .ok (.iload_n 3, 1) := by decide +kernel
theorem d_L_law_361 : decode code 361 = .ok (.iconst 1, 1) := by decide +kernel
theorem d_L_law_362 : decode code 362 = .ok (.iadd, 1) := by decide +kernel
theorem d_L_law_363 : decode code 363 = .ok (.iaload, 1) := by decide +kernel
theorem d_L_law_364 : decode code 364 = .ok (.aload_n 0, 1) := by decide +kernel
theorem d_L_law_365 : decode code 365 = .ok (.iload_n 3, 1) := by decide +kernel
theorem d_L_law_366 : decode code 366 = .ok (.iconst 2, 1) := by decide +kernel
theorem d_L_law_367 : decode code 367 = .ok (.iadd, 1) := by decide +kernel
theorem d_L_law_368 : decode code 368 = .ok (.iaload, 1) := by decide +kernel
theorem d_L_law_369 : decode code 369 = .ok (.invokevirtual 53, 3) := by decide +kernel
theorem d_L_law_372 : decode code 372 = .ok (.if_icmp .eq 552, 3) := by decide +kernel
theorem d_L_law_375 : decode code 375 = .ok (.iconst 0, 1) := by decide +kernel
theorem d_L_law_376 : decode code 376 = .ok (.ireturn, 1) := by decide +kernel
theorem d_L_law_377 : decode code 377 = .ok (.aload_n 1, 1) := by decide +kernel
theorem d_L_law_378 : decode code 378 = .ok (.invokevirtual 54, 3) := by decide +kernel
theorem d_L_law_381 : decode code 381 = .ok (.aload_n 2, 1) := by decide +kernel
theorem d_L_law_382 : decode code 382 = .ok (.invokevirtual 57, 3) := by decide +kernel
theorem d_L_law_385 : decode code 385 = .ok (.if_icmp .eq 539, 3) := by decide +kernel
theorem d_L_law_388 : decode code 388 = .ok (.iconst 0, 1) := by decide +kernel
theorem d_L_law_389 : decode code 389 = .ok (.ireturn, 1) := by decide +kernel
theorem d_L_law_390 : decode code 390 = .ok (.aload_n 1, 1) := by decide +kernel
theorem d_L_law_391 : decode code 391 = .ok (.aload_n 0, 1) := by decide +kernel
theorem d_L_law_392 : decode code 392 = .ok (.iload_n 3, 1) := by decide +kernel
theorem d_L_law_393 : decode code 393 = .ok (.iconst 1, 1) := by decide +kernel
theorem d_L_law_394 : decode code 394 = .ok (.iadd, 1) := by decide +kernel
theorem d_L_law_395 : decode code 395 = .ok (.iaload, 1) := by decide +kernel
theorem d_L_law_396 : decode code 396 = .ok (.invokevirtual 58, 3) := by decide +kernel
theorem d_L_law_399 : decode code 399 = .ok (.aload_n 2, 1) := by decide +kernel
theorem d_L_law_400 : decode code 400 = .ok (.aload_n 0, 1) := by decide +kernel
theorem d_L_law_401 : decode code 401 = .ok (.iload_n 3, 1) := by decide +kernel
theorem d_L_law_402 : decode code 402 = .ok (.iconst 1, 1) := by decide +kernel
theorem d_L_law_403 : decode code 403 = .ok (.iadd, 1) := by decide +kernel
theorem d_L_law_404 : decode code 404 = .ok (.iaload, 1) := by decide +kernel
theorem d_L_law_405 : decode code 405 = .ok (.invokevirtual 61, 3) := by decide +kernel
theorem d_L_law_408 : decode code 408 = .ok (.if_icmp .eq 516, 3) := by decide +kernel
theorem d_L_law_411 : decode code 411 = .ok (.iconst 0, 1) := by decide +kernel
theorem d_L_law_412 : decode code 412 = .ok (.ireturn, 1) := by decide +kernel
theorem d_L_law_413 : decode code 413 = .ok (.aload_n 1, 1) := by decide +kernel
theorem d_L_law_414 : decode code 414 = .ok (.aload_n 0, 1) := by decide +kernel
theorem d_L_law_415 : decode code 415 = .ok (.iload_n 3, 1) := by decide +kernel
theorem d_L_law_416 : decode code 416 = .ok (.iconst 1, 1) := by decide +kernel
theorem d_L_law_417 : decode code 417 = .ok (.iadd, 1) := by decide +kernel
theorem d_L_law_418 : decode code 418 = .ok (.iaload, 1) := by decide +kernel
theorem d_L_law_419 : decode code 419 = .ok (.invokevirtual 62, 3) := by decide +kernel
theorem d_L_law_422 : decode code 422 = .ok (.aload_n 2, 1) := by decide +kernel
theorem d_L_law_423 : decode code 423 = .ok (.aload_n 0, 1) := by decide +kernel
theorem d_L_law_424 : decode code 424 = .ok (.iload_n 3, 1) := by decide +kernel
theorem d_L_law_425 : decode code 425 = .ok (.iconst 1, 1) := by decide +kernel
theorem d_L_law_426 : decode code 426 = .ok (.iadd, 1) := by decide +kernel
theorem d_L_law_427 : decode code 427 = .ok (.iaload, 1) := by decide +kernel
theorem d_L_law_428 : decode code 428 = .ok (.invokevirtual 65, 3) := by decide +kernel
theorem d_L_law_431 : decode code 431 = .ok (.if_icmp .eq 493, 3) := by decide +kernel
theorem d_L_law_434 : decode code 434 = .ok (.iconst 0, 1) := by decide +kernel
theorem d_L_law_435 : decode code 435 = .ok (.ireturn, 1) := by decide +kernel
theorem d_L_law_436 : decode code 436 = .ok (.aload_n 1, 1) := by decide +kernel
theorem d_L_law_437 : decode code 437 = .ok (.aload_n 0, 1) := by decide +kernel
theorem d_L_law_438 : decode code 438 = .ok (.iload_n 3, 1) := by decide +kernel
theorem d_L_law_439 : decode code 439 = .ok (.iconst 1, 1) := by decide +kernel
theorem d_L_law_440 : decode code 440 = .ok (.iadd, 1) := by decide +kernel
