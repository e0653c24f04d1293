theorem dL_law_0 : decode cL_law 0 = .ok (.new 7, 3) := by decide +kernel
theorem dL_law_3 : decode cL_law 3 = .ok (.dup, 1) := by decide +kernel
theorem dL_law_4 : decode cL_law 4 = .ok (.invokespecial 9, 3) := by decide +kernel
theorem dL_law_7 : decode cL_law 7 = .ok (.astore_n 1, 1) := by decide +kernel
theorem dL_law_8 : decode cL_law 8 = .ok (.new 10, 3) := by decide +kernel
theorem dL_law_11 : decode cL_law 11 = .ok (.dup, 1) := by decide +kernel
theorem dL_law_12 : decode cL_law 12 = .ok (.invokespecial 12, 3) := by decide +kernel
theorem dL_law_15 : decode cL_law 15 = .ok (.astore_n 2, 1) := by decide +kernel
theorem dL_law_16 : decode cL_law 16 = .ok (.iconst 0, 1) := by decide +kernel
theorem dL_law_17 : decode cL_law 17 = .ok (.istore_n 3, 1) := by decide +kernel
theorem dL_law_18 : decode cL_law 18 = .ok (.iload_n 3, 1) := by decide +kernel
theorem dL_law_19 : decode cL_law 19 = .ok (.aload_n 0, 1) := by decide +kernel
theorem dL_law_20 : decode cL_law 20 = .ok (.arraylength, 1) := by decide +kernel
theorem dL_law_21 : decode cL_law 21 = .ok (.bipush 6, 2) := by decide +kernel
theorem dL_law_23 : decode cL_law 23 = .ok (.isub, 1) := by decide +kernel
theorem dL_law_24 : decode cL_law 24 = .ok (.if_icmp .gt 1735, 3) := by decide +kernel
theorem dL_law_27 : decode cL_law 27 = .ok (.aload_n 0, 1) := by decide +kernel
theorem dL_law_28 : decode cL_law 28 = .ok (.iload_n 3, 1) := by decide +kernel
theorem dL_law_29 : decode cL_law 29 = .ok (.iaload, 1) := by decide +kernel
theorem dL_law_30 : decode cL_law 30 = .ok (.bipush 63, 2) := by decide +kernel
theorem dL_law_32 : decode cL_law 32 = .ok (.iand, 1) := by decide +kernel
theorem dL_law_33 : decode cL_law 33 = .ok (.tableswitch 1720 0 48 #[211, 274, 307, 340, 383, 426, 469, 512, 535, 568, 611, 634, 667, 700, 733, 766, 799, 832, 865, 888, 911, 964, 987, 1040, 1083, 1116, 1179, 1212, 1235, 1258, 1281, 1304, 1317, 1340, 1373, 1416, 1429, 1442, 1495, 1518, 1532, 1555, 1588, 1601, 1624, 1647, 1660, 1684, 1707], 211) := by decide +kernel
theorem dL_law_244 : decode cL_law 244 = .ok (.aload_n 1, 1) := by decide +kernel
theorem dL_law_245 : decode cL_law 245 = .ok (.aload_n 0, 1) := by decide +kernel
theorem dL_law_246 : decode cL_law 246 = .ok (.iload_n 3, 1) := by decide +kernel
theorem dL_law_247 : decode cL_law 247 = .ok (.iconst 1, 1) := by decide +kernel
theorem dL_law_248 : decode cL_law 248 = .ok (.iadd, 1) := by decide +kernel
theorem dL_law_249 : decode cL_law 249 = .ok (.iaload, 1) := by decide +kernel
theorem dL_law_250 : decode cL_law 250 = .ok (.aload_n 0, 1) := by decide +kernel
theorem dL_law_251 : decode cL_law 251 = .ok (.iload_n 3, 1) := by decide +kernel
theorem dL_law_252 : decode cL_law 252 = .ok (.iconst 2, 1) := by decide +kernel
theorem dL_law_253 : decode cL_law 253 = .ok (.iadd, 1) := by decide +kernel
theorem dL_law_254 : decode cL_law 254 = .ok (.iaload, 1) := by decide +kernel
theorem dL_law_255 : decode cL_law 255 = .ok (.aload_n 0, 1) := by decide +kernel
theorem dL_law_256 : decode cL_law 256 = .ok (.iload_n 3, 1) := by decide +kernel
theorem dL_law_257 : decode cL_law 257 = .ok (.iconst 3, 1) := by decide +kernel
theorem dL_law_258 : decode cL_law 258 = .ok (.iadd, 1) := by decide +kernel
theorem dL_law_259 : decode cL_law 259 = .ok (.iaload, 1) := by decide +kernel
theorem dL_law_260 : decode cL_law 260 = .ok (.aload_n 0, 1) := by decide +kernel
theorem dL_law_261 : decode cL_law 261 = .ok (.iload_n 3, 1) := by decide +kernel
theorem dL_law_262 : decode cL_law 262 = .ok (.iconst 4, 1) := by decide +kernel
theorem dL_law_263 : decode cL_law 263 = .ok (.iadd, 1) := by decide +kernel
theorem dL_law_264 : decode cL_law 264 = .ok (.iaload, 1) := by decide +kernel
theorem dL_law_265 : decode cL_law 265 = .ok (.aload_n 0, 1) := by decide +kernel
theorem dL_law_266 : decode cL_law 266 = .ok (.iload_n 3, 1) := by decide +kernel
theorem dL_law_267 : decode cL_law 267 = .ok (.iconst 5, 1) := by decide +kernel
theorem dL_law_268 : decode cL_law 268 = .ok (.iadd, 1) := by decide +kernel
theorem dL_law_269 : decode cL_law 269 = .ok (.iaload, 1) := by decide +kernel
theorem dL_law_270 : decode cL_law 270 = .ok (.invokevirtual 13, 3) := by decide +kernel
theorem dL_law_273 : decode cL_law 273 = .ok (.aload_n 2, 1) := by decide +kernel
theorem dL_law_274 : decode cL_law 274 = .ok (.aload_n 0, 1) := by decide +kernel
theorem dL_law_275 : decode cL_law 275 = .ok (.iload_n 3, 1) := by decide +kernel
theorem dL_law_276 : decode cL_law 276 = .ok (.iconst 1, 1) := by decide +kernel
theorem dL_law_277 : decode cL_law 277 = .ok (.iadd, 1) := by decide +kernel
theorem dL_law_278 : decode cL_law 278 = .ok (.iaload, 1) := by decide +kernel
theorem dL_law_279 : decode cL_law 279 = .ok (.aload_n 0, 1) := by decide +kernel
theorem dL_law_280 : decode cL_law 280 = .ok (.iload_n 3, 1) := by decide +kernel
theorem dL_law_281 : decode cL_law 281 = .ok (.iconst 2, 1) := by decide +kernel
theorem dL_law_282 : decode cL_law 282 = .ok (.iadd, 1) := by decide +kernel
theorem dL_law_283 : decode cL_law 283 = .ok (.iaload, 1) := by decide +kernel
theorem dL_law_284 : decode cL_law 284 = .ok (.aload_n 0, 1) := by decide +kernel
theorem dL_law_285 : decode cL_law 285 = .ok (.iload_n 3, 1) := by decide +kernel
theorem dL_law_286 : decode cL_law 286 = .ok (.iconst 3, 1) := by decide +kernel
theorem dL_law_287 : decode cL_law 287 = .ok (.iadd, 1) := by decide +kernel
theorem dL_law_288 : decode cL_law 288 = .ok (.iaload, 1) := by decide +kernel
theorem dL_law_289 : decode cL_law 289 = .ok (.aload_n 0, 1) := by decide +kernel
theorem dL_law_290 : decode cL_law 290 = .ok (.iload_n 3, 1) := by decide +kernel
theorem dL_law_291 : decode cL_law 291 = .ok (.iconst 4, 1) := by decide +kernel
theorem dL_law_292 : decode cL_law 292 = .ok (.iadd, 1) := by decide +kernel
theorem dL_law_293 : decode cL_law 293 = .ok (.iaload, 1) := by decide +kernel
theorem dL_law_294 : decode cL_law 294 = .ok (.aload_n 0, 1) := by decide +kernel
theorem dL_law_295 : decode cL_law 295 = .ok (.iload_n 3, 1) := by decide +kernel
theorem dL_law_296 : decode cL_law 296 = .ok (.iconst 5, 1) := by decide +kernel
theorem dL_law_297 : decode cL_law 297 = .ok (.iadd, 1) := by decide +kernel
theorem dL_law_298 : decode cL_law 298 = .ok (.iaload, 1) := by decide +kernel
theorem dL_law_299 : decode cL_law 299 = .ok (.invokevirtual 17, 3) := by decide +kernel
theorem dL_law_302 : decode cL_law 302 = .ok (.if_icmp .eq 1451, 3) := by decide +kernel
theorem dL_law_305 : decode cL_law 305 = .ok (.iconst 0, 1) := by decide +kernel
theorem dL_law_306 : decode cL_law 306 = .ok (.ireturn, 1) := by decide +kernel
theorem dL_law_307 : decode cL_law 307 = .ok (.aload_n 1, 1) := by decide +kernel
theorem dL_law_308 : decode cL_law 308 = .ok (.aload_n 0, 1) := by decide +kernel
theorem dL_law_309 : decode cL_law 309 = .ok (.iload_n 3, 1) := by decide +kernel
theorem dL_law_310 : decode cL_law 310 = .ok (.iconst 1, 1) := by decide +kernel
theorem dL_law_311 : decode cL_law 311 = .ok (.iadd, 1) := by decide +kernel
theorem dL_law_312 : decode cL_law 312 = .ok (.iaload, 1) := by decide +kernel
theorem dL_law_313 : decode cL_law 313 = .ok (.aload_n 0, 1) := by decide +kernel
theorem dL_law_314 : decode cL_law 314 = .ok (.iload_n 3, 1) := by decide +kernel
theorem dL_law_315 : decode cL_law 315 = .ok (.iconst 2, 1) := by decide +kernel
theorem dL_law_316 : decode cL_law 316 = .ok (.iadd, 1) := by decide +kernel
theorem dL_law_317 : decode cL_law 317 = .ok (.iaload, 1) := by decide +kernel
theorem dL_law_318 : decode cL_law 318 = .ok (.invokevirtual 18, 3) := by decide +kernel
theorem dL_law_321 : decode cL_law 321 = .ok (.aload_n 2, 1) := by decide +kernel
theorem dL_law_322 : decode cL_law 322 = .ok (.aload_n 0, 1) := by decide +kernel
theorem dL_law_323 : decode cL_law 323 = .ok (.iload_n 3, 1) := by decide +kernel
theorem dL_law_324 : decode cL_law 324 = .ok (.iconst 1, 1) := by decide +kernel
theorem dL_law_325 : decode cL_law 325 = .ok (.iadd, 1) := by decide +kernel
theorem dL_law_326 : decode cL_law 326 = .ok (.iaload, 1) := by decide +kernel
theorem dL_law_327 : decode cL_law 327 = .ok (.aload_n 0, 1) := by decide +kernel
theorem dL_law_328 : decode cL_law 328 = .ok (.iload_n 3, 1) := by decide +kernel
theorem dL_law_329 : decode cL_law 329 = .ok (.iconst 2, 1) := by decide +kernel
theorem dL_law_330 : decode cL_law 330 = .ok (.iadd, 1) := by decide +kernel
theorem dL_law_331 : decode cL_law 331 = .ok (.iaload, 1) := by decide +kernel
theorem dL_law_332 : decode cL_law 332 = .ok (.invokevirtual 22, 3) := by decide +kernel
theorem dL_law_335 : decode cL_law 335 = .ok (.if_icmp .eq 1418, 3) := by decide +kernel
theorem dL_law_338 : decode cL_law 338 = .ok (.iconst 0, 1) := by decide +kernel
theorem dL_law_339 : decode cL_law 339 = .ok (.ireturn, 1) := by decide +kernel
theorem dL_law_340 : decode cL_law 340 = .ok (.aload_n 1, 1) := by decide +kernel
theorem dL_law_341 : decode cL_law 341 = .ok (.aload_n 0, 1) := by decide +kernel
theorem dL_law_342 : decode cL_law 342 = .ok (.iload_n 3, 1) := by decide +kernel
theorem dL_law_343 : decode cL_law 343 = .ok (.iconst 1, 1) := by decide +kernel
theorem dL_law_344 : decode cL_law 344 = .ok (.iadd, 1) := by decide +kernel
theorem dL_law_345 : decode cL_law 345 = .ok (.iaload, 1) := by decide +kernel
theorem dL_law_346 : decode cL_law 346 = .ok (.aload_n 0, 1) := by decide +kernel
theorem dL_law_347 : decode cL_law 347 = .ok (.iload_n 3, 1) := by decide +kernel
theorem dL_law_348 : decode cL_law 348 = .ok (.iconst 2, 1) := by decide +kernel
theorem dL_law_349 : decode cL_law 349 = .ok (.iadd, 1) := by decide +kernel
theorem dL_law_350 : decode cL_law 350 = .ok (.iaload, 1) := by decide +kernel
theorem dL_law_351 : decode cL_law 351 = .ok (.invokevirtual 23, 3) := by decide +kernel
theorem dL_law_354 : decode cL_law 354 = .ok (.aload_n 2, 1) := by decide +kernel
theorem dL_law_355 : decode cL_law 355 = .ok (.aload_n 0, 1) := by decide +kernel
theorem dL_law_356 : decode cL_law 356 = .ok (.iload_n 3, 1) := by decide +kernel
theorem dL_law_357 : decode cL_law 357 = .ok (.iconst 1, 1) := by decide +kernel
theorem dL_law_358 : decode cL_law 358 = .ok (.iadd, 1) := by decide +kernel
theorem dL_law_359 : decode cL_law 359 = .ok (.iaload, 1) := by decide +kernel
theorem dL_law_360 : decode cL_law 360 = .ok (.aload_n 0, 1) := by decide +kernel
theorem dL_law_361 : decode cL_law 361 = .ok (.iload_n 3, 1) := by decide +kernel
theorem dL_law_362 : decode cL_law 362 = .ok (.iconst 2, 1) := by decide +kernel
theorem dL_law_363 : decode cL_law 363 = .ok (.iadd, 1) := by decide +kernel
theorem dL_law_364 : decode cL_law 364 = .ok (.iaload, 1) := by decide +kernel
theorem dL_law_365 : decode cL_law 365 = .ok (.invokevirtual 26, 3) := by decide +kernel
theorem dL_law_368 : decode cL_law 368 = .ok (.if_icmp .eq 1385, 3) := by decide +kernel
theorem dL_law_371 : decode cL_law 371 = .ok (.iconst 0, 1) := by decide +kernel
theorem dL_law_372 : decode cL_law 372 = .ok (.ireturn, 1) := by decide +kernel
theorem dL_law_373 : decode cL_law 373 = .ok (.aload_n 1, 1) := by decide +kernel
theorem dL_law_374 : decode cL_law 374 = .ok (.aload_n 0, 1) := by decide +kernel
theorem dL_law_375 : decode cL_law 375 = .ok (.iload_n 3, 1) := by decide +kernel
theorem dL_law_376 : decode cL_law 376 = .ok (.iconst 1, 1) := by decide +kernel
theorem dL_law_377 : decode cL_law 377 = .ok (.iadd, 1) := by decide +kernel
theorem dL_law_378 : decode cL_law 378 = .ok (.iaload, 1) := by decide +kernel
theorem dL_law_379 : decode cL_law 379 = .ok (.aload_n 0, 1) := by decide +kernel
theorem dL_law_380 : decode cL_law 380 = .ok (.iload_n 3, 1) := by decide +kernel
theorem dL_law_381 : decode cL_law 381 = .ok (.iconst 2, 1) := by decide +kernel
theorem dL_law_382 : decode cL_law 382 = .ok (.iadd, 1) := by decide +kernel
theorem dL_law_383 : decode cL_law 383 = .ok (.iaload, 1) := by decide +kernel
theorem dL_law_384 : decode cL_law 384 = .ok (.aload_n 0, 1) := by decide +kernel
theorem dL_law_385 : decode cL_law 385 = .ok (.iload_n 3, 1) := by decide +kernel
theorem dL_law_386 : decode cL_law 386 = .ok (.iconst 3, 1) := by decide +kernel
theorem dL_law_387 : decode cL_law 387 = .ok (.iadd, 1) := by decide +kernel
theorem dL_law_388 : decode cL_law 388 = .ok (.iaload, 1) := by decide +kernel
theorem dL_law_389 : decode cL_law 389 = .ok (.invokevirtual 27, 3) := by decide +kernel
theorem dL_law_392 : decode cL_law 392 = .ok (.aload_n 2, 1) := by decide +kernel
theorem dL_law_393 : decode cL_law 393 = .ok (.aload_n 0, 1) := by decide +kernel
theorem dL_law_394 : decode cL_law 394 = .ok (.iload_n 3, 1) := by decide +kernel
theorem dL_law_395 : decode cL_law 395 = .ok (.iconst 1, 1) := by decide +kernel
theorem dL_law_396 : decode cL_law 396 = .ok (.iadd, 1) := by decide +kernel
theorem dL_law_397 : decode cL_law 397 = .ok (.iaload, 1) := by decide +kernel
theorem dL_law_398 : decode cL_law 398 = .ok (.aload_n 0, 1) := by decide +kernel
theorem dL_law_399 : decode cL_law 399 = .ok (.iload_n 3, 1) := by decide +kernel
theorem dL_law_400 : decode cL_law 400 = .ok (.iconst 2, 1) := by decide +kernel
theorem dL_law_401 : decode cL_law 401 = .ok (.iadd, 1) := by decide +kernel
theorem dL_law_402 : decode cL_law 402 = .ok (.iaload, 1) := by decide +kernel
theorem dL_law_403 : decode cL_law 403 = .ok (.aload_n 0, 1) := by decide +kernel
theorem dL_law_404 : decode cL_law 404 = .ok (.iload_n 3, 1) := by decide +kernel
theorem dL_law_405 : decode cL_law 405 = .ok (.iconst 3, 1) := by decide +kernel
theorem dL_law_406 : decode cL_law 406 = .ok (.iadd, 1) := by decide +kernel
theorem dL_law_407 : decode cL_law 407 = .ok (.iaload, 1) := by decide +kernel
theorem dL_law_408 : decode cL_law 408 = .ok (.invokevirtual 31, 3) := by decide +kernel
theorem dL_law_411 : decode cL_law 411 = .ok (.if_icmp .eq 1342, 3) := by decide +kernel
theorem dL_law_414 : decode cL_law 414 = .ok (.iconst 0, 1) := by decide +kernel
theorem dL_law_415 : decode cL_law 415 = .ok (.ireturn, 1) := by decide +kernel
theorem dL_law_416 : decode cL_law 416 = .ok (.aload_n 1, 1) := by decide +kernel
theorem dL_law_417 : decode cL_law 417 = .ok (.aload_n 0, 1) := by decide +kernel
theorem dL_law_418 : decode cL_law 418 = .ok (.iload_n 3, 1) := by decide +kernel
theorem dL_law_419 : decode cL_law 419 = .ok (.iconst 1, 1) := by decide +kernel
theorem dL_law_420 : decode cL_law 420 = .ok (.iadd, 1) := by decide +kernel
theorem dL_law_421 : decode cL_law 421 = .ok (.iaload, 1) := by decide +kernel
theorem dL_law_422 : decode cL_law 422 = .ok (.aload_n 0, 1) := by decide +kernel
theorem dL_law_423 : decode cL_law 423 = .ok (.iload_n 3, 1) := by decide +kernel
theorem dL_law_424 : decode cL_law 424 = .ok (.iconst 2, 1) := by decide +kernel
theorem dL_law_425 : decode cL_law 425 = .ok (.iadd, 1) := by decide +kernel
theorem dL_law_426 : decode cL_law 426 = .ok (.iaload, 1) := by decide +kernel
theorem dL_law_427 : decode cL_law 427 = .ok (.aload_n 0, 1) := by decide +kernel
theorem dL_law_428 : decode cL_law 428 = .ok (.iload_n 3, 1) := by decide +kernel
theorem dL_law_429 : decode cL_law 429 = .ok (.iconst 3, 1) := by decide +kernel
theorem dL_law_430 : decode cL_law 430 = .ok (.iadd, 1) := by decide +kernel
theorem dL_law_431 : decode cL_law 431 = .ok (.iaload, 1) := by decide +kernel
theorem dL_law_432 : decode cL_law 432 = .ok (.invokevirtual 32, 3) := by decide +kernel
theorem dL_law_435 : decode cL_law 435 = .ok (.aload_n 2, 1) := by decide +kernel
theorem dL_law_436 : decode cL_law 436 = .ok (.aload_n 0, 1) := by decide +kernel
theorem dL_law_437 : decode cL_law 437 = .ok (.iload_n 3, 1) := by decide +kernel
theorem dL_law_438 : decode cL_law 438 = .ok (.iconst 1, 1) := by decide +kernel
theorem dL_law_439 : decode cL_law 439 = .ok (.iadd, 1) := by decide +kernel
theorem dL_law_440 : decode cL_law 440 = .ok (.iaload, 1) := by decide +kernel
theorem dL_law_441 : decode cL_law 441 = .ok (.aload_n 0, 1) := by decide +kernel
theorem dL_law_442 : decode cL_law 442 = .ok (.iload_n 3, 1) := by decide +kernel
theorem dL_law_443 : decode cL_law 443 = .ok (.iconst 2, 1) := by decide +kernel
theorem dL_law_444 : decode cL_law 444 = .ok (.iadd, 1) := by decide +kernel
theorem dL_law_445 : decode cL_law 445 = .ok (.iaload, 1) := by decide +kernel
theorem dL_law_446 : decode cL_law 446 = .ok (.aload_n 0, 1) := by decide +kernel
theorem dL_law_447 : decode cL_law 447 = .ok (.iload_n 3, 1) := by decide +kernel
theorem dL_law_448 : decode cL_law 448 = .ok (.iconst 3, 1) := by decide +kernel
theorem dL_law_449 : decode cL_law 449 = .ok (.iadd, 1) := by decide +kernel
theorem dL_law_450 : decode cL_law 450 = .ok (.iaload, 1) := by decide +kernel
theorem dL_law_451 : decode cL_law 451 = .ok (.invokevirtual 35, 3) := by decide +kernel
theorem dL_law_454 : decode cL_law 454 = .ok (.if_icmp .eq 1299, 3) := by decide +kernel
theorem dL_law_457 : decode cL_law 457 = .ok (.iconst 0, 1) := by decide +kernel
theorem dL_law_458 : decode cL_law 458 = .ok (.ireturn, 1) := by decide +kernel
theorem dL_law_459 : decode cL_law 459 = .ok (.aload_n 1, 1) := by decide +kernel
theorem dL_law_460 : decode cL_law 460 = .ok (.aload_n 0, 1) := by decide +kernel
theorem dL_law_461 : decode cL_law 461 = .ok (.iload_n 3, 1) := by decide +kernel
theorem dL_law_462 : decode cL_law 462 = .ok (.iconst 1, 1) := by decide +kernel
theorem dL_law_463 : decode cL_law 463 = .ok (.iadd, 1) := by decide +kernel
theorem dL_law_464 : decode cL_law 464 = .ok (.iaload, 1) := by decide +kernel
theorem dL_law_465 : decode cL_law 465 = .ok (.aload_n 0, 1) := by decide +kernel
theorem dL_law_466 : decode cL_law 466 = .ok (.iload_n 3, 1) := by decide +kernel
theorem dL_law_467 : decode cL_law 467 = .ok (.iconst 2, 1) := by decide +kernel
theorem dL_law_468 : decode cL_law 468 = .ok (.iadd, 1) := by decide +kernel
theorem dL_law_469 : decode cL_law 469 = .ok (.iaload, 1) := by decide +kernel
theorem dL_law_470 : decode cL_law 470 = .ok (.aload_n 0, 1) := by decide +kernel
theorem dL_law_471 : decode cL_law 471 = .ok (.iload_n 3, 1) := by decide +kernel
theorem dL_law_472 : decode cL_law 472 = .ok (.iconst 3, 1) := by decide +kernel
theorem dL_law_473 : decode cL_law 473 = .ok (.iadd, 1) := by decide +kernel
theorem dL_law_474 : decode cL_law 474 = .ok (.iaload, 1) := by decide +kernel
theorem dL_law_475 : decode cL_law 475 = .ok (.invokevirtual 36, 3) := by decide +kernel
theorem dL_law_478 : decode cL_law 478 = .ok (.aload_n 2, 1) := by decide +kernel
theorem dL_law_479 : decode cL_law 479 = .ok (.aload_n 0, 1) := by decide +kernel
theorem dL_law_480 : decode cL_law 480 = .ok (.iload_n 3, 1) := by decide +kernel
theorem dL_law_481 : decode cL_law 481 = .ok (.iconst 1, 1) := by decide +kernel
theorem dL_law_482 : decode cL_law 482 = .ok (.iadd, 1) := by decide +kernel
theorem dL_law_483 : decode cL_law 483 = .ok (.iaload, 1) := by decide +kernel
theorem dL_law_484 : decode cL_law 484 = .ok (.aload_n 0, 1) := by decide +kernel
theorem dL_law_485 : decode cL_law 485 = .ok (.iload_n 3, 1) := by decide +kernel
theorem dL_law_486 : decode cL_law 486 = .ok (.iconst 2, 1) := by decide +kernel
theorem dL_law_487 : decode cL_law 487 = .ok (.iadd, 1) := by decide +kernel
theorem dL_law_488 : decode cL_law 488 = .ok (.iaload, 1) := by decide +kernel
theorem dL_law_489 : decode cL_law 489 = .ok (.aload_n 0, 1) := by decide +kernel
theorem dL_law_490 : decode cL_law 490 = .ok (.iload_n 3, 1) := by decide +kernel
theorem dL_law_491 : decode cL_law 491 = .ok (.iconst 3, 1) := by decide +kernel
theorem dL_law_492 : decode cL_law 492 = .ok (.iadd, 1) := by decide +kernel
theorem dL_law_493 : decode cL_law 493 = .ok (.iaload, 1) := by decide +kernel
theorem dL_law_494 : decode cL_law 494 = .ok (.invokevirtual 39, 3) := by decide +kernel
theorem dL_law_497 : decode cL_law 497 = .ok (.if_icmp .eq 1256, 3) := by decide +kernel
theorem dL_law_500 : decode cL_law 500 = .ok (.iconst 0, 1) := by decide +kernel
theorem dL_law_501 : decode cL_law 501 = .ok (.ireturn, 1) := by decide +kernel
theorem dL_law_502 : decode cL_law 502 = .ok (.aload_n 1, 1) := by decide +kernel
theorem dL_law_503 : decode cL_law 503 = .ok (.aload_n 0, 1) := by decide +kernel
theorem dL_law_504 : decode cL_law 504 = .ok (.iload_n 3, 1) := by decide +kernel
theorem dL_law_505 : decode cL_law 505 = .ok (.iconst 1, 1) := by decide +kernel
theorem dL_law_506 : decode cL_law 506 = .ok (.iadd, 1) := by decide +kernel
theorem dL_law_507 : decode cL_law 507 = .ok (.iaload, 1) := by decide +kernel
theorem dL_law_508 : decode cL_law 508 = .ok (.aload_n 0, 1) := by decide +kernel
theorem dL_law_509 : decode cL_law 509 = .ok (.iload_n 3, 1) := by decide +kernel
theorem dL_law_510 : decode cL_law 510 = .ok (.iconst 2, 1) := by decide +kernel
theorem dL_law_511 : decode cL_law 511 = .ok (.iadd, 1) := by decide +kernel
theorem dL_law_512 : decode cL_law 512 = .ok (.iaload, 1) := by decide +kernel
theorem dL_law_513 : decode cL_law 513 = .ok (.aload_n 0, 1) := by decide +kernel
theorem dL_law_514 : decode cL_law 514 = .ok (.iload_n 3, 1) := by decide +kernel
theorem dL_law_515 : decode cL_law 515 = .ok (.iconst 3, 1) := by decide +kernel
theorem dL_law_516 : decode cL_law 516 = .ok (.iadd, 1) := by decide +kernel
theorem dL_law_517 : decode cL_law 517 = .ok (.iaload, 1) := by decide +kernel
theorem dL_law_518 : decode cL_law 518 = .ok (.invokevirtual 40, 3) := by decide +kernel
theorem dL_law_521 : decode cL_law 521 = .ok (.aload_n 2, 1) := by decide +kernel
theorem dL_law_522 : decode cL_law 522 = .ok (.aload_n 0, 1) := by decide +kernel
theorem dL_law_523 : decode cL_law 523 = .ok (.iload_n 3, 1) := by decide +kernel
theorem dL_law_524 : decode cL_law 524 = .ok (.iconst 1, 1) := by decide +kernel
theorem dL_law_525 : decode cL_law 525 = .ok (.iadd, 1) := by decide +kernel
theorem dL_law_526 : decode cL_law 526 = .ok (.iaload, 1) := by decide +kernel
theorem dL_law_527 : decode cL_law 527 = .ok (.aload_n 0, 1) := by decide +kernel
theorem dL_law_528 : decode cL_law 528 = .ok (.iload_n 3, 1) := by decide +kernel
theorem dL_law_529 : decode cL_law 529 = .ok (.iconst 2, 1) := by decide +kernel
theorem dL_law_530 : decode cL_law 530 = .ok (.iadd, 1) := by decide +kernel
theorem dL_law_531 : decode cL_law 531 = .ok (.iaload, 1) := by decide +kernel
theorem dL_law_532 : decode cL_law 532 = .ok (.aload_n 0, 1) := by decide +kernel
theorem dL_law_533 : decode cL_law 533 = .ok (.iload_n 3, 1) := by decide +kernel
theorem dL_law_534 : decode cL_law 534 = .ok (.iconst 3, 1) := by decide +kernel
theorem dL_law_535 : decode cL_law 535 = .ok (.iadd, 1) := by decide +kernel
theorem dL_law_536 : decode cL_law 536 = .ok (.iaload, 1) := by decide +kernel
theorem dL_law_537 : decode cL_law 537 = .ok (.invokevirtual 43, 3) := by decide +kernel
theorem dL_law_540 : decode cL_law 540 = .ok (.if_icmp .eq 1213, 3) := by decide +kernel
theorem dL_law_543 : decode cL_law 543 = .ok (.iconst 0, 1) := by decide +kernel
theorem dL_law_544 : decode cL_law 544 = .ok (.ireturn, 1) := by decide +kernel
theorem dL_law_545 : decode cL_law 545 = .ok (.aload_n 1, 1) := by decide +kernel
theorem dL_law_546 : decode cL_law 546 = .ok (.aload_n 0, 1) := by decide +kernel
theorem dL_law_547 : decode cL_law 547 = .ok (.iload_n 3, 1) := by decide +kernel
theorem dL_law_548 : decode cL_law 548 = .ok (.iconst 1, 1) := by decide +kernel
theorem dL_law_549 : decode cL_law 549 = .ok (.iadd, 1) := by decide +kernel
theorem dL_law_550 : decode cL_law 550 = .ok (.iaload, 1) := by decide +kernel
theorem dL_law_551 : decode cL_law 551 = .ok (.invokevirtual 44, 3) := by decide +kernel
theorem dL_law_554 : decode cL_law 554 = .ok (.aload_n 2, 1) := by decide +kernel
theorem dL_law_555 : decode cL_law 555 = .ok (.aload_n 0, 1) := by decide +kernel
theorem dL_law_556 : decode cL_law 556 = .ok (.iload_n 3, 1) := by decide +kernel
theorem dL_law_557 : decode cL_law 557 = .ok (.iconst 1, 1) := by decide +kernel
theorem dL_law_558 : decode cL_law 558 = .ok (.iadd, 1) := by decide +kernel
theorem dL_law_559 : decode cL_law 559 = .ok (.iaload, 1) := by decide +kernel
theorem dL_law_560 : decode cL_law 560 = .ok (.invokevirtual 48, 3) := by decide +kernel
theorem dL_law_563 : decode cL_law 563 = .ok (.if_icmp .eq 1190, 3) := by decide +kernel
theorem dL_law_566 : decode cL_law 566 = .ok (.iconst 0, 1) := by decide +kernel
theorem dL_law_567 : decode cL_law 567 = .ok (.ireturn, 1) := by decide +kernel
theorem dL_law_568 : decode cL_law 568 = .ok (.aload_n 1, 1) := by decide +kernel
theorem dL_law_569 : decode cL_law 569 = .ok (.aload_n 0, 1) := by decide +kernel
theorem dL_law_570 : decode cL_law 570 = .ok (.iload_n 3, 1) := by decide +kernel
theorem dL_law_571 : decode cL_law 571 = .ok (.iconst 1, 1) := by decide +kernel
theorem dL_law_572 : decode cL_law 572 = .ok (.iadd, 1) := by decide +kernel
theorem dL_law_573 : decode cL_law 573 = .ok (.iaload, 1) := by decide +kernel
theorem dL_law_574 : decode cL_law 574 = .ok (.aload_n 0, 1) := by decide +kernel
theorem dL_law_575 : decode cL_law 575 = .ok (.iload_n 3, 1) := by decide +kernel
theorem dL_law_576 : decode cL_law 576 = .ok (.iconst 2, 1) := by decide +kernel
theorem dL_law_577 : decode cL_law 577 = .ok (.iadd, 1) := by decide +kernel
theorem dL_law_578 : decode cL_law 578 = .ok (.iaload, 1) := by decide +kernel
theorem dL_law_579 : decode cL_law 579 = .ok (.invokevirtual 49, 3) := by decide +kernel
theorem dL_law_582 : decode cL_law 582 = .ok (.aload_n 2, 1) := by decide +kernel
theorem dL_law_583 : decode cL_law 583 = .ok (.aload_n 0, 1) := by decide +kernel
theorem dL_law_584 : decode cL_law 584 = .ok (.iload_n 3, 1) := by decide +kernel
theorem dL_law_585 : decode cL_law 585 = .ok (.iconst 1, 1) := by decide +kernel
theorem dL_law_586 : decode cL_law 586 = .ok (.iadd, 1) := by decide +kernel
theorem dL_law_587 : decode cL_law 587 = .ok (.iaload, 1) := by decide +kernel
theorem dL_law_588 : decode cL_law 588 = .ok (.aload_n 0, 1) := by decide +kernel
theorem dL_law_589 : decode cL_law 589 = .ok (.iload_n 3, 1) := by decide +kernel
theorem dL_law_590 : decode cL_law 590 = .ok (.iconst 2, 1) := by decide +kernel
theorem dL_law_591 : decode cL_law 591 = .ok (.iadd, 1) := by decide +kernel
theorem dL_law_592 : decode cL_law 592 = .ok (.iaload, 1) := by decide +kernel
theorem dL_law_593 : decode cL_law 593 = .ok (.invokevirtual 52, 3) := by decide +kernel
theorem dL_law_596 : decode cL_law 596 = .ok (.if_icmp .eq 1157, 3) := by decide +kernel
theorem dL_law_599 : decode cL_law 599 = .ok (.iconst 0, 1) := by decide +kernel
theorem dL_law_600 : decode cL_law 600 = .ok (.ireturn, 1) := by decide +kernel
theorem dL_law_601 : decode cL_law 601 = .ok (.aload_n 1, 1) := by decide +kernel
theorem dL_law_602 : decode cL_law 602 = .ok (.aload_n 0, 1) := by decide +kernel
theorem dL_law_603 : decode cL_law 603 = .ok (.iload_n 3, 1) := by decide +kernel
theorem dL_law_604 : decode cL_law 604 = .ok (.iconst 1, 1) := by decide +kernel
theorem dL_law_605 : decode cL_law 605 = .ok (.iadd, 1) := by decide +kernel
theorem dL_law_606 : decode cL_law 606 = .ok (.iaload, 1) := by decide +kernel
theorem dL_law_607 : decode cL_law 607 = .ok (.aload_n 0, 1) := by decide +kernel
theorem dL_law_608 : decode cL_law 608 = .ok (.iload_n 3, 1) := by decide +kernel
theorem dL_law_609 : decode cL_law 609 = .ok (.iconst 2, 1) := by decide +kernel
theorem dL_law_610 : decode cL_law 610 = .ok (.iadd, 1) := by decide +kernel
theorem dL_law_611 : decode cL_law 611 = .ok (.iaload, 1) := by decide +kernel
theorem dL_law_612 : decode cL_law 612 = .ok (.aload_n 0, 1) := by decide +kernel
theorem dL_law_613 : decode cL_law 613 = .ok (.iload_n 3, 1) := by decide +kernel
theorem dL_law_614 : decode cL_law 614 = .ok (.iconst 3, 1) := by decide +kernel
theorem dL_law_615 : decode cL_law 615 = .ok (.iadd, 1) := by decide +kernel
theorem dL_law_616 : decode cL_law 616 = .ok (.iaload, 1) := by decide +kernel
theorem dL_law_617 : decode cL_law 617 = .ok (.invokevirtual 53, 3) := by decide +kernel
theorem dL_law_620 : decode cL_law 620 = .ok (.aload_n 2, 1) := by decide +kernel
theorem dL_law_621 : decode cL_law 621 = .ok (.aload_n 0, 1) := by decide +kernel
theorem dL_law_622 : decode cL_law 622 = .ok (.iload_n 3, 1) := by decide +kernel
theorem dL_law_623 : decode cL_law 623 = .ok (.iconst 1, 1) := by decide +kernel
theorem dL_law_624 : decode cL_law 624 = .ok (.iadd, 1) := by decide +kernel
theorem dL_law_625 : decode cL_law 625 = .ok (.iaload, 1) := by decide +kernel
theorem dL_law_626 : decode cL_law 626 = .ok (.aload_n 0, 1) := by decide +kernel
theorem dL_law_627 : decode cL_law 627 = .ok (.iload_n 3, 1) := by decide +kernel
theorem dL_law_628 : decode cL_law 628 = .ok (.iconst 2, 1) := by decide +kernel
theorem dL_law_629 : decode cL_law 629 = .ok (.iadd, 1) := by decide +kernel
theorem dL_law_630 : decode cL_law 630 = .ok (.iaload, 1) := by decide +kernel
theorem dL_law_631 : decode cL_law 631 = .ok (.aload_n 0, 1) := by decide +kernel
theorem dL_law_632 : decode cL_law 632 = .ok (.iload_n 3, 1) := by decide +kernel
theorem dL_law_633 : decode cL_law 633 = .ok (.iconst 3, 1) := by decide +kernel
theorem dL_law_634 : decode cL_law 634 = .ok (.iadd, 1) := by decide +kernel
theorem dL_law_635 : decode cL_law 635 = .ok (.iaload, 1) := by decide +kernel
theorem dL_law_636 : decode cL_law 636 = .ok (.invokevirtual 56, 3) := by decide +kernel
theorem dL_law_639 : decode cL_law 639 = .ok (.if_icmp .eq 1114, 3) := by decide +kernel
theorem dL_law_642 : decode cL_law 642 = .ok (.iconst 0, 1) := by decide +kernel
theorem dL_law_643 : decode cL_law 643 = .ok (.ireturn, 1) := by decide +kernel
theorem dL_law_644 : decode cL_law 644 = .ok (.aload_n 1, 1) := by decide +kernel
theorem dL_law_645 : decode cL_law 645 = .ok (.aload_n 0, 1) := by decide +kernel
theorem dL_law_646 : decode cL_law 646 = .ok (.iload_n 3, 1) := by decide +kernel
theorem dL_law_647 : decode cL_law 647 = .ok (.iconst 1, 1) := by decide +kernel
theorem dL_law_648 : decode cL_law 648 = .ok (.iadd, 1) := by decide +kernel
theorem dL_law_649 : decode cL_law 649 = .ok (.iaload, 1) := by decide +kernel
theorem dL_law_650 : decode cL_law 650 = .ok (.invokevirtual 57, 3) := by decide +kernel
theorem dL_law_653 : decode cL_law 653 = .ok (.aload_n 2, 1) := by decide +kernel
theorem dL_law_654 : decode cL_law 654 = .ok (.aload_n 0, 1) := by decide +kernel
theorem dL_law_655 : decode cL_law 655 = .ok (.iload_n 3, 1) := by decide +kernel
theorem dL_law_656 : decode cL_law 656 = .ok (.iconst 1, 1) := by decide +kernel
theorem dL_law_657 : decode cL_law 657 = .ok (.iadd, 1) := by decide +kernel
theorem dL_law_658 : decode cL_law 658 = .ok (.iaload, 1) := by decide +kernel
theorem dL_law_659 : decode cL_law 659 = .ok (.invokevirtual 60, 3) := by decide +kernel
theorem dL_law_662 : decode cL_law 662 = .ok (.if_icmp .eq 1091, 3) := by decide +kernel
theorem dL_law_665 : decode cL_law 665 = .ok (.iconst 0, 1) := by decide +kernel
theorem dL_law_666 : decode cL_law 666 = .ok (.ireturn, 1) := by decide +kernel
theorem dL_law_667 : decode cL_law 667 = .ok (.aload_n 1, 1) := by decide +kernel
theorem dL_law_668 : decode cL_law 668 = .ok (.aload_n 0, 1) := by decide +kernel
theorem dL_law_669 : decode cL_law 669 = .ok (.iload_n 3, 1) := by decide +kernel
theorem dL_law_670 : decode cL_law 670 = .ok (.iconst 1, 1) := by decide +kernel
theorem dL_law_671 : decode cL_law 671 = .ok (.iadd, 1) := by decide +kernel
theorem dL_law_672 : decode cL_law 672 = .ok (.iaload, 1) := by decide +kernel
theorem dL_law_673 : decode cL_law 673 = .ok (.aload_n 0, 1) := by decide +kernel
theorem dL_law_674 : decode cL_law 674 = .ok (.iload_n 3, 1) := by decide +kernel
theorem dL_law_675 : decode cL_law 675 = .ok (.iconst 2, 1) := by decide +kernel
theorem dL_law_676 : decode cL_law 676 = .ok (.iadd, 1) := by decide +kernel
theorem dL_law_677 : decode cL_law 677 = .ok (.iaload, 1) := by decide +kernel
theorem dL_law_678 : decode cL_law 678 = .ok (.invokevirtual 61, 3) := by decide +kernel
theorem dL_law_681 : decode cL_law 681 = .ok (.aload_n 2, 1) := by decide +kernel
theorem dL_law_682 : decode cL_law 682 = .ok (.aload_n 0, 1) := by decide +kernel
theorem dL_law_683 : decode cL_law 683 = .ok (.iload_n 3, 1) := by decide +kernel
theorem dL_law_684 : decode cL_law 684 = .ok (.iconst 1, 1) := by decide +kernel
theorem dL_law_685 : decode cL_law 685 = .ok (.iadd, 1) := by decide +kernel
theorem dL_law_686 : decode cL_law 686 = .ok (.iaload, 1) := by decide +kernel
theorem dL_law_687 : decode cL_law 687 = .ok (.aload_n 0, 1) := by decide +kernel
theorem dL_law_688 : decode cL_law 688 = .ok (.iload_n 3, 1) := by decide +kernel
theorem dL_law_689 : decode cL_law 689 = .ok (.iconst 2, 1) := by decide +kernel
theorem dL_law_690 : decode cL_law 690 = .ok (.iadd, 1) := by decide +kernel
theorem dL_law_691 : decode cL_law 691 = .ok (.iaload, 1) := by decide +kernel
theorem dL_law_692 : decode cL_law 692 = .ok (.invokevirtual 64, 3) := by decide +kernel
theorem dL_law_695 : decode cL_law 695 = .ok (.if_icmp .eq 1058, 3) := by decide +kernel
theorem dL_law_698 : decode cL_law 698 = .ok (.iconst 0, 1) := by decide +kernel
theorem dL_law_699 : decode cL_law 699 = .ok (.ireturn, 1) := by decide +kernel
theorem dL_law_700 : decode cL_law 700 = .ok (.aload_n 1, 1) := by decide +kernel
theorem dL_law_701 : decode cL_law 701 = .ok (.aload_n 0, 1) := by decide +kernel
theorem dL_law_702 : decode cL_law 702 = .ok (.iload_n 3, 1) := by decide +kernel
theorem dL_law_703 : decode cL_law 703 = .ok (.iconst 1, 1) := by decide +kernel
theorem dL_law_704 : decode cL_law 704 = .ok (.iadd, 1) := by decide +kernel
theorem dL_law_705 : decode cL_law 705 = .ok (.iaload, 1) := by decide +kernel
theorem dL_law_706 : decode cL_law 706 = .ok (.aload_n 0, 1) := by decide +kernel
theorem dL_law_707 : decode cL_law 707 = .ok (.iload_n 3, 1) := by decide +kernel
theorem dL_law_708 : decode cL_law 708 = .ok (.iconst 2, 1) := by decide +kernel
theorem dL_law_709 : decode cL_law 709 = .ok (.iadd, 1) := by decide +kernel
theorem dL_law_710 : decode cL_law 710 = .ok (.iaload, 1) := by decide +kernel
theorem dL_law_711 : decode cL_law 711 = .ok (.invokevirtual 65, 3) := by decide +kernel
theorem dL_law_714 : decode cL_law 714 = .ok (.aload_n 2, 1) := by decide +kernel
theorem dL_law_715 : decode cL_law 715 = .ok (.aload_n 0, 1) := by decide +kernel
theorem dL_law_716 : decode cL_law 716 = .ok (.iload_n 3, 1) := by decide +kernel
theorem dL_law_717 : decode cL_law 717 = .ok (.iconst 1, 1) := by decide +kernel
theorem dL_law_718 : decode cL_law 718 = .ok (.iadd, 1) := by decide +kernel
theorem dL_law_719 : decode cL_law 719 = .ok (.iaload, 1) := by decide +kernel
theorem dL_law_720 : decode cL_law 720 = .ok (.aload_n 0, 1) := by decide +kernel
theorem dL_law_721 : decode cL_law 721 = .ok (.iload_n 3, 1) := by decide +kernel
theorem dL_law_722 : decode cL_law 722 = .ok (.iconst 2, 1) := by decide +kernel
theorem dL_law_723 : decode cL_law 723 = .ok (.iadd, 1) := by decide +kernel
theorem dL_law_724 : decode cL_law 724 = .ok (.iaload, 1) := by decide +kernel
theorem dL_law_725 : decode cL_law 725 = .ok (.invokevirtual 68, 3) := by decide +kernel
theorem dL_law_728 : decode cL_law 728 = .ok (.if_icmp .eq 1025, 3) := by decide +kernel
theorem dL_law_731 : decode cL_law 731 = .ok (.iconst 0, 1) := by decide +kernel
theorem dL_law_732 : decode cL_law 732 = .ok (.ireturn, 1) := by decide +kernel
theorem dL_law_733 : decode cL_law 733 = .ok (.aload_n 1, 1) := by decide +kernel
theorem dL_law_734 : decode cL_law 734 = .ok (.aload_n 0, 1) := by decide +kernel
theorem dL_law_735 : decode cL_law 735 = .ok (.iload_n 3, 1) := by decide +kernel
theorem dL_law_736 : decode cL_law 736 = .ok (.iconst 1, 1) := by decide +kernel
theorem dL_law_737 : decode cL_law 737 = .ok (.iadd, 1) := by decide +kernel
theorem dL_law_738 : decode cL_law 738 = .ok (.iaload, 1) := by decide +kernel
theorem dL_law_739 : decode cL_law 739 = .ok (.aload_n 0, 1) := by decide +kernel
theorem dL_law_740 : decode cL_law 740 = .ok (.iload_n 3, 1) := by decide +kernel
theorem dL_law_741 : decode cL_law 741 = .ok (.iconst 2, 1) := by decide +kernel
theorem dL_law_742 : decode cL_law 742 = .ok (.iadd, 1) := by decide +kernel
theorem dL_law_743 : decode cL_law 743 = .ok (.iaload, 1) := by decide +kernel
theorem dL_law_744 : decode cL_law 744 = .ok (.invokevirtual 69, 3) := by decide +kernel
theorem dL_law_747 : decode cL_law 747 = .ok (.aload_n 2, 1) := by decide +kernel
theorem dL_law_748 : decode cL_law 748 = .ok (.aload_n 0, 1) := by decide +kernel
theorem dL_law_749 : decode cL_law 749 = .ok (.iload_n 3, 1) := by decide +kernel
theorem dL_law_750 : decode cL_law 750 = .ok (.iconst 1, 1) := by decide +kernel
theorem dL_law_751 : decode cL_law 751 = .ok (.iadd, 1) := by decide +kernel
theorem dL_law_752 : decode cL_law 752 = .ok (.iaload, 1) := by decide +kernel
theorem dL_law_753 : decode cL_law 753 = .ok (.aload_n 0, 1) := by decide +kernel
theorem dL_law_754 : decode cL_law 754 = .ok (.iload_n 3, 1) := by decide +kernel
theorem dL_law_755 : decode cL_law 755 = .ok (.iconst 2, 1) := by decide +kernel
theorem dL_law_756 : decode cL_law 756 = .ok (.iadd, 1) := by decide +kernel
theorem dL_law_757 : decode cL_law 757 = .ok (.iaload, 1) := by decide +kernel
theorem dL_law_758 : decode cL_law 758 = .ok (.invokevirtual 72, 3) := by decide +kernel
theorem dL_law_761 : decode cL_law 761 = .ok (.if_icmp .eq 992, 3) := by decide +kernel
theorem dL_law_764 : decode cL_law 764 = .ok (.iconst 0, 1) := by decide +kernel
theorem dL_law_765 : decode cL_law 765 = .ok (.ireturn, 1) := by decide +kernel
theorem dL_law_766 : decode cL_law 766 = .ok (.aload_n 1, 1) := by decide +kernel
theorem dL_law_767 : decode cL_law 767 = .ok (.aload_n 0, 1) := by decide +kernel
theorem dL_law_768 : decode cL_law 768 = .ok (.iload_n 3, 1) := by decide +kernel
theorem dL_law_769 : decode cL_law 769 = .ok (.iconst 1, 1) := by decide +kernel
theorem dL_law_770 : decode cL_law 770 = .ok (.iadd, 1) := by decide +kernel
theorem dL_law_771 : decode cL_law 771 = .ok (.iaload, 1) := by decide +kernel
theorem dL_law_772 : decode cL_law 772 = .ok (.aload_n 0, 1) := by decide +kernel
theorem dL_law_773 : decode cL_law 773 = .ok (.iload_n 3, 1) := by decide +kernel
theorem dL_law_774 : decode cL_law 774 = .ok (.iconst 2, 1) := by decide +kernel
theorem dL_law_775 : decode cL_law 775 = .ok (.iadd, 1) := by decide +kernel
theorem dL_law_776 : decode cL_law 776 = .ok (.iaload, 1) := by decide +kernel
theorem dL_law_777 : decode cL_law 777 = .ok (.invokevirtual 73, 3) := by decide +kernel
theorem dL_law_780 : decode cL_law 780 = .ok (.aload_n 2, 1) := by decide +kernel
theorem dL_law_781 : decode cL_law 781 = .ok (.aload_n 0, 1) := by decide +kernel
theorem dL_law_782 : decode cL_law 782 = .ok (.iload_n 3, 1) := by decide +kernel
theorem dL_law_783 : decode cL_law 783 = .ok (.iconst 1, 1) := by decide +kernel
theorem dL_law_784 : decode cL_law 784 = .ok (.iadd, 1) := by decide +kernel
theorem dL_law_785 : decode cL_law 785 = .ok (.iaload, 1) := by decide +kernel
theorem dL_law_786 : decode cL_law 786 = .ok (.aload_n 0, 1) := by decide +kernel
theorem dL_law_787 : decode cL_law 787 = .ok (.iload_n 3, 1) := by decide +kernel
theorem dL_law_788 : decode cL_law 788 = .ok (.iconst 2, 1) := by decide +kernel
theorem dL_law_789 : decode cL_law 789 = .ok (.iadd, 1) := by decide +kernel
theorem dL_law_790 : decode cL_law 790 = .ok (.iaload, 1) := by decide +kernel
theorem dL_law_791 : decode cL_law 791 = .ok (.invokevirtual 76, 3) := by decide +kernel
theorem dL_law_794 : decode cL_law 794 = .ok (.if_icmp .eq 959, 3) := by decide +kernel
theorem dL_law_797 : decode cL_law 797 = .ok (.iconst 0, 1) := by decide +kernel
theorem dL_law_798 : decode cL_law 798 = .ok (.ireturn, 1) := by decide +kernel
theorem dL_law_799 : decode cL_law 799 = .ok (.aload_n 1, 1) := by decide +kernel
theorem dL_law_800 : decode cL_law 800 = .ok (.aload_n 0, 1) := by decide +kernel
theorem dL_law_801 : decode cL_law 801 = .ok (.iload_n 3, 1) := by decide +kernel
theorem dL_law_802 : decode cL_law 802 = .ok (.iconst 1, 1) := by decide +kernel
theorem dL_law_803 : decode cL_law 803 = .ok (.iadd, 1) := by decide +kernel
theorem dL_law_804 : decode cL_law 804 = .ok (.iaload, 1) := by decide +kernel
theorem dL_law_805 : decode cL_law 805 = .ok (.aload_n 0, 1) := by decide +kernel
theorem dL_law_806 : decode cL_law 806 = .ok (.iload_n 3, 1) := by decide +kernel
theorem dL_law_807 : decode cL_law 807 = .ok (.iconst 2, 1) := by decide +kernel
theorem dL_law_808 : decode cL_law 808 = .ok (.iadd, 1) := by decide +kernel
theorem dL_law_809 : decode cL_law 809 = .ok (.iaload, 1) := by decide +kernel
theorem dL_law_810 : decode cL_law 810 = .ok (.invokevirtual 77, 3) := by decide +kernel
theorem dL_law_813 : decode cL_law 813 = .ok (.aload_n 2, 1) := by decide +kernel
theorem dL_law_814 : decode cL_law 814 = .ok (.aload_n 0, 1) := by decide +kernel
theorem dL_law_815 : decode cL_law 815 = .ok (.iload_n 3, 1) := by decide +kernel
theorem dL_law_816 : decode cL_law 816 = .ok (.iconst 1, 1) := by decide +kernel
theorem dL_law_817 : decode cL_law 817 = .ok (.iadd, 1) := by decide +kernel
theorem dL_law_818 : decode cL_law 818 = .ok (.iaload, 1) := by decide +kernel
theorem dL_law_819 : decode cL_law 819 = .ok (.aload_n 0, 1) := by decide +kernel
theorem dL_law_820 : decode cL_law 820 = .ok (.iload_n 3, 1) := by decide +kernel
theorem dL_law_821 : decode cL_law 821 = .ok (.iconst 2, 1) := by decide +kernel
theorem dL_law_822 : decode cL_law 822 = .ok (.iadd, 1) := by decide +kernel
theorem dL_law_823 : decode cL_law 823 = .ok (.iaload, 1) := by decide +kernel
theorem dL_law_824 : decode cL_law 824 = .ok (.invokevirtual 80, 3) := by decide +kernel
theorem dL_law_827 : decode cL_law 827 = .ok (.if_icmp .eq 926, 3) := by decide +kernel
theorem dL_law_830 : decode cL_law 830 = .ok (.iconst 0, 1) := by decide +kernel
theorem dL_law_831 : decode cL_law 831 = .ok (.ireturn, 1) := by decide +kernel
theorem dL_law_832 : decode cL_law 832 = .ok (.aload_n 1, 1) := by decide +kernel
theorem dL_law_833 : decode cL_law 833 = .ok (.aload_n 0, 1) := by decide +kernel
theorem dL_law_834 : decode cL_law 834 = .ok (.iload_n 3, 1) := by decide +kernel
theorem dL_law_835 : decode cL_law 835 = .ok (.iconst 1, 1) := by decide +kernel
theorem dL_law_836 : decode cL_law 836 = .ok (.iadd, 1) := by decide +kernel
theorem dL_law_837 : decode cL_law 837 = .ok (.iaload, 1) := by decide +kernel
theorem dL_law_838 : decode cL_law 838 = .ok (.aload_n 0, 1) := by decide +kernel
theorem dL_law_839 : decode cL_law 839 = .ok (.iload_n 3, 1) := by decide +kernel
theorem dL_law_840 : decode cL_law 840 = .ok (.iconst 2, 1) := by decide +kernel
theorem dL_law_841 : decode cL_law 841 = .ok (.iadd, 1) := by decide +kernel
theorem dL_law_842 : decode cL_law 842 = .ok (.iaload, 1) := by decide +kernel
theorem dL_law_843 : decode cL_law 843 = .ok (.invokevirtual 81, 3) := by decide +kernel
theorem dL_law_846 : decode cL_law 846 = .ok (.aload_n 2, 1) := by decide +kernel
theorem dL_law_847 : decode cL_law 847 = .ok (.aload_n 0, 1) := by decide +kernel
theorem dL_law_848 : decode cL_law 848 = .ok (.iload_n 3, 1) := by decide +kernel
theorem dL_law_849 : decode cL_law 849 = .ok (.iconst 1, 1) := by decide +kernel
theorem dL_law_850 : decode cL_law 850 = .ok (.iadd, 1) := by decide +kernel
theorem dL_law_851 : decode cL_law 851 = .ok (.iaload, 1) := by decide +kernel
theorem dL_law_852 : decode cL_law 852 = .ok (.aload_n 0, 1) := by decide +kernel
theorem dL_law_853 : decode cL_law 853 = .ok (.iload_n 3, 1) := by decide +kernel
theorem dL_law_854 : decode cL_law 854 = .ok (.iconst 2, 1) := by decide +kernel
theorem dL_law_855 : decode cL_law 855 = .ok (.iadd, 1) := by decide +kernel
theorem dL_law_856 : decode cL_law 856 = .ok (.iaload, 1) := by decide +kernel
theorem dL_law_857 : decode cL_law 857 = .ok (.invokevirtual 84, 3) := by decide +kernel
theorem dL_law_860 : decode cL_law 860 = .ok (.if_icmp .eq 893, 3) := by decide +kernel
theorem dL_law_863 : decode cL_law 863 = .ok (.iconst 0, 1) := by decide +kernel
theorem dL_law_864 : decode cL_law 864 = .ok (.ireturn, 1) := by decide +kernel
theorem dL_law_865 : decode cL_law 865 = .ok (.aload_n 1, 1) := by decide +kernel
theorem dL_law_866 : decode cL_law 866 = .ok (.aload_n 0, 1) := by decide +kernel
theorem dL_law_867 : decode cL_law 867 = .ok (.iload_n 3, 1) := by decide +kernel
theorem dL_law_868 : decode cL_law 868 = .ok (.iconst 1, 1) := by decide +kernel
theorem dL_law_869 : decode cL_law 869 = .ok (.iadd, 1) := by decide +kernel
theorem dL_law_870 : decode cL_law 870 = .ok (.iaload, 1) := by decide +kernel
theorem dL_law_871 : decode cL_law 871 = .ok (.aload_n 0, 1) := by decide +kernel
theorem dL_law_872 : decode cL_law 872 = .ok (.iload_n 3, 1) := by decide +kernel
theorem dL_law_873 : decode cL_law 873 = .ok (.iconst 2, 1) := by decide +kernel
theorem dL_law_874 : decode cL_law 874 = .ok (.iadd, 1) := by decide +kernel
theorem dL_law_875 : decode cL_law 875 = .ok (.iaload, 1) := by decide +kernel
theorem dL_law_876 : decode cL_law 876 = .ok (.invokevirtual 85, 3) := by decide +kernel
theorem dL_law_879 : decode cL_law 879 = .ok (.aload_n 2, 1) := by decide +kernel
theorem dL_law_880 : decode cL_law 880 = .ok (.aload_n 0, 1) := by decide +kernel
theorem dL_law_881 : decode cL_law 881 = .ok (.iload_n 3, 1) := by decide +kernel
theorem dL_law_882 : decode cL_law 882 = .ok (.iconst 1, 1) := by decide +kernel
theorem dL_law_883 : decode cL_law 883 = .ok (.iadd, 1) := by decide +kernel
theorem dL_law_884 : decode cL_law 884 = .ok (.iaload, 1) := by decide +kernel
theorem dL_law_885 : decode cL_law 885 = .ok (.aload_n 0, 1) := by decide +kernel
theorem dL_law_886 : decode cL_law 886 = .ok (.iload_n 3, 1) := by decide +kernel
theorem dL_law_887 : decode cL_law 887 = .ok (.iconst 2, 1) := by decide +kernel
theorem dL_law_888 : decode cL_law 888 = .ok (.iadd, 1) := by decide +kernel
theorem dL_law_889 : decode cL_law 889 = .ok (.iaload, 1) := by decide +kernel
theorem dL_law_890 : decode cL_law 890 = .ok (.invokevirtual 88, 3) := by decide +kernel
theorem dL_law_893 : decode cL_law 893 = .ok (.if_icmp .eq 860, 3) := by decide +kernel
theorem dL_law_896 : decode cL_law 896 = .ok (.iconst 0, 1) := by decide +kernel
theorem dL_law_897 : decode cL_law 897 = .ok (.ireturn, 1) := by decide +kernel
theorem dL_law_898 : decode cL_law 898 = .ok (.aload_n 1, 1) := by decide +kernel
theorem dL_law_899 : decode cL_law 899 = .ok (.aload_n 0, 1) := by decide +kernel
theorem dL_law_900 : decode cL_law 900 = .ok (.iload_n 3, 1) := by decide +kernel
theorem dL_law_901 : decode cL_law 901 = .ok (.iconst 1, 1) := by decide +kernel
theorem dL_law_902 : decode cL_law 902 = .ok (.iadd, 1) := by decide +kernel
theorem dL_law_903 : decode cL_law 903 = .ok (.iaload, 1) := by decide +kernel
theorem dL_law_904 : decode cL_law 904 = .ok (.invokevirtual 89, 3) := by decide +kernel
theorem dL_law_907 : decode cL_law 907 = .ok (.aload_n 2, 1) := by decide +kernel
theorem dL_law_908 : decode cL_law 908 = .ok (.aload_n 0, 1) := by decide +kernel
theorem dL_law_909 : decode cL_law 909 = .ok (.iload_n 3, 1) := by decide +kernel
theorem dL_law_910 : decode cL_law 910 = .ok (.iconst 1, 1) := by decide +kernel
theorem dL_law_911 : decode cL_law 911 = .ok (.iadd, 1) := by decide +kernel
theorem dL_law_912 : decode cL_law 912 = .ok (.iaload, 1) := by decide +kernel
theorem dL_law_913 : decode cL_law 913 = .ok (.invokevirtual 92, 3) := by decide +kernel
theorem dL_law_916 : decode cL_law 916 = .ok (.if_icmp .eq 837, 3) := by decide +kernel
theorem dL_law_919 : decode cL_law 919 = .ok (.iconst 0, 1) := by decide +kernel
theorem dL_law_920 : decode cL_law 920 = .ok (.ireturn, 1) := by decide +kernel
theorem dL_law_921 : decode cL_law 921 = .ok (.aload_n 1, 1) := by decide +kernel
theorem dL_law_922 : decode cL_law 922 = .ok (.aload_n 0, 1) := by decide +kernel
theorem dL_law_923 : decode cL_law 923 = .ok (.iload_n 3, 1) := by decide +kernel
theorem dL_law_924 : decode cL_law 924 = .ok (.iconst 1, 1) := by decide +kernel
theorem dL_law_925 : decode cL_law 925 = .ok (.iadd, 1) := by decide +kernel
theorem dL_law_926 : decode cL_law 926 = .ok (.iaload, 1) := by decide +kernel
theorem dL_law_927 : decode cL_law 927 = .ok (.invokevirtual 93, 3) := by decide +kernel
theorem dL_law_930 : decode cL_law 930 = .ok (.aload_n 2, 1) := by decide +kernel
theorem dL_law_931 : decode cL_law 931 = .ok (.aload_n 0, 1) := by decide +kernel
theorem dL_law_932 : decode cL_law 932 = .ok (.iload_n 3, 1) := by decide +kernel
theorem dL_law_933 : decode cL_law 933 = .ok (.iconst 1, 1) := by decide +kernel
theorem dL_law_934 : decode cL_law 934 = .ok (.iadd, 1) := by decide +kernel
theorem dL_law_935 : decode cL_law 935 = .ok (.iaload, 1) := by decide +kernel
theorem dL_law_936 : decode cL_law 936 = .ok (.invokevirtual 96, 3) := by decide +kernel
theorem dL_law_939 : decode cL_law 939 = .ok (.if_icmp .eq 814, 3) := by decide +kernel
theorem dL_law_942 : decode cL_law 942 = .ok (.iconst 0, 1) := by decide +kernel
theorem dL_law_943 : decode cL_law 943 = .ok (.ireturn, 1) := by decide +kernel
theorem dL_law_944 : decode cL_law 944 = .ok (.aload_n 1, 1) := by decide +kernel
theorem dL_law_945 : decode cL_law 945 = .ok (.aload_n 0, 1) := by decide +kernel
theorem dL_law_946 : decode cL_law 946 = .ok (.iload_n 3, 1) := by decide +kernel
theorem dL_law_947 : decode cL_law 947 = .ok (.iconst 1, 1) := by decide +kernel
theorem dL_law_948 : decode cL_law 948 = .ok (.iadd, 1) := by decide +kernel
theorem dL_law_949 : decode cL_law 949 = .ok (.iaload, 1) := by decide +kernel
theorem dL_law_950 : decode cL_law 950 = .ok (.aload_n 0, 1) := by decide +kernel
theorem dL_law_951 : decode cL_law 951 = .ok (.iload_n 3, 1) := by decide +kernel
theorem dL_law_952 : decode cL_law 952 = .ok (.iconst 2, 1) := by decide +kernel
theorem dL_law_953 : decode cL_law 953 = .ok (.iadd, 1) := by decide +kernel
theorem dL_law_954 : decode cL_law 954 = .ok (.iaload, 1) := by decide +kernel
theorem dL_law_955 : decode cL_law 955 = .ok (.aload_n 0, 1) := by decide +kernel
theorem dL_law_956 : decode cL_law 956 = .ok (.iload_n 3, 1) := by decide +kernel
theorem dL_law_957 : decode cL_law 957 = .ok (.iconst 3, 1) := by decide +kernel
theorem dL_law_958 : decode cL_law 958 = .ok (.iadd, 1) := by decide +kernel
theorem dL_law_959 : decode cL_law 959 = .ok (.iaload, 1) := by decide +kernel
theorem dL_law_960 : decode cL_law 960 = .ok (.aload_n 0, 1) := by decide +kernel
theorem dL_law_961 : decode cL_law 961 = .ok (.iload_n 3, 1) := by decide +kernel
theorem dL_law_962 : decode cL_law 962 = .ok (.iconst 4, 1) := by decide +kernel
theorem dL_law_963 : decode cL_law 963 = .ok (.iadd, 1) := by decide +kernel
theorem dL_law_964 : decode cL_law 964 = .ok (.iaload, 1) := by decide +kernel
theorem dL_law_965 : decode cL_law 965 = .ok (.invokevirtual 97, 3) := by decide +kernel
theorem dL_law_968 : decode cL_law 968 = .ok (.aload_n 2, 1) := by decide +kernel
theorem dL_law_969 : decode cL_law 969 = .ok (.aload_n 0, 1) := by decide +kernel
theorem dL_law_970 : decode cL_law 970 = .ok (.iload_n 3, 1) := by decide +kernel
theorem dL_law_971 : decode cL_law 971 = .ok (.iconst 1, 1) := by decide +kernel
theorem dL_law_972 : decode cL_law 972 = .ok (.iadd, 1) := by decide +kernel
theorem dL_law_973 : decode cL_law 973 = .ok (.iaload, 1) := by decide +kernel
theorem dL_law_974 : decode cL_law 974 = .ok (.aload_n 0, 1) := by decide +kernel
theorem dL_law_975 : decode cL_law 975 = .ok (.iload_n 3, 1) := by decide +kernel
theorem dL_law_976 : decode cL_law 976 = .ok (.iconst 2, 1) := by decide +kernel
theorem dL_law_977 : decode cL_law 977 = .ok (.iadd, 1) := by decide +kernel
theorem dL_law_978 : decode cL_law 978 = .ok (.iaload, 1) := by decide +kernel
theorem dL_law_979 : decode cL_law 979 = .ok (.aload_n 0, 1) := by decide +kernel
theorem dL_law_980 : decode cL_law 980 = .ok (.iload_n 3, 1) := by decide +kernel
theorem dL_law_981 : decode cL_law 981 = .ok (.iconst 3, 1) := by decide +kernel
theorem dL_law_982 : decode cL_law 982 = .ok (.iadd, 1) := by decide +kernel
theorem dL_law_983 : decode cL_law 983 = .ok (.iaload, 1) := by decide +kernel
theorem dL_law_984 : decode cL_law 984 = .ok (.aload_n 0, 1) := by decide +kernel
theorem dL_law_985 : decode cL_law 985 = .ok (.iload_n 3, 1) := by decide +kernel
theorem dL_law_986 : decode cL_law 986 = .ok (.iconst 4, 1) := by decide +kernel
theorem dL_law_987 : decode cL_law 987 = .ok (.iadd, 1) := by decide +kernel
theorem dL_law_988 : decode cL_law 988 = .ok (.iaload, 1) := by decide +kernel
theorem dL_law_989 : decode cL_law 989 = .ok (.invokevirtual 101, 3) := by decide +kernel
theorem dL_law_992 : decode cL_law 992 = .ok (.if_icmp .eq 761, 3) := by decide +kernel
theorem dL_law_995 : decode cL_law 995 = .ok (.iconst 0, 1) := by decide +kernel
theorem dL_law_996 : decode cL_law 996 = .ok (.ireturn, 1) := by decide +kernel
theorem dL_law_997 : decode cL_law 997 = .ok (.aload_n 1, 1) := by decide +kernel
theorem dL_law_998 : decode cL_law 998 = .ok (.aload_n 0, 1) := by decide +kernel
theorem dL_law_999 : decode cL_law 999 = .ok (.iload_n 3, 1) := by decide +kernel
theorem dL_law_1000 : decode cL_law 1000 = .ok (.iconst 1, 1) := by decide +kernel
theorem dL_law_1001 : decode cL_law 1001 = .ok (.iadd, 1) := by decide +kernel
theorem dL_law_1002 : decode cL_law 1002 = .ok (.iaload, 1) := by decide +kernel
theorem dL_law_1003 : decode cL_law 1003 = .ok (.invokevirtual 102, 3) := by decide +kernel
theorem dL_law_1006 : decode cL_law 1006 = .ok (.aload_n 2, 1) := by decide +kernel
theorem dL_law_1007 : decode cL_law 1007 = .ok (.aload_n 0, 1) := by decide +kernel
theorem dL_law_1008 : decode cL_law 1008 = .ok (.iload_n 3, 1) := by decide +kernel
theorem dL_law_1009 : decode cL_law 1009 = .ok (.iconst 1, 1) := by decide +kernel
theorem dL_law_1010 : decode cL_law 1010 = .ok (.iadd, 1) := by decide +kernel
theorem dL_law_1011 : decode cL_law 1011 = .ok (.iaload, 1) := by decide +kernel
theorem dL_law_1012 : decode cL_law 1012 = .ok (.invokevirtual 105, 3) := by decide +kernel
theorem dL_law_1015 : decode cL_law 1015 = .ok (.if_icmp .eq 738, 3) := by decide +kernel
theorem dL_law_1018 : decode cL_law 1018 = .ok (.iconst 0, 1) := by decide +kernel
theorem dL_law_1019 : decode cL_law 1019 = .ok (.ireturn, 1) := by decide +kernel
theorem dL_law_1020 : decode cL_law 1020 = .ok (.aload_n 1, 1) := by decide +kernel
theorem dL_law_1021 : decode cL_law 1021 = .ok (.aload_n 0, 1) := by decide +kernel
theorem dL_law_1022 : decode cL_law 1022 = .ok (.iload_n 3, 1) := by decide +kernel
theorem dL_law_1023 : decode cL_law 1023 = .ok (.iconst 1, 1) := by decide +kernel
theorem dL_law_1024 : decode cL_law 1024 = .ok (.iadd, 1) := by decide +kernel
theorem dL_law_1025 : decode cL_law 1025 = .ok (.iaload, 1) := by decide +kernel
theorem dL_law_1026 : decode cL_law 1026 = .ok (.aload_n 0, 1) := by decide +kernel
theorem dL_law_1027 : decode cL_law 1027 = .ok (.iload_n 3, 1) := by decide +kernel
theorem dL_law_1028 : decode cL_law 1028 = .ok (.iconst 2, 1) := by decide +kernel
theorem dL_law_1029 : decode cL_law 1029 = .ok (.iadd, 1) := by decide +kernel
theorem dL_law_1030 : decode cL_law 1030 = .ok (.iaload, 1) := by decide +kernel
theorem dL_law_1031 : decode cL_law 1031 = .ok (.aload_n 0, 1) := by decide +kernel
theorem dL_law_1032 : decode cL_law 1032 = .ok (.iload_n 3, 1) := by decide +kernel
theorem dL_law_1033 : decode cL_law 1033 = .ok (.iconst 3, 1) := by decide +kernel
theorem dL_law_1034 : decode cL_law 1034 = .ok (.iadd, 1) := by decide +kernel
theorem dL_law_1035 : decode cL_law 1035 = .ok (.iaload, 1) := by decide +kernel
theorem dL_law_1036 : decode cL_law 1036 = .ok (.aload_n 0, 1) := by decide +kernel
theorem dL_law_1037 : decode cL_law 1037 = .ok (.iload_n 3, 1) := by decide +kernel
theorem dL_law_1038 : decode cL_law 1038 = .ok (.iconst 4, 1) := by decide +kernel
theorem dL_law_1039 : decode cL_law 1039 = .ok (.iadd, 1) := by decide +kernel
theorem dL_law_1040 : decode cL_law 1040 = .ok (.iaload, 1) := by decide +kernel
theorem dL_law_1041 : decode cL_law 1041 = .ok (.invokevirtual 106, 3) := by decide +kernel
theorem dL_law_1044 : decode cL_law 1044 = .ok (.aload_n 2, 1) := by decide +kernel
theorem dL_law_1045 : decode cL_law 1045 = .ok (.aload_n 0, 1) := by decide +kernel
theorem dL_law_1046 : decode cL_law 1046 = .ok (.iload_n 3, 1) := by decide +kernel
theorem dL_law_1047 : decode cL_law 1047 = .ok (.iconst 1, 1) := by decide +kernel
theorem dL_law_1048 : decode cL_law 1048 = .ok (.iadd, 1) := by decide +kernel
theorem dL_law_1049 : decode cL_law 1049 = .ok (.iaload, 1) := by decide +kernel
theorem dL_law_1050 : decode cL_law 1050 = .ok (.aload_n 0, 1) := by decide +kernel
theorem dL_law_1051 : decode cL_law 1051 = .ok (.iload_n 3, 1) := by decide +kernel
theorem dL_law_1052 : decode cL_law 1052 = .ok (.iconst 2, 1) := by decide +kernel
theorem dL_law_1053 : decode cL_law 1053 = .ok (.iadd, 1) := by decide +kernel
theorem dL_law_1054 : decode cL_law 1054 = .ok (.iaload, 1) := by decide +kernel
theorem dL_law_1055 : decode cL_law 1055 = .ok (.aload_n 0, 1) := by decide +kernel
theorem dL_law_1056 : decode cL_law 1056 = .ok (.iload_n 3, 1) := by decide +kernel
theorem dL_law_1057 : decode cL_law 1057 = .ok (.iconst 3, 1) := by decide +kernel
theorem dL_law_1058 : decode cL_law 1058 = .ok (.iadd, 1) := by decide +kernel
theorem dL_law_1059 : decode cL_law 1059 = .ok (.iaload, 1) := by decide +kernel
theorem dL_law_1060 : decode cL_law 1060 = .ok (.aload_n 0, 1) := by decide +kernel
theorem dL_law_1061 : decode cL_law 1061 = .ok (.iload_n 3, 1) := by decide +kernel
theorem dL_law_1062 : decode cL_law 1062 = .ok (.iconst 4, 1) := by decide +kernel
theorem dL_law_1063 : decode cL_law 1063 = .ok (.iadd, 1) := by decide +kernel
theorem dL_law_1064 : decode cL_law 1064 = .ok (.iaload, 1) := by decide +kernel
theorem dL_law_1065 : decode cL_law 1065 = .ok (.invokevirtual 109, 3) := by decide +kernel
theorem dL_law_1068 : decode cL_law 1068 = .ok (.if_icmp .eq 685, 3) := by decide +kernel
theorem dL_law_1071 : decode cL_law 1071 = .ok (.iconst 0, 1) := by decide +kernel
theorem dL_law_1072 : decode cL_law 1072 = .ok (.ireturn, 1) := by decide +kernel
theorem dL_law_1073 : decode cL_law 1073 = .ok (.aload_n 1, 1) := by decide +kernel
theorem dL_law_1074 : decode cL_law 1074 = .ok (.aload_n 0, 1) := by decide +kernel
theorem dL_law_1075 : decode cL_law 1075 = .ok (.iload_n 3, 1) := by decide +kernel
theorem dL_law_1076 : decode cL_law 1076 = .ok (.iconst 1, 1) := by decide +kernel
theorem dL_law_1077 : decode cL_law 1077 = .ok (.iadd, 1) := by decide +kernel
theorem dL_law_1078 : decode cL_law 1078 = .ok (.iaload, 1) := by decide +kernel
theorem dL_law_1079 : decode cL_law 1079 = .ok (.aload_n 0, 1) := by decide +kernel
theorem dL_law_1080 : decode cL_law 1080 = .ok (.iload_n 3, 1) := by decide +kernel
theorem dL_law_1081 : decode cL_law 1081 = .ok (.iconst 2, 1) := by decide +kernel
theorem dL_law_1082 : decode cL_law 1082 = .ok (.iadd, 1) := by decide +kernel
theorem dL_law_1083 : decode cL_law 1083 = .ok (.iaload, 1) := by decide +kernel
theorem dL_law_1084 : decode cL_law 1084 = .ok (.aload_n 0, 1) := by decide +kernel
theorem dL_law_1085 : decode cL_law 1085 = .ok (.iload_n 3, 1) := by decide +kernel
theorem dL_law_1086 : decode cL_law 1086 = .ok (.iconst 3, 1) := by decide +kernel
theorem dL_law_1087 : decode cL_law 1087 = .ok (.iadd, 1) := by decide +kernel
theorem dL_law_1088 : decode cL_law 1088 = .ok (.iaload, 1) := by decide +kernel
theorem dL_law_1089 : decode cL_law 1089 = .ok (.invokevirtual 110, 3) := by decide +kernel
theorem dL_law_1092 : decode cL_law 1092 = .ok (.aload_n 2, 1) := by decide +kernel
theorem dL_law_1093 : decode cL_law 1093 = .ok (.aload_n 0, 1) := by decide +kernel
theorem dL_law_1094 : decode cL_law 1094 = .ok (.iload_n 3, 1) := by decide +kernel
theorem dL_law_1095 : decode cL_law 1095 = .ok (.iconst 1, 1) := by decide +kernel
theorem dL_law_1096 : decode cL_law 1096 = .ok (.iadd, 1) := by decide +kernel
theorem dL_law_1097 : decode cL_law 1097 = .ok (.iaload, 1) := by decide +kernel
theorem dL_law_1098 : decode cL_law 1098 = .ok (.aload_n 0, 1) := by decide +kernel
theorem dL_law_1099 : decode cL_law 1099 = .ok (.iload_n 3, 1) := by decide +kernel
theorem dL_law_1100 : decode cL_law 1100 = .ok (.iconst 2, 1) := by decide +kernel
theorem dL_law_1101 : decode cL_law 1101 = .ok (.iadd, 1) := by decide +kernel
theorem dL_law_1102 : decode cL_law 1102 = .ok (.iaload, 1) := by decide +kernel
theorem dL_law_1103 : decode cL_law 1103 = .ok (.aload_n 0, 1) := by decide +kernel
theorem dL_law_1104 : decode cL_law 1104 = .ok (.iload_n 3, 1) := by decide +kernel
theorem dL_law_1105 : decode cL_law 1105 = .ok (.iconst 3, 1) := by decide +kernel
theorem dL_law_1106 : decode cL_law 1106 = .ok (.iadd, 1) := by decide +kernel
theorem dL_law_1107 : decode cL_law 1107 = .ok (.iaload, 1) := by decide +kernel
theorem dL_law_1108 : decode cL_law 1108 = .ok (.invokevirtual 113, 3) := by decide +kernel
theorem dL_law_1111 : decode cL_law 1111 = .ok (.if_icmp .eq 642, 3) := by decide +kernel
theorem dL_law_1114 : decode cL_law 1114 = .ok (.iconst 0, 1) := by decide +kernel
theorem dL_law_1115 : decode cL_law 1115 = .ok (.ireturn, 1) := by decide +kernel
theorem dL_law_1116 : decode cL_law 1116 = .ok (.aload_n 1, 1) := by decide +kernel
theorem dL_law_1117 : decode cL_law 1117 = .ok (.aload_n 0, 1) := by decide +kernel
theorem dL_law_1118 : decode cL_law 1118 = .ok (.iload_n 3, 1) := by decide +kernel
theorem dL_law_1119 : decode cL_law 1119 = .ok (.iconst 1, 1) := by decide +kernel
theorem dL_law_1120 : decode cL_law 1120 = .ok (.iadd, 1) := by decide +kernel
theorem dL_law_1121 : decode cL_law 1121 = .ok (.iaload, 1) := by decide +kernel
theorem dL_law_1122 : decode cL_law 1122 = .ok (.aload_n 0, 1) := by decide +kernel
theorem dL_law_1123 : decode cL_law 1123 = .ok (.iload_n 3, 1) := by decide +kernel
theorem dL_law_1124 : decode cL_law 1124 = .ok (.iconst 2, 1) := by decide +kernel
theorem dL_law_1125 : decode cL_law 1125 = .ok (.iadd, 1) := by decide +kernel
theorem dL_law_1126 : decode cL_law 1126 = .ok (.iaload, 1) := by decide +kernel
theorem dL_law_1127 : decode cL_law 1127 = .ok (.invokevirtual 114, 3) := by decide +kernel
theorem dL_law_1130 : decode cL_law 1130 = .ok (.aload_n 2, 1) := by decide +kernel
theorem dL_law_1131 : decode cL_law 1131 = .ok (.aload_n 0, 1) := by decide +kernel
theorem dL_law_1132 : decode cL_law 1132 = .ok (.iload_n 3, 1) := by decide +kernel
theorem dL_law_1133 : decode cL_law 1133 = .ok (.iconst 1, 1) := by decide +kernel
theorem dL_law_1134 : decode cL_law 1134 = .ok (.iadd, 1) := by decide +kernel
theorem dL_law_1135 : decode cL_law 1135 = .ok (.iaload, 1) := by decide +kernel
theorem dL_law_1136 : decode cL_law 1136 = .ok (.aload_n 0, 1) := by decide +kernel
theorem dL_law_1137 : decode cL_law 1137 = .ok (.iload_n 3, 1) := by decide +kernel
theorem dL_law_1138 : decode cL_law 1138 = .ok (.iconst 2, 1) := by decide +kernel
theorem dL_law_1139 : decode cL_law 1139 = .ok (.iadd, 1) := by decide +kernel
theorem dL_law_1140 : decode cL_law 1140 = .ok (.iaload, 1) := by decide +kernel
theorem dL_law_1141 : decode cL_law 1141 = .ok (.invokevirtual 117, 3) := by decide +kernel
theorem dL_law_1144 : decode cL_law 1144 = .ok (.if_icmp .eq 609, 3) := by decide +kernel
theorem dL_law_1147 : decode cL_law 1147 = .ok (.iconst 0, 1) := by decide +kernel
theorem dL_law_1148 : decode cL_law 1148 = .ok (.ireturn, 1) := by decide +kernel
theorem dL_law_1149 : decode cL_law 1149 = .ok (.aload_n 1, 1) := by decide +kernel
theorem dL_law_1150 : decode cL_law 1150 = .ok (.aload_n 0, 1) := by decide +kernel
theorem dL_law_1151 : decode cL_law 1151 = .ok (.iload_n 3, 1) := by decide +kernel
theorem dL_law_1152 : decode cL_law 1152 = .ok (.iconst 1, 1) := by decide +kernel
theorem dL_law_1153 : decode cL_law 1153 = .ok (.iadd, 1) := by decide +kernel
theorem dL_law_1154 : decode cL_law 1154 = .ok (.iaload, 1) := by decide +kernel
theorem dL_law_1155 : decode cL_law 1155 = .ok (.aload_n 0, 1) := by decide +kernel
theorem dL_law_1156 : decode cL_law 1156 = .ok (.iload_n 3, 1) := by decide +kernel
theorem dL_law_1157 : decode cL_law 1157 = .ok (.iconst 2, 1) := by decide +kernel
theorem dL_law_1158 : decode cL_law 1158 = .ok (.iadd, 1) := by decide +kernel
theorem dL_law_1159 : decode cL_law 1159 = .ok (.iaload, 1) := by decide +kernel
theorem dL_law_1160 : decode cL_law 1160 = .ok (.aload_n 0, 1) := by decide +kernel
theorem dL_law_1161 : decode cL_law 1161 = .ok (.iload_n 3, 1) := by decide +kernel
theorem dL_law_1162 : decode cL_law 1162 = .ok (.iconst 3, 1) := by decide +kernel
theorem dL_law_1163 : decode cL_law 1163 = .ok (.iadd, 1) := by decide +kernel
theorem dL_law_1164 : decode cL_law 1164 = .ok (.iaload, 1) := by decide +kernel
theorem dL_law_1165 : decode cL_law 1165 = .ok (.aload_n 0, 1) := by decide +kernel
theorem dL_law_1166 : decode cL_law 1166 = .ok (.iload_n 3, 1) := by decide +kernel
theorem dL_law_1167 : decode cL_law 1167 = .ok (.iconst 4, 1) := by decide +kernel
theorem dL_law_1168 : decode cL_law 1168 = .ok (.iadd, 1) := by decide +kernel
theorem dL_law_1169 : decode cL_law 1169 = .ok (.iaload, 1) := by decide +kernel
theorem dL_law_1170 : decode cL_law 1170 = .ok (.aload_n 0, 1) := by decide +kernel
theorem dL_law_1171 : decode cL_law 1171 = .ok (.iload_n 3, 1) := by decide +kernel
theorem dL_law_1172 : decode cL_law 1172 = .ok (.iconst 5, 1) := by decide +kernel
theorem dL_law_1173 : decode cL_law 1173 = .ok (.iadd, 1) := by decide +kernel
theorem dL_law_1174 : decode cL_law 1174 = .ok (.iaload, 1) := by decide +kernel
theorem dL_law_1175 : decode cL_law 1175 = .ok (.invokevirtual 118, 3) := by decide +kernel
theorem dL_law_1178 : decode cL_law 1178 = .ok (.aload_n 2, 1) := by decide +kernel
theorem dL_law_1179 : decode cL_law 1179 = .ok (.aload_n 0, 1) := by decide +kernel
theorem dL_law_1180 : decode cL_law 1180 = .ok (.iload_n 3, 1) := by decide +kernel
theorem dL_law_1181 : decode cL_law 1181 = .ok (.iconst 1, 1) := by decide +kernel
theorem dL_law_1182 : decode cL_law 1182 = .ok (.iadd, 1) := by decide +kernel
theorem dL_law_1183 : decode cL_law 1183 = .ok (.iaload, 1) := by decide +kernel
theorem dL_law_1184 : decode cL_law 1184 = .ok (.aload_n 0, 1) := by decide +kernel
theorem dL_law_1185 : decode cL_law 1185 = .ok (.iload_n 3, 1) := by decide +kernel
theorem dL_law_1186 : decode cL_law 1186 = .ok (.iconst 2, 1) := by decide +kernel
theorem dL_law_1187 : decode cL_law 1187 = .ok (.iadd, 1) := by decide +kernel
theorem dL_law_1188 : decode cL_law 1188 = .ok (.iaload, 1) := by decide +kernel
theorem dL_law_1189 : decode cL_law 1189 = .ok (.aload_n 0, 1) := by decide +kernel
theorem dL_law_1190 : decode cL_law 1190 = .ok (.iload_n 3, 1) := by decide +kernel
theorem dL_law_1191 : decode cL_law 1191 = .ok (.iconst 3, 1) := by decide +kernel
theorem dL_law_1192 : decode cL_law 1192 = .ok (.iadd, 1) := by decide +kernel
theorem dL_law_1193 : decode cL_law 1193 = .ok (.iaload, 1) := by decide +kernel
theorem dL_law_1194 : decode cL_law 1194 = .ok (.aload_n 0, 1) := by decide +kernel
theorem dL_law_1195 : decode cL_law 1195 = .ok (.iload_n 3, 1) := by decide +kernel
theorem dL_law_1196 : decode cL_law 1196 = .ok (.iconst 4, 1) := by decide +kernel
theorem dL_law_1197 : decode cL_law 1197 = .ok (.iadd, 1) := by decide +kernel
theorem dL_law_1198 : decode cL_law 1198 = .ok (.iaload, 1) := by decide +kernel
theorem dL_law_1199 : decode cL_law 1199 = .ok (.aload_n 0, 1) := by decide +kernel
theorem dL_law_1200 : decode cL_law 1200 = .ok (.iload_n 3, 1) := by decide +kernel
theorem dL_law_1201 : decode cL_law 1201 = .ok (.iconst 5, 1) := by decide +kernel
theorem dL_law_1202 : decode cL_law 1202 = .ok (.iadd, 1) := by decide +kernel
theorem dL_law_1203 : decode cL_law 1203 = .ok (.iaload, 1) := by decide +kernel
theorem dL_law_1204 : decode cL_law 1204 = .ok (.invokevirtual 121, 3) := by decide +kernel
theorem dL_law_1207 : decode cL_law 1207 = .ok (.if_icmp .eq 546, 3) := by decide +kernel
theorem dL_law_1210 : decode cL_law 1210 = .ok (.iconst 0, 1) := by decide +kernel
theorem dL_law_1211 : decode cL_law 1211 = .ok (.ireturn, 1) := by decide +kernel
theorem dL_law_1212 : decode cL_law 1212 = .ok (.aload_n 1, 1) := by decide +kernel
theorem dL_law_1213 : decode cL_law 1213 = .ok (.aload_n 0, 1) := by decide +kernel
theorem dL_law_1214 : decode cL_law 1214 = .ok (.iload_n 3, 1) := by decide +kernel
theorem dL_law_1215 : decode cL_law 1215 = .ok (.iconst 1, 1) := by decide +kernel
theorem dL_law_1216 : decode cL_law 1216 = .ok (.iadd, 1) := by decide +kernel
theorem dL_law_1217 : decode cL_law 1217 = .ok (.iaload, 1) := by decide +kernel
theorem dL_law_1218 : decode cL_law 1218 = .ok (.aload_n 0, 1) := by decide +kernel
theorem dL_law_1219 : decode cL_law 1219 = .ok (.iload_n 3, 1) := by decide +kernel
theorem dL_law_1220 : decode cL_law 1220 = .ok (.iconst 2, 1) := by decide +kernel
theorem dL_law_1221 : decode cL_law 1221 = .ok (.iadd, 1) := by decide +kernel
theorem dL_law_1222 : decode cL_law 1222 = .ok (.iaload, 1) := by decide +kernel
theorem dL_law_1223 : decode cL_law 1223 = .ok (.invokevirtual 122, 3) := by decide +kernel
theorem dL_law_1226 : decode cL_law 1226 = .ok (.aload_n 2, 1) := by decide +kernel
theorem dL_law_1227 : decode cL_law 1227 = .ok (.aload_n 0, 1) := by decide +kernel
theorem dL_law_1228 : decode cL_law 1228 = .ok (.iload_n 3, 1) := by decide +kernel
theorem dL_law_1229 : decode cL_law 1229 = .ok (.iconst 1, 1) := by decide +kernel
theorem dL_law_1230 : decode cL_law 1230 = .ok (.iadd, 1) := by decide +kernel
theorem dL_law_1231 : decode cL_law 1231 = .ok (.iaload, 1) := by decide +kernel
theorem dL_law_1232 : decode cL_law 1232 = .ok (.aload_n 0, 1) := by decide +kernel
theorem dL_law_1233 : decode cL_law 1233 = .ok (.iload_n 3, 1) := by decide +kernel
theorem dL_law_1234 : decode cL_law 1234 = .ok (.iconst 2, 1) := by decide +kernel
theorem dL_law_1235 : decode cL_law 1235 = .ok (.iadd, 1) := by decide +kernel
theorem dL_law_1236 : decode cL_law 1236 = .ok (.iaload, 1) := by decide +kernel
theorem dL_law_1237 : decode cL_law 1237 = .ok (.invokevirtual 125, 3) := by decide +kernel
theorem dL_law_1240 : decode cL_law 1240 = .ok (.if_icmp .eq 513, 3) := by decide +kernel
theorem dL_law_1243 : decode cL_law 1243 = .ok (.iconst 0, 1) := by decide +kernel
theorem dL_law_1244 : decode cL_law 1244 = .ok (.ireturn, 1) := by decide +kernel
theorem dL_law_1245 : decode cL_law 1245 = .ok (.aload_n 1, 1) := by decide +kernel
theorem dL_law_1246 : decode cL_law 1246 = .ok (.aload_n 0, 1) := by decide +kernel
theorem dL_law_1247 : decode cL_law 1247 = .ok (.iload_n 3, 1) := by decide +kernel
theorem dL_law_1248 : decode cL_law 1248 = .ok (.iconst 1, 1) := by decide +kernel
theorem dL_law_1249 : decode cL_law 1249 = .ok (.iadd, 1) := by decide +kernel
theorem dL_law_1250 : decode cL_law 1250 = .ok (.iaload, 1) := by decide +kernel
theorem dL_law_1251 : decode cL_law 1251 = .ok (.invokevirtual 126, 3) := by decide +kernel
theorem dL_law_1254 : decode cL_law 1254 = .ok (.aload_n 2, 1) := by decide +kernel
theorem dL_law_1255 : decode cL_law 1255 = .ok (.aload_n 0, 1) := by decide +kernel
theorem dL_law_1256 : decode cL_law 1256 = .ok (.iload_n 3, 1) := by decide +kernel
theorem dL_law_1257 : decode cL_law 1257 = .ok (.iconst 1, 1) := by decide +kernel
theorem dL_law_1258 : decode cL_law 1258 = .ok (.iadd, 1) := by decide +kernel
theorem dL_law_1259 : decode cL_law 1259 = .ok (.iaload, 1) := by decide +kernel
theorem dL_law_1260 : decode cL_law 1260 = .ok (.invokevirtual 129, 3) := by decide +kernel
theorem dL_law_1263 : decode cL_law 1263 = .ok (.if_icmp .eq 490, 3) := by decide +kernel
theorem dL_law_1266 : decode cL_law 1266 = .ok (.iconst 0, 1) := by decide +kernel
theorem dL_law_1267 : decode cL_law 1267 = .ok (.ireturn, 1) := by decide +kernel
theorem dL_law_1268 : decode cL_law 1268 = .ok (.aload_n 1, 1) := by decide +kernel
theorem dL_law_1269 : decode cL_law 1269 = .ok (.aload_n 0, 1) := by decide +kernel
theorem dL_law_1270 : decode cL_law 1270 = .ok (.iload_n 3, 1) := by decide +kernel
theorem dL_law_1271 : decode cL_law 1271 = .ok (.iconst 1, 1) := by decide +kernel
theorem dL_law_1272 : decode cL_law 1272 = .ok (.iadd, 1) := by decide +kernel
theorem dL_law_1273 : decode cL_law 1273 = .ok (.iaload, 1) := by decide +kernel
theorem dL_law_1274 : decode cL_law 1274 = .ok (.invokevirtual 130, 3) := by decide +kernel
theorem dL_law_1277 : decode cL_law 1277 = .ok (.aload_n 2, 1) := by decide +kernel
theorem dL_law_1278 : decode cL_law 1278 = .ok (.aload_n 0, 1) := by decide +kernel
theorem dL_law_1279 : decode cL_law 1279 = .ok (.iload_n 3, 1) := by decide +kernel
theorem dL_law_1280 : decode cL_law 1280 = .ok (.iconst 1, 1) := by decide +kernel
theorem dL_law_1281 : decode cL_law 1281 = .ok (.iadd, 1) := by decide +kernel
theorem dL_law_1282 : decode cL_law 1282 = .ok (.iaload, 1) := by decide +kernel
theorem dL_law_1283 : decode cL_law 1283 = .ok (.invokevirtual 133, 3) := by decide +kernel
theorem dL_law_1286 : decode cL_law 1286 = .ok (.if_icmp .eq 467, 3) := by decide +kernel
theorem dL_law_1289 : decode cL_law 1289 = .ok (.iconst 0, 1) := by decide +kernel
theorem dL_law_1290 : decode cL_law 1290 = .ok (.ireturn, 1) := by decide +kernel
theorem dL_law_1291 : decode cL_law 1291 = .ok (.aload_n 1, 1) := by decide +kernel
theorem dL_law_1292 : decode cL_law 1292 = .ok (.aload_n 0, 1) := by decide +kernel
theorem dL_law_1293 : decode cL_law 1293 = .ok (.iload_n 3, 1) := by decide +kernel
theorem dL_law_1294 : decode cL_law 1294 = .ok (.iconst 1, 1) := by decide +kernel
theorem dL_law_1295 : decode cL_law 1295 = .ok (.iadd, 1) := by decide +kernel
theorem dL_law_1296 : decode cL_law 1296 = .ok (.iaload, 1) := by decide +kernel
theorem dL_law_1297 : decode cL_law 1297 = .ok (.invokevirtual 134, 3) := by decide +kernel
theorem dL_law_1300 : decode cL_law 1300 = .ok (.aload_n 2, 1) := by decide +kernel
theorem dL_law_1301 : decode cL_law 1301 = .ok (.aload_n 0, 1) := by decide +kernel
theorem dL_law_1302 : decode cL_law 1302 = .ok (.iload_n 3, 1) := by decide +kernel
theorem dL_law_1303 : decode cL_law 1303 = .ok (.iconst 1, 1) := by decide +kernel
theorem dL_law_1304 : decode cL_law 1304 = .ok (.iadd, 1) := by decide +kernel
theorem dL_law_1305 : decode cL_law 1305 = .ok (.iaload, 1) := by decide +kernel
theorem dL_law_1306 : decode cL_law 1306 = .ok (.invokevirtual 137, 3) := by decide +kernel
theorem dL_law_1309 : decode cL_law 1309 = .ok (.if_icmp .eq 444, 3) := by decide +kernel
theorem dL_law_1312 : decode cL_law 1312 = .ok (.iconst 0, 1) := by decide +kernel
theorem dL_law_1313 : decode cL_law 1313 = .ok (.ireturn, 1) := by decide +kernel
theorem dL_law_1314 : decode cL_law 1314 = .ok (.aload_n 1, 1) := by decide +kernel
theorem dL_law_1315 : decode cL_law 1315 = .ok (.aload_n 0, 1) := by decide +kernel
theorem dL_law_1316 : decode cL_law 1316 = .ok (.iload_n 3, 1) := by decide +kernel
theorem dL_law_1317 : decode cL_law 1317 = .ok (.iconst 1, 1) := by decide +kernel
theorem dL_law_1318 : decode cL_law 1318 = .ok (.iadd, 1) := by decide +kernel
theorem dL_law_1319 : decode cL_law 1319 = .ok (.iaload, 1) := by decide +kernel
theorem dL_law_1320 : decode cL_law 1320 = .ok (.invokevirtual 138, 3) := by decide +kernel
theorem dL_law_1323 : decode cL_law 1323 = .ok (.aload_n 2, 1) := by decide +kernel
theorem dL_law_1324 : decode cL_law 1324 = .ok (.aload_n 0, 1) := by decide +kernel
theorem dL_law_1325 : decode cL_law 1325 = .ok (.iload_n 3, 1) := by decide +kernel
theorem dL_law_1326 : decode cL_law 1326 = .ok (.iconst 1, 1) := by decide +kernel
theorem dL_law_1327 : decode cL_law 1327 = .ok (.iadd, 1) := by decide +kernel
theorem dL_law_1328 : decode cL_law 1328 = .ok (.iaload, 1) := by decide +kernel
theorem dL_law_1329 : decode cL_law 1329 = .ok (.invokevirtual 141, 3) := by decide +kernel
theorem dL_law_1332 : decode cL_law 1332 = .ok (.if_icmp .eq 421, 3) := by decide +kernel
theorem dL_law_1335 : decode cL_law 1335 = .ok (.iconst 0, 1) := by decide +kernel
theorem dL_law_1336 : decode cL_law 1336 = .ok (.ireturn, 1) := by decide +kernel
theorem dL_law_1337 : decode cL_law 1337 = .ok (.aload_n 1, 1) := by decide +kernel
theorem dL_law_1338 : decode cL_law 1338 = .ok (.invokevirtual 142, 3) := by decide +kernel
theorem dL_law_1341 : decode cL_law 1341 = .ok (.aload_n 2, 1) := by decide +kernel
theorem dL_law_1342 : decode cL_law 1342 = .ok (.invokevirtual 146, 3) := by decide +kernel
theorem dL_law_1345 : decode cL_law 1345 = .ok (.if_icmp .eq 408, 3) := by decide +kernel
theorem dL_law_1348 : decode cL_law 1348 = .ok (.iconst 0, 1) := by decide +kernel
theorem dL_law_1349 : decode cL_law 1349 = .ok (.ireturn, 1) := by decide +kernel
theorem dL_law_1350 : decode cL_law 1350 = .ok (.aload_n 1, 1) := by decide +kernel
theorem dL_law_1351 : decode cL_law 1351 = .ok (.aload_n 0, 1) := by decide +kernel
theorem dL_law_1352 : decode cL_law 1352 = .ok (.iload_n 3, 1) := by decide +kernel
theorem dL_law_1353 : decode cL_law 1353 = .ok (.iconst 1, 1) := by decide +kernel
theorem dL_law_1354 : decode cL_law 1354 = .ok (.iadd, 1) := by decide +kernel
theorem dL_law_1355 : decode cL_law 1355 = .ok (.iaload, 1) := by decide +kernel
theorem dL_law_1356 : decode cL_law 1356 = .ok (.invokevirtual 147, 3) := by decide +kernel
theorem dL_law_1359 : decode cL_law 1359 = .ok (.aload_n 2, 1) := by decide +kernel
theorem dL_law_1360 : decode cL_law 1360 = .ok (.aload_n 0, 1) := by decide +kernel
theorem dL_law_1361 : decode cL_law 1361 = .ok (.iload_n 3, 1) := by decide +kernel
theorem dL_law_1362 : decode cL_law 1362 = .ok (.iconst 1, 1) := by decide +kernel
theorem dL_law_1363 : decode cL_law 1363 = .ok (.iadd, 1) := by decide +kernel
theorem dL_law_1364 : decode cL_law 1364 = .ok (.iaload, 1) := by decide +kernel
theorem dL_law_1365 : decode cL_law 1365 = .ok (.invokevirtual 150, 3) := by decide +kernel
theorem dL_law_1368 : decode cL_law 1368 = .ok (.if_icmp .eq 385, 3) := by decide +kernel
theorem dL_law_1371 : decode cL_law 1371 = .ok (.iconst 0, 1) := by decide +kernel
theorem dL_law_1372 : decode cL_law 1372 = .ok (.ireturn, 1) := by decide +kernel
theorem dL_law_1373 : decode cL_law 1373 = .ok (.aload_n 1, 1) := by decide +kernel
theorem dL_law_1374 : decode cL_law 1374 = .ok (.aload_n 0, 1) := by decide +kernel
theorem dL_law_1375 : decode cL_law 1375 = .ok (.iload_n 3, 1) := by decide +kernel
theorem dL_law_1376 : decode cL_law 1376 = .ok (.iconst 1, 1) := by decide +kernel
theorem dL_law_1377 : decode cL_law 1377 = .ok (.iadd, 1) := by decide +kernel
theorem dL_law_1378 : decode cL_law 1378 = .ok (.iaload, 1) := by decide +kernel
theorem dL_law_1379 : decode cL_law 1379 = .ok (.aload_n 0, 1) := by decide +kernel
theorem dL_law_1380 : decode cL_law 1380 = .ok (.iload_n 3, 1) := by decide +kernel
theorem dL_law_1381 : decode cL_law 1381 = .ok (.iconst 2, 1) := by decide +kernel
theorem dL_law_1382 : decode cL_law 1382 = .ok (.iadd, 1) := by decide +kernel
theorem dL_law_1383 : decode cL_law 1383 = .ok (.iaload, 1) := by decide +kernel
theorem dL_law_1384 : decode cL_law 1384 = .ok (.invokevirtual 151, 3) := by decide +kernel
theorem dL_law_1387 : decode cL_law 1387 = .ok (.aload_n 2, 1) := by decide +kernel
theorem dL_law_1388 : decode cL_law 1388 = .ok (.aload_n 0, 1) := by decide +kernel
theorem dL_law_1389 : decode cL_law 1389 = .ok (.iload_n 3, 1) := by decide +kernel
theorem dL_law_1390 : decode cL_law 1390 = .ok (.iconst 1, 1) := by decide +kernel
theorem dL_law_1391 : decode cL_law 1391 = .ok (.iadd, 1) := by decide +kernel
theorem dL_law_1392 : decode cL_law 1392 = .ok (.iaload, 1) := by decide +kernel
theorem dL_law_1393 : decode cL_law 1393 = .ok (.aload_n 0, 1) := by decide +kernel
theorem dL_law_1394 : decode cL_law 1394 = .ok (.iload_n 3, 1) := by decide +kernel
theorem dL_law_1395 : decode cL_law 1395 = .ok (.iconst 2, 1) := by decide +kernel
theorem dL_law_1396 : decode cL_law 1396 = .ok (.iadd, 1) := by decide +kernel
theorem dL_law_1397 : decode cL_law 1397 = .ok (.iaload, 1) := by decide +kernel
theorem dL_law_1398 : decode cL_law 1398 = .ok (.invokevirtual 154, 3) := by decide +kernel
theorem dL_law_1401 : decode cL_law 1401 = .ok (.if_icmp .eq 352, 3) := by decide +kernel
theorem dL_law_1404 : decode cL_law 1404 = .ok (.iconst 0, 1) := by decide +kernel
theorem dL_law_1405 : decode cL_law 1405 = .ok (.ireturn, 1) := by decide +kernel
theorem dL_law_1406 : decode cL_law 1406 = .ok (.aload_n 1, 1) := by decide +kernel
theorem dL_law_1407 : decode cL_law 1407 = .ok (.aload_n 0, 1) := by decide +kernel
theorem dL_law_1408 : decode cL_law 1408 = .ok (.iload_n 3, 1) := by decide +kernel
theorem dL_law_1409 : decode cL_law 1409 = .ok (.iconst 1, 1) := by decide +kernel
theorem dL_law_1410 : decode cL_law 1410 = .ok (.iadd, 1) := by decide +kernel
theorem dL_law_1411 : decode cL_law 1411 = .ok (.iaload, 1) := by decide +kernel
theorem dL_law_1412 : decode cL_law 1412 = .ok (.aload_n 0, 1) := by decide +kernel
theorem dL_law_1413 : decode cL_law 1413 = .ok (.iload_n 3, 1) := by decide +kernel
theorem dL_law_1414 : decode cL_law 1414 = .ok (.iconst 2, 1) := by decide +kernel
theorem dL_law_1415 : decode cL_law 1415 = .ok (.iadd, 1) := by decide +kernel
theorem dL_law_1416 : decode cL_law 1416 = .ok (.iaload, 1) := by decide +kernel
theorem dL_law_1417 : decode cL_law 1417 = .ok (.aload_n 0, 1) := by decide +kernel
theorem dL_law_1418 : decode cL_law 1418 = .ok (.iload_n 3, 1) := by decide +kernel
theorem dL_law_1419 : decode cL_law 1419 = .ok (.iconst 3, 1) := by decide +kernel
theorem dL_law_1420 : decode cL_law 1420 = .ok (.iadd, 1) := by decide +kernel
theorem dL_law_1421 : decode cL_law 1421 = .ok (.iaload, 1) := by decide +kernel
theorem dL_law_1422 : decode cL_law 1422 = .ok (.invokevirtual 155, 3) := by decide +kernel
theorem dL_law_1425 : decode cL_law 1425 = .ok (.aload_n 2, 1) := by decide +kernel
theorem dL_law_1426 : decode cL_law 1426 = .ok (.aload_n 0, 1) := by decide +kernel
theorem dL_law_1427 : decode cL_law 1427 = .ok (.iload_n 3, 1) := by decide +kernel
theorem dL_law_1428 : decode cL_law 1428 = .ok (.iconst 1, 1) := by decide +kernel
theorem dL_law_1429 : decode cL_law 1429 = .ok (.iadd, 1) := by decide +kernel
theorem dL_law_1430 : decode cL_law 1430 = .ok (.iaload, 1) := by decide +kernel
theorem dL_law_1431 : decode cL_law 1431 = .ok (.aload_n 0, 1) := by decide +kernel
theorem dL_law_1432 : decode cL_law 1432 = .ok (.iload_n 3, 1) := by decide +kernel
theorem dL_law_1433 : decode cL_law 1433 = .ok (.iconst 2, 1) := by decide +kernel
theorem dL_law_1434 : decode cL_law 1434 = .ok (.iadd, 1) := by decide +kernel
theorem dL_law_1435 : decode cL_law 1435 = .ok (.iaload, 1) := by decide +kernel
theorem dL_law_1436 : decode cL_law 1436 = .ok (.aload_n 0, 1) := by decide +kernel
theorem dL_law_1437 : decode cL_law 1437 = .ok (.iload_n 3, 1) := by decide +kernel
theorem dL_law_1438 : decode cL_law 1438 = .ok (.iconst 3, 1) := by decide +kernel
theorem dL_law_1439 : decode cL_law 1439 = .ok (.iadd, 1) := by decide +kernel
theorem dL_law_1440 : decode cL_law 1440 = .ok (.iaload, 1) := by decide +kernel
theorem dL_law_1441 : decode cL_law 1441 = .ok (.invokevirtual 158, 3) := by decide +kernel
theorem dL_law_1444 : decode cL_law 1444 = .ok (.if_icmp .eq 309, 3) := by decide +kernel
theorem dL_law_1447 : decode cL_law 1447 = .ok (.iconst 0, 1) := by decide +kernel
theorem dL_law_1448 : decode cL_law 1448 = .ok (.ireturn, 1) := by decide +kernel
theorem dL_law_1449 : decode cL_law 1449 = .ok (.aload_n 1, 1) := by decide +kernel
theorem dL_law_1450 : decode cL_law 1450 = .ok (.invokevirtual 159, 3) := by decide +kernel
theorem dL_law_1453 : decode cL_law 1453 = .ok (.aload_n 2, 1) := by decide +kernel
theorem dL_law_1454 : decode cL_law 1454 = .ok (.invokevirtual 162, 3) := by decide +kernel
theorem dL_law_1457 : decode cL_law 1457 = .ok (.if_icmp .eq 296, 3) := by decide +kernel
theorem dL_law_1460 : decode cL_law 1460 = .ok (.iconst 0, 1) := by decide +kernel
theorem dL_law_1461 : decode cL_law 1461 = .ok (.ireturn, 1) := by decide +kernel
theorem dL_law_1462 : decode cL_law 1462 = .ok (.aload_n 1, 1) := by decide +kernel
theorem dL_law_1463 : decode cL_law 1463 = .ok (.invokevirtual 163, 3) := by decide +kernel
theorem dL_law_1466 : decode cL_law 1466 = .ok (.aload_n 2, 1) := by decide +kernel
theorem dL_law_1467 : decode cL_law 1467 = .ok (.invokevirtual 166, 3) := by decide +kernel
theorem dL_law_1470 : decode cL_law 1470 = .ok (.if_icmp .eq 283, 3) := by decide +kernel
theorem dL_law_1473 : decode cL_law 1473 = .ok (.iconst 0, 1) := by decide +kernel
theorem dL_law_1474 : decode cL_law 1474 = .ok (.ireturn, 1) := by decide +kernel
theorem dL_law_1475 : decode cL_law 1475 = .ok (.aload_n 1, 1) := by decide +kernel
theorem dL_law_1476 : decode cL_law 1476 = .ok (.aload_n 0, 1) := by decide +kernel
theorem dL_law_1477 : decode cL_law 1477 = .ok (.iload_n 3, 1) := by decide +kernel
theorem dL_law_1478 : decode cL_law 1478 = .ok (.iconst 1, 1) := by decide +kernel
theorem dL_law_1479 : decode cL_law 1479 = .ok (.iadd, 1) := by decide +kernel
theorem dL_law_1480 : decode cL_law 1480 = .ok (.iaload, 1) := by decide +kernel
theorem dL_law_1481 : decode cL_law 1481 = .ok (.aload_n 0, 1) := by decide +kernel
theorem dL_law_1482 : decode cL_law 1482 = .ok (.iload_n 3, 1) := by decide +kernel
theorem dL_law_1483 : decode cL_law 1483 = .ok (.iconst 2, 1) := by decide +kernel
theorem dL_law_1484 : decode cL_law 1484 = .ok (.iadd, 1) := by decide +kernel
theorem dL_law_1485 : decode cL_law 1485 = .ok (.iaload, 1) := by decide +kernel
theorem dL_law_1486 : decode cL_law 1486 = .ok (.aload_n 0, 1) := by decide +kernel
theorem dL_law_1487 : decode cL_law 1487 = .ok (.iload_n 3, 1) := by decide +kernel
theorem dL_law_1488 : decode cL_law 1488 = .ok (.iconst 3, 1) := by decide +kernel
theorem dL_law_1489 : decode cL_law 1489 = .ok (.iadd, 1) := by decide +kernel
theorem dL_law_1490 : decode cL_law 1490 = .ok (.iaload, 1) := by decide +kernel
theorem dL_law_1491 : decode cL_law 1491 = .ok (.aload_n 0, 1) := by decide +kernel
theorem dL_law_1492 : decode cL_law 1492 = .ok (.iload_n 3, 1) := by decide +kernel
theorem dL_law_1493 : decode cL_law 1493 = .ok (.iconst 4, 1) := by decide +kernel
theorem dL_law_1494 : decode cL_law 1494 = .ok (.iadd, 1) := by decide +kernel
theorem dL_law_1495 : decode cL_law 1495 = .ok (.iaload, 1) := by decide +kernel
theorem dL_law_1496 : decode cL_law 1496 = .ok (.invokevirtual 167, 3) := by decide +kernel
theorem dL_law_1499 : decode cL_law 1499 = .ok (.aload_n 2, 1) := by decide +kernel
theorem dL_law_1500 : decode cL_law 1500 = .ok (.aload_n 0, 1) := by decide +kernel
theorem dL_law_1501 : decode cL_law 1501 = .ok (.iload_n 3, 1) := by decide +kernel
theorem dL_law_1502 : decode cL_law 1502 = .ok (.iconst 1, 1) := by decide +kernel
theorem dL_law_1503 : decode cL_law 1503 = .ok (.iadd, 1) := by decide +kernel
theorem dL_law_1504 : decode cL_law 1504 = .ok (.iaload, 1) := by decide +kernel
theorem dL_law_1505 : decode cL_law 1505 = .ok (.aload_n 0, 1) := by decide +kernel
theorem dL_law_1506 : decode cL_law 1506 = .ok (.iload_n 3, 1) := by decide +kernel
theorem dL_law_1507 : decode cL_law 1507 = .ok (.iconst 2, 1) := by decide +kernel
theorem dL_law_1508 : decode cL_law 1508 = .ok (.iadd, 1) := by decide +kernel
theorem dL_law_1509 : decode cL_law 1509 = .ok (.iaload, 1) := by decide +kernel
theorem dL_law_1510 : decode cL_law 1510 = .ok (.aload_n 0, 1) := by decide +kernel
theorem dL_law_1511 : decode cL_law 1511 = .ok (.iload_n 3, 1) := by decide +kernel
theorem dL_law_1512 : decode cL_law 1512 = .ok (.iconst 3, 1) := by decide +kernel
theorem dL_law_1513 : decode cL_law 1513 = .ok (.iadd, 1) := by decide +kernel
theorem dL_law_1514 : decode cL_law 1514 = .ok (.iaload, 1) := by decide +kernel
theorem dL_law_1515 : decode cL_law 1515 = .ok (.aload_n 0, 1) := by decide +kernel
theorem dL_law_1516 : decode cL_law 1516 = .ok (.iload_n 3, 1) := by decide +kernel
theorem dL_law_1517 : decode cL_law 1517 = .ok (.iconst 4, 1) := by decide +kernel
theorem dL_law_1518 : decode cL_law 1518 = .ok (.iadd, 1) := by decide +kernel
theorem dL_law_1519 : decode cL_law 1519 = .ok (.iaload, 1) := by decide +kernel
theorem dL_law_1520 : decode cL_law 1520 = .ok (.invokevirtual 170, 3) := by decide +kernel
theorem dL_law_1523 : decode cL_law 1523 = .ok (.if_icmp .eq 230, 3) := by decide +kernel
theorem dL_law_1526 : decode cL_law 1526 = .ok (.iconst 0, 1) := by decide +kernel
theorem dL_law_1527 : decode cL_law 1527 = .ok (.ireturn, 1) := by decide +kernel
theorem dL_law_1528 : decode cL_law 1528 = .ok (.aload_n 1, 1) := by decide +kernel
theorem dL_law_1529 : decode cL_law 1529 = .ok (.aload_n 0, 1) := by decide +kernel
theorem dL_law_1530 : decode cL_law 1530 = .ok (.iload_n 3, 1) := by decide +kernel
theorem dL_law_1531 : decode cL_law 1531 = .ok (.iconst 1, 1) := by decide +kernel
theorem dL_law_1532 : decode cL_law 1532 = .ok (.iadd, 1) := by decide +kernel
theorem dL_law_1533 : decode cL_law 1533 = .ok (.iaload, 1) := by decide +kernel
theorem dL_law_1534 : decode cL_law 1534 = .ok (.invokevirtual 171, 3) := by decide +kernel
theorem dL_law_1537 : decode cL_law 1537 = .ok (.aload_n 2, 1) := by decide +kernel
theorem dL_law_1538 : decode cL_law 1538 = .ok (.aload_n 0, 1) := by decide +kernel
theorem dL_law_1539 : decode cL_law 1539 = .ok (.iload_n 3, 1) := by decide +kernel
theorem dL_law_1540 : decode cL_law 1540 = .ok (.iconst 1, 1) := by decide +kernel
theorem dL_law_1541 : decode cL_law 1541 = .ok (.iadd, 1) := by decide +kernel
theorem dL_law_1542 : decode cL_law 1542 = .ok (.iaload, 1) := by decide +kernel
theorem dL_law_1543 : decode cL_law 1543 = .ok (.invokevirtual 174, 3) := by decide +kernel
theorem dL_law_1546 : decode cL_law 1546 = .ok (.if_icmp .eq 207, 3) := by decide +kernel
theorem dL_law_1549 : decode cL_law 1549 = .ok (.iconst 0, 1) := by decide +kernel
theorem dL_law_1550 : decode cL_law 1550 = .ok (.ireturn, 1) := by decide +kernel
theorem dL_law_1551 : decode cL_law 1551 = .ok (.aload_n 1, 1) := by decide +kernel
theorem dL_law_1552 : decode cL_law 1552 = .ok (.invokevirtual 175, 3) := by decide +kernel
theorem dL_law_1555 : decode cL_law 1555 = .ok (.aload_n 2, 1) := by decide +kernel
theorem dL_law_1556 : decode cL_law 1556 = .ok (.invokevirtual 179, 3) := by decide +kernel
theorem dL_law_1559 : decode cL_law 1559 = .ok (.lcmp, 1) := by decide +kernel
theorem dL_law_1560 : decode cL_law 1560 = .ok (.ifCond .eq 193, 3) := by decide +kernel
theorem dL_law_1563 : decode cL_law 1563 = .ok (.iconst 0, 1) := by decide +kernel
theorem dL_law_1564 : decode cL_law 1564 = .ok (.ireturn, 1) := by decide +kernel
theorem dL_law_1565 : decode cL_law 1565 = .ok (.aload_n 1, 1) := by decide +kernel
theorem dL_law_1566 : decode cL_law 1566 = .ok (.aload_n 0, 1) := by decide +kernel
theorem dL_law_1567 : decode cL_law 1567 = .ok (.iload_n 3, 1) := by decide +kernel
theorem dL_law_1568 : decode cL_law 1568 = .ok (.iconst 1, 1) := by decide +kernel
theorem dL_law_1569 : decode cL_law 1569 = .ok (.iadd, 1) := by decide +kernel
theorem dL_law_1570 : decode cL_law 1570 = .ok (.iaload, 1) := by decide +kernel
theorem dL_law_1571 : decode cL_law 1571 = .ok (.invokevirtual 180, 3) := by decide +kernel
theorem dL_law_1574 : decode cL_law 1574 = .ok (.aload_n 2, 1) := by decide +kernel
theorem dL_law_1575 : decode cL_law 1575 = .ok (.aload_n 0, 1) := by decide +kernel
theorem dL_law_1576 : decode cL_law 1576 = .ok (.iload_n 3, 1) := by decide +kernel
theorem dL_law_1577 : decode cL_law 1577 = .ok (.iconst 1, 1) := by decide +kernel
theorem dL_law_1578 : decode cL_law 1578 = .ok (.iadd, 1) := by decide +kernel
theorem dL_law_1579 : decode cL_law 1579 = .ok (.iaload, 1) := by decide +kernel
theorem dL_law_1580 : decode cL_law 1580 = .ok (.invokevirtual 183, 3) := by decide +kernel
theorem dL_law_1583 : decode cL_law 1583 = .ok (.if_icmp .eq 170, 3) := by decide +kernel
theorem dL_law_1586 : decode cL_law 1586 = .ok (.iconst 0, 1) := by decide +kernel
theorem dL_law_1587 : decode cL_law 1587 = .ok (.ireturn, 1) := by decide +kernel
theorem dL_law_1588 : decode cL_law 1588 = .ok (.aload_n 1, 1) := by decide +kernel
theorem dL_law_1589 : decode cL_law 1589 = .ok (.aload_n 0, 1) := by decide +kernel
theorem dL_law_1590 : decode cL_law 1590 = .ok (.iload_n 3, 1) := by decide +kernel
theorem dL_law_1591 : decode cL_law 1591 = .ok (.iconst 1, 1) := by decide +kernel
theorem dL_law_1592 : decode cL_law 1592 = .ok (.iadd, 1) := by decide +kernel
theorem dL_law_1593 : decode cL_law 1593 = .ok (.iaload, 1) := by decide +kernel
theorem dL_law_1594 : decode cL_law 1594 = .ok (.aload_n 0, 1) := by decide +kernel
theorem dL_law_1595 : decode cL_law 1595 = .ok (.iload_n 3, 1) := by decide +kernel
theorem dL_law_1596 : decode cL_law 1596 = .ok (.iconst 2, 1) := by decide +kernel
theorem dL_law_1597 : decode cL_law 1597 = .ok (.iadd, 1) := by decide +kernel
theorem dL_law_1598 : decode cL_law 1598 = .ok (.iaload, 1) := by decide +kernel
theorem dL_law_1599 : decode cL_law 1599 = .ok (.invokevirtual 184, 3) := by decide +kernel
theorem dL_law_1602 : decode cL_law 1602 = .ok (.aload_n 2, 1) := by decide +kernel
theorem dL_law_1603 : decode cL_law 1603 = .ok (.aload_n 0, 1) := by decide +kernel
theorem dL_law_1604 : decode cL_law 1604 = .ok (.iload_n 3, 1) := by decide +kernel
theorem dL_law_1605 : decode cL_law 1605 = .ok (.iconst 1, 1) := by decide +kernel
theorem dL_law_1606 : decode cL_law 1606 = .ok (.iadd, 1) := by decide +kernel
theorem dL_law_1607 : decode cL_law 1607 = .ok (.iaload, 1) := by decide +kernel
theorem dL_law_1608 : decode cL_law 1608 = .ok (.aload_n 0, 1) := by decide +kernel
theorem dL_law_1609 : decode cL_law 1609 = .ok (.iload_n 3, 1) := by decide +kernel
theorem dL_law_1610 : decode cL_law 1610 = .ok (.iconst 2, 1) := by decide +kernel
theorem dL_law_1611 : decode cL_law 1611 = .ok (.iadd, 1) := by decide +kernel
theorem dL_law_1612 : decode cL_law 1612 = .ok (.iaload, 1) := by decide +kernel
theorem dL_law_1613 : decode cL_law 1613 = .ok (.invokevirtual 187, 3) := by decide +kernel
theorem dL_law_1616 : decode cL_law 1616 = .ok (.if_icmp .eq 137, 3) := by decide +kernel
theorem dL_law_1619 : decode cL_law 1619 = .ok (.iconst 0, 1) := by decide +kernel
theorem dL_law_1620 : decode cL_law 1620 = .ok (.ireturn, 1) := by decide +kernel
theorem dL_law_1621 : decode cL_law 1621 = .ok (.aload_n 1, 1) := by decide +kernel
theorem dL_law_1622 : decode cL_law 1622 = .ok (.invokevirtual 188, 3) := by decide +kernel
theorem dL_law_1625 : decode cL_law 1625 = .ok (.aload_n 2, 1) := by decide +kernel
theorem dL_law_1626 : decode cL_law 1626 = .ok (.invokevirtual 191, 3) := by decide +kernel
theorem dL_law_1629 : decode cL_law 1629 = .ok (.if_icmp .eq 124, 3) := by decide +kernel
theorem dL_law_1632 : decode cL_law 1632 = .ok (.iconst 0, 1) := by decide +kernel
theorem dL_law_1633 : decode cL_law 1633 = .ok (.ireturn, 1) := by decide +kernel
theorem dL_law_1634 : decode cL_law 1634 = .ok (.aload_n 1, 1) := by decide +kernel
theorem dL_law_1635 : decode cL_law 1635 = .ok (.aload_n 0, 1) := by decide +kernel
theorem dL_law_1636 : decode cL_law 1636 = .ok (.iload_n 3, 1) := by decide +kernel
theorem dL_law_1637 : decode cL_law 1637 = .ok (.iconst 1, 1) := by decide +kernel
theorem dL_law_1638 : decode cL_law 1638 = .ok (.iadd, 1) := by decide +kernel
theorem dL_law_1639 : decode cL_law 1639 = .ok (.iaload, 1) := by decide +kernel
theorem dL_law_1640 : decode cL_law 1640 = .ok (.invokevirtual 192, 3) := by decide +kernel
theorem dL_law_1643 : decode cL_law 1643 = .ok (.aload_n 2, 1) := by decide +kernel
theorem dL_law_1644 : decode cL_law 1644 = .ok (.aload_n 0, 1) := by decide +kernel
theorem dL_law_1645 : decode cL_law 1645 = .ok (.iload_n 3, 1) := by decide +kernel
theorem dL_law_1646 : decode cL_law 1646 = .ok (.iconst 1, 1) := by decide +kernel
theorem dL_law_1647 : decode cL_law 1647 = .ok (.iadd, 1) := by decide +kernel
theorem dL_law_1648 : decode cL_law 1648 = .ok (.iaload, 1) := by decide +kernel
theorem dL_law_1649 : decode cL_law 1649 = .ok (.invokevirtual 195, 3) := by decide +kernel
theorem dL_law_1652 : decode cL_law 1652 = .ok (.if_icmp .eq 101, 3) := by decide +kernel
theorem dL_law_1655 : decode cL_law 1655 = .ok (.iconst 0, 1) := by decide +kernel
theorem dL_law_1656 : decode cL_law 1656 = .ok (.ireturn, 1) := by decide +kernel
theorem dL_law_1657 : decode cL_law 1657 = .ok (.aload_n 1, 1) := by decide +kernel
theorem dL_law_1658 : decode cL_law 1658 = .ok (.aload_n 0, 1) := by decide +kernel
theorem dL_law_1659 : decode cL_law 1659 = .ok (.iload_n 3, 1) := by decide +kernel
theorem dL_law_1660 : decode cL_law 1660 = .ok (.iconst 1, 1) := by decide +kernel
theorem dL_law_1661 : decode cL_law 1661 = .ok (.iadd, 1) := by decide +kernel
theorem dL_law_1662 : decode cL_law 1662 = .ok (.iaload, 1) := by decide +kernel
theorem dL_law_1663 : decode cL_law 1663 = .ok (.invokevirtual 196, 3) := by decide +kernel
theorem dL_law_1666 : decode cL_law 1666 = .ok (.aload_n 2, 1) := by decide +kernel
theorem dL_law_1667 : decode cL_law 1667 = .ok (.aload_n 0, 1) := by decide +kernel
theorem dL_law_1668 : decode cL_law 1668 = .ok (.iload_n 3, 1) := by decide +kernel
theorem dL_law_1669 : decode cL_law 1669 = .ok (.iconst 1, 1) := by decide +kernel
theorem dL_law_1670 : decode cL_law 1670 = .ok (.iadd, 1) := by decide +kernel
theorem dL_law_1671 : decode cL_law 1671 = .ok (.iaload, 1) := by decide +kernel
theorem dL_law_1672 : decode cL_law 1672 = .ok (.invokevirtual 199, 3) := by decide +kernel
theorem dL_law_1675 : decode cL_law 1675 = .ok (.if_icmp .eq 78, 3) := by decide +kernel
theorem dL_law_1678 : decode cL_law 1678 = .ok (.iconst 0, 1) := by decide +kernel
theorem dL_law_1679 : decode cL_law 1679 = .ok (.ireturn, 1) := by decide +kernel
theorem dL_law_1680 : decode cL_law 1680 = .ok (.aload_n 1, 1) := by decide +kernel
theorem dL_law_1681 : decode cL_law 1681 = .ok (.invokevirtual 200, 3) := by decide +kernel
theorem dL_law_1684 : decode cL_law 1684 = .ok (.aload_n 2, 1) := by decide +kernel
theorem dL_law_1685 : decode cL_law 1685 = .ok (.invokevirtual 203, 3) := by decide +kernel
theorem dL_law_1688 : decode cL_law 1688 = .ok (.if_icmp .eq 65, 3) := by decide +kernel
theorem dL_law_1691 : decode cL_law 1691 = .ok (.iconst 0, 1) := by decide +kernel
theorem dL_law_1692 : decode cL_law 1692 = .ok (.ireturn, 1) := by decide +kernel
theorem dL_law_1693 : decode cL_law 1693 = .ok (.aload_n 1, 1) := by decide +kernel
theorem dL_law_1694 : decode cL_law 1694 = .ok (.aload_n 0, 1) := by decide +kernel
theorem dL_law_1695 : decode cL_law 1695 = .ok (.iload_n 3, 1) := by decide +kernel
theorem dL_law_1696 : decode cL_law 1696 = .ok (.iconst 1, 1) := by decide +kernel
theorem dL_law_1697 : decode cL_law 1697 = .ok (.iadd, 1) := by decide +kernel
theorem dL_law_1698 : decode cL_law 1698 = .ok (.iaload, 1) := by decide +kernel
theorem dL_law_1699 : decode cL_law 1699 = .ok (.invokevirtual 204, 3) := by decide +kernel
theorem dL_law_1702 : decode cL_law 1702 = .ok (.aload_n 2, 1) := by decide +kernel
theorem dL_law_1703 : decode cL_law 1703 = .ok (.aload_n 0, 1) := by decide +kernel
theorem dL_law_1704 : decode cL_law 1704 = .ok (.iload_n 3, 1) := by decide +kernel
theorem dL_law_1705 : decode cL_law 1705 = .ok (.iconst 1, 1) := by decide +kernel
theorem dL_law_1706 : decode cL_law 1706 = .ok (.iadd, 1) := by decide +kernel
theorem dL_law_1707 : decode cL_law 1707 = .ok (.iaload, 1) := by decide +kernel
theorem dL_law_1708 : decode cL_law 1708 = .ok (.invokevirtual 208, 3) := by decide +kernel
theorem dL_law_1711 : decode cL_law 1711 = .ok (.lcmp, 1) := by decide +kernel
theorem dL_law_1712 : decode cL_law 1712 = .ok (.ifCond .eq 41, 3) := by decide +kernel
theorem dL_law_1715 : decode cL_law 1715 = .ok (.iconst 0, 1) := by decide +kernel
theorem dL_law_1716 : decode cL_law 1716 = .ok (.ireturn, 1) := by decide +kernel
theorem dL_law_1717 : decode cL_law 1717 = .ok (.aload_n 1, 1) := by decide +kernel
theorem dL_law_1718 : decode cL_law 1718 = .ok (.aload_n 0, 1) := by decide +kernel
theorem dL_law_1719 : decode cL_law 1719 = .ok (.iload_n 3, 1) := by decide +kernel
theorem dL_law_1720 : decode cL_law 1720 = .ok (.iconst 1, 1) := by decide +kernel
theorem dL_law_1721 : decode cL_law 1721 = .ok (.iadd, 1) := by decide +kernel
theorem dL_law_1722 : decode cL_law 1722 = .ok (.iaload, 1) := by decide +kernel
theorem dL_law_1723 : decode cL_law 1723 = .ok (.invokevirtual 209, 3) := by decide +kernel
theorem dL_law_1726 : decode cL_law 1726 = .ok (.aload_n 2, 1) := by decide +kernel
theorem dL_law_1727 : decode cL_law 1727 = .ok (.aload_n 0, 1) := by decide +kernel
theorem dL_law_1728 : decode cL_law 1728 = .ok (.iload_n 3, 1) := by decide +kernel
theorem dL_law_1729 : decode cL_law 1729 = .ok (.iconst 1, 1) := by decide +kernel
theorem dL_law_1730 : decode cL_law 1730 = .ok (.iadd, 1) := by decide +kernel
theorem dL_law_1731 : decode cL_law 1731 = .ok (.iaload, 1) := by decide +kernel
theorem dL_law_1732 : decode cL_law 1732 = .ok (.invokevirtual 212, 3) := by decide +kernel
theorem dL_law_1735 : decode cL_law 1735 = .ok (.if_icmp .eq 18, 3) := by decide +kernel
theorem dL_law_1738 : decode cL_law 1738 = .ok (.iconst 0, 1) := by decide +kernel
theorem dL_law_1739 : decode cL_law 1739 = .ok (.ireturn, 1) := by decide +kernel
theorem dL_law_1740 : decode cL_law 1740 = .ok (.aload_n 1, 1) := by decide +kernel
theorem dL_law_1741 : decode cL_law 1741 = .ok (.invokevirtual 213, 3) := by decide +kernel
theorem dL_law_1744 : decode cL_law 1744 = .ok (.aload_n 2, 1) := by decide +kernel
theorem dL_law_1745 : decode cL_law 1745 = .ok (.invokevirtual 216, 3) := by decide +kernel
theorem dL_law_1748 : decode cL_law 1748 = .ok (.if_icmp .eq 5, 3) := by decide +kernel
theorem dL_law_1751 : decode cL_law 1751 = .ok (.iconst 0, 1) := by decide +kernel
theorem dL_law_1752 : decode cL_law 1752 = .ok (.ireturn, 1) := by decide +kernel
theorem dL_law_1753 : decode cL_law 1753 = .ok (.iinc 3 6, 3) := by decide +kernel
theorem dL_law_1756 : decode cL_law 1756 = .ok (.goto (-1738), 3) := by decide +kernel
theorem dL_law_1759 : decode cL_law 1759 = .ok (.iconst 1, 1) := by decide +kernel
theorem dL_law_1760 : decode cL_law 1760 = .ok (.ireturn, 1) := by decide +kernel
def M_L_law : y_M := (x, code, 4, ret)
theorem cl_BoxYardLaw_7 : Cond.classLink "BoxYardLaw" 7 "BoxYard" ∈ y_tb := (c_1 17 (by decide +kernel) rfl)
theorem in_c11 : Cond.instantiable "BoxYard" 7 ∈ y_tb := (c_1 18 (by decide +kernel) rfl)
theorem ii_c11 : Cond.initialized "BoxYard" ∈ y_tb := (c_1 1 (by decide +kernel) rfl)
theorem ok_c11 : ∀ k, k < 7 → y_okt (t_f 11 k) = true := by decide
theorem l_BoxYardLaw_9 : y_lnk "BoxYardLaw" 9 M_X11_init := Or.inl (c_1 19 (by decide +kernel) rfl)
theorem i_X11_init : Cond.instanceMethod (M_X11_init).1 ∈ y_tb := (c_1 20 (by decide +kernel) rfl)
theorem cl_BoxYardLaw_10 : Cond.classLink "BoxYardLaw" 10 "BoxYardModel" ∈ y_tb := (c_7 110 (by decide +kernel) rfl)
theorem in_c12 : Cond.instantiable "BoxYardModel" 95 ∈ y_tb := (c_7 111 (by decide +kernel) rfl)
theorem ii_c12 : Cond.initialized "BoxYardModel" ∈ y_tb := (c_1 9 (by decide +kernel) rfl)
theorem ok_c12 : ∀ k, k < 95 → y_okt (t_f 12 k) = true := by decide
theorem l_BoxYardLaw_12 : y_lnk "BoxYardLaw" 12 M_X12_init := Or.inl (c_7 112 (by decide +kernel) rfl)
theorem i_X12_init : Cond.instanceMethod (M_X12_init).1 ∈ y_tb := (c_7 113 (by decide +kernel) rfl)
theorem l_BoxYardLaw_13 : y_lnk "BoxYardLaw" 13 M_X11_box := Or.inl (c_2 93 (by decide +kernel) rfl)
theorem i_X11_box : Cond.instanceMethod (M_X11_box).1 ∈ y_tb := (c_2 94 (by decide +kernel) rfl)
theorem e_X11_box : Cond.selects (M_X11_box).1.cls (M_X11_box).1 (M_X11_box).1 ∈ y_tb := (c_2 95 (by decide +kernel) rfl)
theorem l_BoxYardLaw_17 : y_lnk "BoxYardLaw" 17 M_X12_box := Or.inl (c_8 168 (by decide +kernel) rfl)
theorem i_X12_box : Cond.instanceMethod (M_X12_box).1 ∈ y_tb := (c_8 169 (by decide +kernel) rfl)
theorem e_X12_box : Cond.selects (M_X12_box).1.cls (M_X12_box).1 (M_X12_box).1 ∈ y_tb := (c_8 170 (by decide +kernel) rfl)
theorem l_BoxYardLaw_18 : y_lnk "BoxYardLaw" 18 M_X11_body := Or.inl (c_2 206 (by decide +kernel) rfl)
theorem i_X11_body : Cond.instanceMethod (M_X11_body).1 ∈ y_tb := (c_2 207 (by decide +kernel) rfl)
theorem e_X11_body : Cond.selects (M_X11_body).1.cls (M_X11_body).1 (M_X11_body).1 ∈ y_tb := (c_2 208 (by decide +kernel) rfl)
theorem l_BoxYardLaw_22 : y_lnk "BoxYardLaw" 22 M_X12_body := Or.inl (c_8 179 (by decide +kernel) rfl)
theorem i_X12_body : Cond.instanceMethod (M_X12_body).1 ∈ y_tb := (c_8 180 (by decide +kernel) rfl)
theorem e_X12_body : Cond.selects (M_X12_body).1.cls (M_X12_body).1 (M_X12_body).1 ∈ y_tb := (c_8 181 (by decide +kernel) rfl)
theorem l_BoxYardLaw_23 : y_lnk "BoxYardLaw" 23 M_X11_where := Or.inl (c_3 19 (by decide +kernel) rfl)
theorem i_X11_where : Cond.instanceMethod (M_X11_where).1 ∈ y_tb := (c_3 20 (by decide +kernel) rfl)
theorem e_X11_where : Cond.selects (M_X11_where).1.cls (M_X11_where).1 (M_X11_where).1 ∈ y_tb := (c_3 21 (by decide +kernel) rfl)
theorem l_BoxYardLaw_26 : y_lnk "BoxYardLaw" 26 M_X12_where := Or.inl (c_8 215 (by decide +kernel) rfl)
theorem i_X12_where : Cond.instanceMethod (M_X12_where).1 ∈ y_tb := (c_8 216 (by decide +kernel) rfl)
theorem e_X12_where : Cond.selects (M_X12_where).1.cls (M_X12_where).1 (M_X12_where).1 ∈ y_tb := (c_8 217 (by decide +kernel) rfl)
theorem l_BoxYardLaw_27 : y_lnk "BoxYardLaw" 27 M_X11_bay := Or.inl (c_3 31 (by decide +kernel) rfl)
theorem i_X11_bay : Cond.instanceMethod (M_X11_bay).1 ∈ y_tb := (c_3 32 (by decide +kernel) rfl)
theorem e_X11_bay : Cond.selects (M_X11_bay).1.cls (M_X11_bay).1 (M_X11_bay).1 ∈ y_tb := (c_3 33 (by decide +kernel) rfl)
theorem l_BoxYardLaw_31 : y_lnk "BoxYardLaw" 31 M_X12_bay := Or.inl (c_8 223 (by decide +kernel) rfl)
theorem i_X12_bay : Cond.instanceMethod (M_X12_bay).1 ∈ y_tb := (c_8 224 (by decide +kernel) rfl)
theorem e_X12_bay : Cond.selects (M_X12_bay).1.cls (M_X12_bay).1 (M_X12_bay).1 ∈ y_tb := (c_8 225 (by decide +kernel) rfl)
theorem l_BoxYardLaw_32 : y_lnk "BoxYardLaw" 32 M_X11_plugs := Or.inl (c_3 104 (by decide +kernel) rfl)
theorem i_X11_plugs : Cond.instanceMethod (M_X11_plugs).1 ∈ y_tb := (c_3 105 (by decide +kernel) rfl)
theorem e_X11_plugs : Cond.selects (M_X11_plugs).1.cls (M_X11_plugs).1 (M_X11_plugs).1 ∈ y_tb := (c_3 106 (by decide +kernel) rfl)
theorem l_BoxYardLaw_35 : y_lnk "BoxYardLaw" 35 M_X12_plugs := Or.inl (c_8 227 (by decide +kernel) rfl)
theorem i_X12_plugs : Cond.instanceMethod (M_X12_plugs).1 ∈ y_tb := (c_8 228 (by decide +kernel) rfl)
theorem e_X12_plugs : Cond.selects (M_X12_plugs).1.cls (M_X12_plugs).1 (M_X12_plugs).1 ∈ y_tb := (c_8 229 (by decide +kernel) rfl)
theorem l_BoxYardLaw_36 : y_lnk "BoxYardLaw" 36 M_X11_apart := Or.inl (c_3 112 (by decide +kernel) rfl)
theorem i_X11_apart : Cond.instanceMethod (M_X11_apart).1 ∈ y_tb := (c_3 113 (by decide +kernel) rfl)
theorem e_X11_apart : Cond.selects (M_X11_apart).1.cls (M_X11_apart).1 (M_X11_apart).1 ∈ y_tb := (c_3 114 (by decide +kernel) rfl)
theorem l_BoxYardLaw_39 : y_lnk "BoxYardLaw" 39 M_X12_apart := Or.inl (c_8 239 (by decide +kernel) rfl)
theorem i_X12_apart : Cond.instanceMethod (M_X12_apart).1 ∈ y_tb := (c_9 0 (by decide +kernel) rfl)
theorem e_X12_apart : Cond.selects (M_X12_apart).1.cls (M_X12_apart).1 (M_X12_apart).1 ∈ y_tb := (c_9 1 (by decide +kernel) rfl)
theorem l_BoxYardLaw_40 : y_lnk "BoxYardLaw" 40 M_X11_stack := Or.inl (c_3 124 (by decide +kernel) rfl)
theorem i_X11_stack : Cond.instanceMethod (M_X11_stack).1 ∈ y_tb := (c_3 125 (by decide +kernel) rfl)
theorem e_X11_stack : Cond.selects (M_X11_stack).1.cls (M_X11_stack).1 (M_X11_stack).1 ∈ y_tb := (c_3 126 (by decide +kernel) rfl)
theorem l_BoxYardLaw_43 : y_lnk "BoxYardLaw" 43 M_X12_stack := Or.inl (c_9 3 (by decide +kernel) rfl)
theorem i_X12_stack : Cond.instanceMethod (M_X12_stack).1 ∈ y_tb := (c_9 4 (by decide +kernel) rfl)
theorem e_X12_stack : Cond.selects (M_X12_stack).1.cls (M_X12_stack).1 (M_X12_stack).1 ∈ y_tb := (c_9 5 (by decide +kernel) rfl)
theorem l_BoxYardLaw_44 : y_lnk "BoxYardLaw" 44 M_X11_share := Or.inl (c_3 139 (by decide +kernel) rfl)
theorem i_X11_share : Cond.instanceMethod (M_X11_share).1 ∈ y_tb := (c_3 140 (by decide +kernel) rfl)
theorem e_X11_share : Cond.selects (M_X11_share).1.cls (M_X11_share).1 (M_X11_share).1 ∈ y_tb := (c_3 141 (by decide +kernel) rfl)
theorem l_BoxYardLaw_48 : y_lnk "BoxYardLaw" 48 M_X12_share := Or.inl (c_9 7 (by decide +kernel) rfl)
theorem i_X12_share : Cond.instanceMethod (M_X12_share).1 ∈ y_tb := (c_9 8 (by decide +kernel) rfl)
theorem e_X12_share : Cond.selects (M_X12_share).1.cls (M_X12_share).1 (M_X12_share).1 ∈ y_tb := (c_9 9 (by decide +kernel) rfl)
theorem l_BoxYardLaw_49 : y_lnk "BoxYardLaw" 49 M_X11_rail := Or.inl (c_3 152 (by decide +kernel) rfl)
theorem i_X11_rail : Cond.instanceMethod (M_X11_rail).1 ∈ y_tb := (c_3 153 (by decide +kernel) rfl)
theorem e_X11_rail : Cond.selects (M_X11_rail).1.cls (M_X11_rail).1 (M_X11_rail).1 ∈ y_tb := (c_3 154 (by decide +kernel) rfl)
theorem l_BoxYardLaw_52 : y_lnk "BoxYardLaw" 52 M_X12_rail := Or.inl (c_9 15 (by decide +kernel) rfl)
theorem i_X12_rail : Cond.instanceMethod (M_X12_rail).1 ∈ y_tb := (c_9 16 (by decide +kernel) rfl)
theorem e_X12_rail : Cond.selects (M_X12_rail).1.cls (M_X12_rail).1 (M_X12_rail).1 ∈ y_tb := (c_9 17 (by decide +kernel) rfl)
theorem l_BoxYardLaw_53 : y_lnk "BoxYardLaw" 53 M_X11_crane := Or.inl (c_3 164 (by decide +kernel) rfl)
theorem i_X11_crane : Cond.instanceMethod (M_X11_crane).1 ∈ y_tb := (c_3 165 (by decide +kernel) rfl)
theorem e_X11_crane : Cond.selects (M_X11_crane).1.cls (M_X11_crane).1 (M_X11_crane).1 ∈ y_tb := (c_3 166 (by decide +kernel) rfl)
theorem l_BoxYardLaw_56 : y_lnk "BoxYardLaw" 56 M_X12_crane := Or.inl (c_9 23 (by decide +kernel) rfl)
theorem i_X12_crane : Cond.instanceMethod (M_X12_crane).1 ∈ y_tb := (c_9 24 (by decide +kernel) rfl)
theorem e_X12_crane : Cond.selects (M_X12_crane).1.cls (M_X12_crane).1 (M_X12_crane).1 ∈ y_tb := (c_9 25 (by decide +kernel) rfl)
theorem l_BoxYardLaw_57 : y_lnk "BoxYardLaw" 57 M_X11_wind := Or.inl (c_3 230 (by decide +kernel) rfl)
theorem i_X11_wind : Cond.instanceMethod (M_X11_wind).1 ∈ y_tb := (c_3 231 (by decide +kernel) rfl)
theorem e_X11_wind : Cond.selects (M_X11_wind).1.cls (M_X11_wind).1 (M_X11_wind).1 ∈ y_tb := (c_3 232 (by decide +kernel) rfl)
theorem l_BoxYardLaw_60 : y_lnk "BoxYardLaw" 60 M_X12_wind := Or.inl (c_9 27 (by decide +kernel) rfl)
theorem i_X12_wind : Cond.instanceMethod (M_X12_wind).1 ∈ y_tb := (c_9 28 (by decide +kernel) rfl)
theorem e_X12_wind : Cond.selects (M_X12_wind).1.cls (M_X12_wind).1 (M_X12_wind).1 ∈ y_tb := (c_9 29 (by decide +kernel) rfl)
theorem l_BoxYardLaw_61 : y_lnk "BoxYardLaw" 61 M_X11_engine := Or.inl (c_3 234 (by decide +kernel) rfl)
theorem i_X11_engine : Cond.instanceMethod (M_X11_engine).1 ∈ y_tb := (c_3 235 (by decide +kernel) rfl)
theorem e_X11_engine : Cond.selects (M_X11_engine).1.cls (M_X11_engine).1 (M_X11_engine).1 ∈ y_tb := (c_3 236 (by decide +kernel) rfl)
theorem l_BoxYardLaw_64 : y_lnk "BoxYardLaw" 64 M_X12_engine := Or.inl (c_9 31 (by decide +kernel) rfl)
theorem i_X12_engine : Cond.instanceMethod (M_X12_engine).1 ∈ y_tb := (c_9 32 (by decide +kernel) rfl)
theorem e_X12_engine : Cond.selects (M_X12_engine).1.cls (M_X12_engine).1 (M_X12_engine).1 ∈ y_tb := (c_9 33 (by decide +kernel) rfl)
theorem l_BoxYardLaw_65 : y_lnk "BoxYardLaw" 65 M_X11_look := Or.inl (c_4 32 (by decide +kernel) rfl)
theorem i_X11_look : Cond.instanceMethod (M_X11_look).1 ∈ y_tb := (c_4 33 (by decide +kernel) rfl)
theorem e_X11_look : Cond.selects (M_X11_look).1.cls (M_X11_look).1 (M_X11_look).1 ∈ y_tb := (c_4 34 (by decide +kernel) rfl)
theorem l_BoxYardLaw_68 : y_lnk "BoxYardLaw" 68 M_X12_look := Or.inl (c_9 47 (by decide +kernel) rfl)
theorem i_X12_look : Cond.instanceMethod (M_X12_look).1 ∈ y_tb := (c_9 48 (by decide +kernel) rfl)
theorem e_X12_look : Cond.selects (M_X12_look).1.cls (M_X12_look).1 (M_X12_look).1 ∈ y_tb := (c_9 49 (by decide +kernel) rfl)
theorem l_BoxYardLaw_69 : y_lnk "BoxYardLaw" 69 M_X11_may := Or.inl (c_4 36 (by decide +kernel) rfl)
theorem i_X11_may : Cond.instanceMethod (M_X11_may).1 ∈ y_tb := (c_4 37 (by decide +kernel) rfl)
theorem e_X11_may : Cond.selects (M_X11_may).1.cls (M_X11_may).1 (M_X11_may).1 ∈ y_tb := (c_4 38 (by decide +kernel) rfl)
theorem l_BoxYardLaw_72 : y_lnk "BoxYardLaw" 72 M_X12_may := Or.inl (c_9 99 (by decide +kernel) rfl)
theorem i_X12_may : Cond.instanceMethod (M_X12_may).1 ∈ y_tb := (c_9 100 (by decide +kernel) rfl)
theorem e_X12_may : Cond.selects (M_X12_may).1.cls (M_X12_may).1 (M_X12_may).1 ∈ y_tb := (c_9 101 (by decide +kernel) rfl)
theorem l_BoxYardLaw_73 : y_lnk "BoxYardLaw" 73 M_X11_go := Or.inl (c_4 107 (by decide +kernel) rfl)
theorem i_X11_go : Cond.instanceMethod (M_X11_go).1 ∈ y_tb := (c_4 108 (by decide +kernel) rfl)
theorem e_X11_go : Cond.selects (M_X11_go).1.cls (M_X11_go).1 (M_X11_go).1 ∈ y_tb := (c_4 109 (by decide +kernel) rfl)
theorem l_BoxYardLaw_76 : y_lnk "BoxYardLaw" 76 M_X12_go := Or.inl (c_9 51 (by decide +kernel) rfl)
theorem i_X12_go : Cond.instanceMethod (M_X12_go).1 ∈ y_tb := (c_9 52 (by decide +kernel) rfl)
theorem e_X12_go : Cond.selects (M_X12_go).1.cls (M_X12_go).1 (M_X12_go).1 ∈ y_tb := (c_9 53 (by decide +kernel) rfl)
theorem l_BoxYardLaw_77 : y_lnk "BoxYardLaw" 77 M_X11_take := Or.inl (c_4 133 (by decide +kernel) rfl)
theorem i_X11_take : Cond.instanceMethod (M_X11_take).1 ∈ y_tb := (c_4 134 (by decide +kernel) rfl)
theorem e_X11_take : Cond.selects (M_X11_take).1.cls (M_X11_take).1 (M_X11_take).1 ∈ y_tb := (c_4 135 (by decide +kernel) rfl)
theorem l_BoxYardLaw_80 : y_lnk "BoxYardLaw" 80 M_X12_take := Or.inl (c_9 79 (by decide +kernel) rfl)
theorem i_X12_take : Cond.instanceMethod (M_X12_take).1 ∈ y_tb := (c_9 80 (by decide +kernel) rfl)
theorem e_X12_take : Cond.selects (M_X12_take).1.cls (M_X12_take).1 (M_X12_take).1 ∈ y_tb := (c_9 81 (by decide +kernel) rfl)
theorem l_BoxYardLaw_81 : y_lnk "BoxYardLaw" 81 M_X11_lift := Or.inl (c_4 178 (by decide +kernel) rfl)
theorem i_X11_lift : Cond.instanceMethod (M_X11_lift).1 ∈ y_tb := (c_4 179 (by decide +kernel) rfl)
theorem e_X11_lift : Cond.selects (M_X11_lift).1.cls (M_X11_lift).1 (M_X11_lift).1 ∈ y_tb := (c_4 180 (by decide +kernel) rfl)
theorem l_BoxYardLaw_84 : y_lnk "BoxYardLaw" 84 M_X12_lift := Or.inl (c_9 87 (by decide +kernel) rfl)
theorem i_X12_lift : Cond.instanceMethod (M_X12_lift).1 ∈ y_tb := (c_9 88 (by decide +kernel) rfl)
theorem e_X12_lift : Cond.selects (M_X12_lift).1.cls (M_X12_lift).1 (M_X12_lift).1 ∈ y_tb := (c_9 89 (by decide +kernel) rfl)
theorem l_BoxYardLaw_85 : y_lnk "BoxYardLaw" 85 M_X11_set := Or.inl (c_4 191 (by decide +kernel) rfl)
theorem i_X11_set : Cond.instanceMethod (M_X11_set).1 ∈ y_tb := (c_4 192 (by decide +kernel) rfl)
theorem e_X11_set : Cond.selects (M_X11_set).1.cls (M_X11_set).1 (M_X11_set).1 ∈ y_tb := (c_4 193 (by decide +kernel) rfl)
theorem l_BoxYardLaw_88 : y_lnk "BoxYardLaw" 88 M_X12_set := Or.inl (c_9 118 (by decide +kernel) rfl)
theorem i_X12_set : Cond.instanceMethod (M_X12_set).1 ∈ y_tb := (c_9 119 (by decide +kernel) rfl)
theorem e_X12_set : Cond.selects (M_X12_set).1.cls (M_X12_set).1 (M_X12_set).1 ∈ y_tb := (c_9 120 (by decide +kernel) rfl)
theorem l_BoxYardLaw_89 : y_lnk "BoxYardLaw" 89 M_X11_drop := Or.inl (c_4 196 (by decide +kernel) rfl)
theorem i_X11_drop : Cond.instanceMethod (M_X11_drop).1 ∈ y_tb := (c_4 197 (by decide +kernel) rfl)
theorem e_X11_drop : Cond.selects (M_X11_drop).1.cls (M_X11_drop).1 (M_X11_drop).1 ∈ y_tb := (c_4 198 (by decide +kernel) rfl)
theorem l_BoxYardLaw_92 : y_lnk "BoxYardLaw" 92 M_X12_drop := Or.inl (c_9 126 (by decide +kernel) rfl)
theorem i_X12_drop : Cond.instanceMethod (M_X12_drop).1 ∈ y_tb := (c_9 127 (by decide +kernel) rfl)
theorem e_X12_drop : Cond.selects (M_X12_drop).1.cls (M_X12_drop).1 (M_X12_drop).1 ∈ y_tb := (c_9 128 (by decide +kernel) rfl)
theorem l_BoxYardLaw_93 : y_lnk "BoxYardLaw" 93 M_X11_load := Or.inl (c_4 201 (by decide +kernel) rfl)
theorem i_X11_load : Cond.instanceMethod (M_X11_load).1 ∈ y_tb := (c_4 202 (by decide +kernel) rfl)
theorem e_X11_load : Cond.selects (M_X11_load).1.cls (M_X11_load).1 (M_X11_load).1 ∈ y_tb := (c_4 203 (by decide +kernel) rfl)
theorem l_BoxYardLaw_96 : y_lnk "BoxYardLaw" 96 M_X12_load := Or.inl (c_9 130 (by decide +kernel) rfl)
theorem i_X12_load : Cond.instanceMethod (M_X12_load).1 ∈ y_tb := (c_9 131 (by decide +kernel) rfl)
theorem e_X12_load : Cond.selects (M_X12_load).1.cls (M_X12_load).1 (M_X12_load).1 ∈ y_tb := (c_9 132 (by decide +kernel) rfl)
theorem l_BoxYardLaw_97 : y_lnk "BoxYardLaw" 97 M_X11_fetch := Or.inl (c_5 2 (by decide +kernel) rfl)
theorem i_X11_fetch : Cond.instanceMethod (M_X11_fetch).1 ∈ y_tb := (c_5 3 (by decide +kernel) rfl)
theorem e_X11_fetch : Cond.selects (M_X11_fetch).1.cls (M_X11_fetch).1 (M_X11_fetch).1 ∈ y_tb := (c_5 4 (by decide +kernel) rfl)
theorem l_BoxYardLaw_101 : y_lnk "BoxYardLaw" 101 M_X12_fetch := Or.inl (c_9 166 (by decide +kernel) rfl)
theorem i_X12_fetch : Cond.instanceMethod (M_X12_fetch).1 ∈ y_tb := (c_9 167 (by decide +kernel) rfl)
theorem e_X12_fetch : Cond.selects (M_X12_fetch).1.cls (M_X12_fetch).1 (M_X12_fetch).1 ∈ y_tb := (c_9 168 (by decide +kernel) rfl)
theorem l_BoxYardLaw_102 : y_lnk "BoxYardLaw" 102 M_X11_serve := Or.inl (c_5 24 (by decide +kernel) rfl)
theorem i_X11_serve : Cond.instanceMethod (M_X11_serve).1 ∈ y_tb := (c_5 25 (by decide +kernel) rfl)
theorem e_X11_serve : Cond.selects (M_X11_serve).1.cls (M_X11_serve).1 (M_X11_serve).1 ∈ y_tb := (c_5 26 (by decide +kernel) rfl)
theorem l_BoxYardLaw_105 : y_lnk "BoxYardLaw" 105 M_X12_serve := Or.inl (c_9 178 (by decide +kernel) rfl)
theorem i_X12_serve : Cond.instanceMethod (M_X12_serve).1 ∈ y_tb := (c_9 179 (by decide +kernel) rfl)
theorem e_X12_serve : Cond.selects (M_X12_serve).1.cls (M_X12_serve).1 (M_X12_serve).1 ∈ y_tb := (c_9 180 (by decide +kernel) rfl)
theorem l_BoxYardLaw_106 : y_lnk "BoxYardLaw" 106 M_X11_ship := Or.inl (c_5 28 (by decide +kernel) rfl)
theorem i_X11_ship : Cond.instanceMethod (M_X11_ship).1 ∈ y_tb := (c_5 29 (by decide +kernel) rfl)
theorem e_X11_ship : Cond.selects (M_X11_ship).1.cls (M_X11_ship).1 (M_X11_ship).1 ∈ y_tb := (c_5 30 (by decide +kernel) rfl)
theorem l_BoxYardLaw_109 : y_lnk "BoxYardLaw" 109 M_X12_ship := Or.inl (c_9 182 (by decide +kernel) rfl)
theorem i_X12_ship : Cond.instanceMethod (M_X12_ship).1 ∈ y_tb := (c_9 183 (by decide +kernel) rfl)
theorem e_X12_ship : Cond.selects (M_X12_ship).1.cls (M_X12_ship).1 (M_X12_ship).1 ∈ y_tb := (c_9 184 (by decide +kernel) rfl)
theorem l_BoxYardLaw_110 : y_lnk "BoxYardLaw" 110 M_X11_limit := Or.inl (c_5 104 (by decide +kernel) rfl)
theorem i_X11_limit : Cond.instanceMethod (M_X11_limit).1 ∈ y_tb := (c_5 105 (by decide +kernel) rfl)
theorem e_X11_limit : Cond.selects (M_X11_limit).1.cls (M_X11_limit).1 (M_X11_limit).1 ∈ y_tb := (c_5 106 (by decide +kernel) rfl)
theorem l_BoxYardLaw_113 : y_lnk "BoxYardLaw" 113 M_X12_limit := Or.inl (c_9 187 (by decide +kernel) rfl)
theorem i_X12_limit : Cond.instanceMethod (M_X12_limit).1 ∈ y_tb := (c_9 188 (by decide +kernel) rfl)
theorem e_X12_limit : Cond.selects (M_X12_limit).1.cls (M_X12_limit).1 (M_X12_limit).1 ∈ y_tb := (c_9 189 (by decide +kernel) rfl)
theorem l_BoxYardLaw_114 : y_lnk "BoxYardLaw" 114 M_X11_route := Or.inl (c_5 109 (by decide +kernel) rfl)
theorem i_X11_route : Cond.instanceMethod (M_X11_route).1 ∈ y_tb := (c_5 110 (by decide +kernel) rfl)
theorem e_X11_route : Cond.selects (M_X11_route).1.cls (M_X11_route).1 (M_X11_route).1 ∈ y_tb := (c_5 111 (by decide +kernel) rfl)
theorem l_BoxYardLaw_117 : y_lnk "BoxYardLaw" 117 M_X12_route := Or.inl (c_9 191 (by decide +kernel) rfl)
theorem i_X12_route : Cond.instanceMethod (M_X12_route).1 ∈ y_tb := (c_9 192 (by decide +kernel) rfl)
theorem e_X12_route : Cond.selects (M_X12_route).1.cls (M_X12_route).1 (M_X12_route).1 ∈ y_tb := (c_9 193 (by decide +kernel) rfl)
theorem l_BoxYardLaw_118 : y_lnk "BoxYardLaw" 118 M_X11_plan := Or.inl (c_5 118 (by decide +kernel) rfl)
theorem i_X11_plan : Cond.instanceMethod (M_X11_plan).1 ∈ y_tb := (c_5 119 (by decide +kernel) rfl)
theorem e_X11_plan : Cond.selects (M_X11_plan).1.cls (M_X11_plan).1 (M_X11_plan).1 ∈ y_tb := (c_5 120 (by decide +kernel) rfl)
theorem l_BoxYardLaw_121 : y_lnk "BoxYardLaw" 121 M_X12_plan := Or.inl (c_9 195 (by decide +kernel) rfl)
theorem i_X12_plan : Cond.instanceMethod (M_X12_plan).1 ∈ y_tb := (c_9 196 (by decide +kernel) rfl)
theorem e_X12_plan : Cond.selects (M_X12_plan).1.cls (M_X12_plan).1 (M_X12_plan).1 ∈ y_tb := (c_9 197 (by decide +kernel) rfl)
theorem l_BoxYardLaw_122 : y_lnk "BoxYardLaw" 122 M_X11_sum := Or.inl (c_5 130 (by decide +kernel) rfl)
theorem i_X11_sum : Cond.instanceMethod (M_X11_sum).1 ∈ y_tb := (c_5 131 (by decide +kernel) rfl)
theorem e_X11_sum : Cond.selects (M_X11_sum).1.cls (M_X11_sum).1 (M_X11_sum).1 ∈ y_tb := (c_5 132 (by decide +kernel) rfl)
theorem l_BoxYardLaw_125 : y_lnk "BoxYardLaw" 125 M_X12_sum := Or.inl (c_9 199 (by decide +kernel) rfl)
theorem i_X12_sum : Cond.instanceMethod (M_X12_sum).1 ∈ y_tb := (c_9 200 (by decide +kernel) rfl)
theorem e_X12_sum : Cond.selects (M_X12_sum).1.cls (M_X12_sum).1 (M_X12_sum).1 ∈ y_tb := (c_9 201 (by decide +kernel) rfl)
theorem l_BoxYardLaw_126 : y_lnk "BoxYardLaw" 126 M_X11_mean := Or.inl (c_5 141 (by decide +kernel) rfl)
theorem i_X11_mean : Cond.instanceMethod (M_X11_mean).1 ∈ y_tb := (c_5 142 (by decide +kernel) rfl)
theorem e_X11_mean : Cond.selects (M_X11_mean).1.cls (M_X11_mean).1 (M_X11_mean).1 ∈ y_tb := (c_5 143 (by decide +kernel) rfl)
theorem l_BoxYardLaw_129 : y_lnk "BoxYardLaw" 129 M_X12_mean := Or.inl (c_9 209 (by decide +kernel) rfl)
theorem i_X12_mean : Cond.instanceMethod (M_X12_mean).1 ∈ y_tb := (c_9 210 (by decide +kernel) rfl)
theorem e_X12_mean : Cond.selects (M_X12_mean).1.cls (M_X12_mean).1 (M_X12_mean).1 ∈ y_tb := (c_9 211 (by decide +kernel) rfl)
theorem l_BoxYardLaw_130 : y_lnk "BoxYardLaw" 130 M_X11_stable := Or.inl (c_5 145 (by decide +kernel) rfl)
theorem i_X11_stable : Cond.instanceMethod (M_X11_stable).1 ∈ y_tb := (c_5 146 (by decide +kernel) rfl)
theorem e_X11_stable : Cond.selects (M_X11_stable).1.cls (M_X11_stable).1 (M_X11_stable).1 ∈ y_tb := (c_5 147 (by decide +kernel) rfl)
theorem l_BoxYardLaw_133 : y_lnk "BoxYardLaw" 133 M_X12_stable := Or.inl (c_9 213 (by decide +kernel) rfl)
theorem i_X12_stable : Cond.instanceMethod (M_X12_stable).1 ∈ y_tb := (c_9 214 (by decide +kernel) rfl)
theorem e_X12_stable : Cond.selects (M_X12_stable).1.cls (M_X12_stable).1 (M_X12_stable).1 ∈ y_tb := (c_9 215 (by decide +kernel) rfl)
theorem l_BoxYardLaw_134 : y_lnk "BoxYardLaw" 134 M_X11_broke := Or.inl (c_5 161 (by decide +kernel) rfl)
theorem i_X11_broke : Cond.instanceMethod (M_X11_broke).1 ∈ y_tb := (c_5 162 (by decide +kernel) rfl)
theorem e_X11_broke : Cond.selects (M_X11_broke).1.cls (M_X11_broke).1 (M_X11_broke).1 ∈ y_tb := (c_5 163 (by decide +kernel) rfl)
theorem l_BoxYardLaw_137 : y_lnk "BoxYardLaw" 137 M_X12_broke := Or.inl (c_9 221 (by decide +kernel) rfl)
theorem i_X12_broke : Cond.instanceMethod (M_X12_broke).1 ∈ y_tb := (c_9 222 (by decide +kernel) rfl)
theorem e_X12_broke : Cond.selects (M_X12_broke).1.cls (M_X12_broke).1 (M_X12_broke).1 ∈ y_tb := (c_9 223 (by decide +kernel) rfl)
theorem l_BoxYardLaw_138 : y_lnk "BoxYardLaw" 138 M_X11_want := Or.inl (c_5 165 (by decide +kernel) rfl)
theorem i_X11_want : Cond.instanceMethod (M_X11_want).1 ∈ y_tb := (c_5 166 (by decide +kernel) rfl)
theorem e_X11_want : Cond.selects (M_X11_want).1.cls (M_X11_want).1 (M_X11_want).1 ∈ y_tb := (c_5 167 (by decide +kernel) rfl)
theorem l_BoxYardLaw_141 : y_lnk "BoxYardLaw" 141 M_X12_want := Or.inl (c_9 225 (by decide +kernel) rfl)
theorem i_X12_want : Cond.instanceMethod (M_X12_want).1 ∈ y_tb := (c_9 226 (by decide +kernel) rfl)
theorem e_X12_want : Cond.selects (M_X12_want).1.cls (M_X12_want).1 (M_X12_want).1 ∈ y_tb := (c_9 227 (by decide +kernel) rfl)
theorem l_BoxYardLaw_142 : y_lnk "BoxYardLaw" 142 M_X11_forget := Or.inl (c_5 177 (by decide +kernel) rfl)
theorem i_X11_forget : Cond.instanceMethod (M_X11_forget).1 ∈ y_tb := (c_5 178 (by decide +kernel) rfl)
theorem e_X11_forget : Cond.selects (M_X11_forget).1.cls (M_X11_forget).1 (M_X11_forget).1 ∈ y_tb := (c_5 179 (by decide +kernel) rfl)
theorem l_BoxYardLaw_146 : y_lnk "BoxYardLaw" 146 M_X12_forget := Or.inl (c_9 233 (by decide +kernel) rfl)
theorem i_X12_forget : Cond.instanceMethod (M_X12_forget).1 ∈ y_tb := (c_9 234 (by decide +kernel) rfl)
theorem e_X12_forget : Cond.selects (M_X12_forget).1.cls (M_X12_forget).1 (M_X12_forget).1 ∈ y_tb := (c_9 235 (by decide +kernel) rfl)
theorem l_BoxYardLaw_147 : y_lnk "BoxYardLaw" 147 M_X11_least := Or.inl (c_5 185 (by decide +kernel) rfl)
theorem i_X11_least : Cond.instanceMethod (M_X11_least).1 ∈ y_tb := (c_5 186 (by decide +kernel) rfl)
theorem e_X11_least : Cond.selects (M_X11_least).1.cls (M_X11_least).1 (M_X11_least).1 ∈ y_tb := (c_5 187 (by decide +kernel) rfl)
theorem l_BoxYardLaw_150 : y_lnk "BoxYardLaw" 150 M_X12_least := Or.inl (c_9 237 (by decide +kernel) rfl)
theorem i_X12_least : Cond.instanceMethod (M_X12_least).1 ∈ y_tb := (c_9 238 (by decide +kernel) rfl)
theorem e_X12_least : Cond.selects (M_X12_least).1.cls (M_X12_least).1 (M_X12_least).1 ∈ y_tb := (c_9 239 (by decide +kernel) rfl)
theorem l_BoxYardLaw_151 : y_lnk "BoxYardLaw" 151 M_X11_row := Or.inl (c_6 78 (by decide +kernel) rfl)
theorem i_X11_row : Cond.instanceMethod (M_X11_row).1 ∈ y_tb := (c_6 79 (by decide +kernel) rfl)
theorem e_X11_row : Cond.selects (M_X11_row).1.cls (M_X11_row).1 (M_X11_row).1 ∈ y_tb := (c_6 80 (by decide +kernel) rfl)
theorem l_BoxYardLaw_154 : y_lnk "BoxYardLaw" 154 M_X12_row := Or.inl (c_10 31 (by decide +kernel) rfl)
theorem i_X12_row : Cond.instanceMethod (M_X12_row).1 ∈ y_tb := (c_10 32 (by decide +kernel) rfl)
theorem e_X12_row : Cond.selects (M_X12_row).1.cls (M_X12_row).1 (M_X12_row).1 ∈ y_tb := (c_10 33 (by decide +kernel) rfl)
theorem l_BoxYardLaw_155 : y_lnk "BoxYardLaw" 155 M_X11_alter := Or.inl (c_6 82 (by decide +kernel) rfl)
theorem i_X11_alter : Cond.instanceMethod (M_X11_alter).1 ∈ y_tb := (c_6 83 (by decide +kernel) rfl)
theorem e_X11_alter : Cond.selects (M_X11_alter).1.cls (M_X11_alter).1 (M_X11_alter).1 ∈ y_tb := (c_6 84 (by decide +kernel) rfl)
theorem l_BoxYardLaw_158 : y_lnk "BoxYardLaw" 158 M_X12_alter := Or.inl (c_10 35 (by decide +kernel) rfl)
theorem i_X12_alter : Cond.instanceMethod (M_X12_alter).1 ∈ y_tb := (c_10 36 (by decide +kernel) rfl)
theorem e_X12_alter : Cond.selects (M_X12_alter).1.cls (M_X12_alter).1 (M_X12_alter).1 ∈ y_tb := (c_10 37 (by decide +kernel) rfl)
theorem l_BoxYardLaw_159 : y_lnk "BoxYardLaw" 159 M_X11_holds := Or.inl (c_6 86 (by decide +kernel) rfl)
theorem i_X11_holds : Cond.instanceMethod (M_X11_holds).1 ∈ y_tb := (c_6 87 (by decide +kernel) rfl)
theorem e_X11_holds : Cond.selects (M_X11_holds).1.cls (M_X11_holds).1 (M_X11_holds).1 ∈ y_tb := (c_6 88 (by decide +kernel) rfl)
theorem l_BoxYardLaw_162 : y_lnk "BoxYardLaw" 162 M_X12_holds := Or.inl (c_10 39 (by decide +kernel) rfl)
theorem i_X12_holds : Cond.instanceMethod (M_X12_holds).1 ∈ y_tb := (c_10 40 (by decide +kernel) rfl)
theorem e_X12_holds : Cond.selects (M_X12_holds).1.cls (M_X12_holds).1 (M_X12_holds).1 ∈ y_tb := (c_10 41 (by decide +kernel) rfl)
theorem l_BoxYardLaw_163 : y_lnk "BoxYardLaw" 163 M_X11_task := Or.inl (c_6 108 (by decide +kernel) rfl)
theorem i_X11_task : Cond.instanceMethod (M_X11_task).1 ∈ y_tb := (c_6 109 (by decide +kernel) rfl)
theorem e_X11_task : Cond.selects (M_X11_task).1.cls (M_X11_task).1 (M_X11_task).1 ∈ y_tb := (c_6 110 (by decide +kernel) rfl)
theorem l_BoxYardLaw_166 : y_lnk "BoxYardLaw" 166 M_X12_task := Or.inl (c_10 47 (by decide +kernel) rfl)
theorem i_X12_task : Cond.instanceMethod (M_X12_task).1 ∈ y_tb := (c_10 48 (by decide +kernel) rfl)
theorem e_X12_task : Cond.selects (M_X12_task).1.cls (M_X12_task).1 (M_X12_task).1 ∈ y_tb := (c_10 49 (by decide +kernel) rfl)
theorem l_BoxYardLaw_167 : y_lnk "BoxYardLaw" 167 M_X11_op := Or.inl (c_6 116 (by decide +kernel) rfl)
theorem i_X11_op : Cond.instanceMethod (M_X11_op).1 ∈ y_tb := (c_6 117 (by decide +kernel) rfl)
theorem e_X11_op : Cond.selects (M_X11_op).1.cls (M_X11_op).1 (M_X11_op).1 ∈ y_tb := (c_6 118 (by decide +kernel) rfl)
theorem l_BoxYardLaw_170 : y_lnk "BoxYardLaw" 170 M_X12_op := Or.inl (c_10 51 (by decide +kernel) rfl)
theorem i_X12_op : Cond.instanceMethod (M_X12_op).1 ∈ y_tb := (c_10 52 (by decide +kernel) rfl)
theorem e_X12_op : Cond.selects (M_X12_op).1.cls (M_X12_op).1 (M_X12_op).1 ∈ y_tb := (c_10 53 (by decide +kernel) rfl)
theorem l_BoxYardLaw_171 : y_lnk "BoxYardLaw" 171 M_X11_run := Or.inl (c_6 130 (by decide +kernel) rfl)
theorem i_X11_run : Cond.instanceMethod (M_X11_run).1 ∈ y_tb := (c_6 131 (by decide +kernel) rfl)
theorem e_X11_run : Cond.selects (M_X11_run).1.cls (M_X11_run).1 (M_X11_run).1 ∈ y_tb := (c_6 132 (by decide +kernel) rfl)
theorem l_BoxYardLaw_174 : y_lnk "BoxYardLaw" 174 M_X12_run := Or.inl (c_10 55 (by decide +kernel) rfl)
theorem i_X12_run : Cond.instanceMethod (M_X12_run).1 ∈ y_tb := (c_10 56 (by decide +kernel) rfl)
theorem e_X12_run : Cond.selects (M_X12_run).1.cls (M_X12_run).1 (M_X12_run).1 ∈ y_tb := (c_10 57 (by decide +kernel) rfl)
theorem l_BoxYardLaw_175 : y_lnk "BoxYardLaw" 175 M_X11_number := Or.inl (c_7 3 (by decide +kernel) rfl)
theorem i_X11_number : Cond.instanceMethod (M_X11_number).1 ∈ y_tb := (c_7 4 (by decide +kernel) rfl)
theorem e_X11_number : Cond.selects (M_X11_number).1.cls (M_X11_number).1 (M_X11_number).1 ∈ y_tb := (c_7 5 (by decide +kernel) rfl)
theorem l_BoxYardLaw_179 : y_lnk "BoxYardLaw" 179 M_X12_number := Or.inl (c_10 119 (by decide +kernel) rfl)
theorem i_X12_number : Cond.instanceMethod (M_X12_number).1 ∈ y_tb := (c_10 120 (by decide +kernel) rfl)
theorem e_X12_number : Cond.selects (M_X12_number).1.cls (M_X12_number).1 (M_X12_number).1 ∈ y_tb := (c_10 121 (by decide +kernel) rfl)
theorem l_BoxYardLaw_180 : y_lnk "BoxYardLaw" 180 M_X11_ran := Or.inl (c_7 7 (by decide +kernel) rfl)
theorem i_X11_ran : Cond.instanceMethod (M_X11_ran).1 ∈ y_tb := (c_7 8 (by decide +kernel) rfl)
theorem e_X11_ran : Cond.selects (M_X11_ran).1.cls (M_X11_ran).1 (M_X11_ran).1 ∈ y_tb := (c_7 9 (by decide +kernel) rfl)
theorem l_BoxYardLaw_183 : y_lnk "BoxYardLaw" 183 M_X12_ran := Or.inl (c_10 123 (by decide +kernel) rfl)
theorem i_X12_ran : Cond.instanceMethod (M_X12_ran).1 ∈ y_tb := (c_10 124 (by decide +kernel) rfl)
theorem e_X12_ran : Cond.selects (M_X12_ran).1.cls (M_X12_ran).1 (M_X12_ran).1 ∈ y_tb := (c_10 125 (by decide +kernel) rfl)
theorem l_BoxYardLaw_184 : y_lnk "BoxYardLaw" 184 M_X11_shelf := Or.inl (c_7 15 (by decide +kernel) rfl)
theorem i_X11_shelf : Cond.instanceMethod (M_X11_shelf).1 ∈ y_tb := (c_7 16 (by decide +kernel) rfl)
theorem e_X11_shelf : Cond.selects (M_X11_shelf).1.cls (M_X11_shelf).1 (M_X11_shelf).1 ∈ y_tb := (c_7 17 (by decide +kernel) rfl)
theorem l_BoxYardLaw_187 : y_lnk "BoxYardLaw" 187 M_X12_shelf := Or.inl (c_10 127 (by decide +kernel) rfl)
theorem i_X12_shelf : Cond.instanceMethod (M_X12_shelf).1 ∈ y_tb := (c_10 128 (by decide +kernel) rfl)
theorem e_X12_shelf : Cond.selects (M_X12_shelf).1.cls (M_X12_shelf).1 (M_X12_shelf).1 ∈ y_tb := (c_10 129 (by decide +kernel) rfl)
theorem l_BoxYardLaw_188 : y_lnk "BoxYardLaw" 188 M_X11_status := Or.inl (c_7 20 (by decide +kernel) rfl)
theorem i_X11_status : Cond.instanceMethod (M_X11_status).1 ∈ y_tb := (c_7 21 (by decide +kernel) rfl)
theorem e_X11_status : Cond.selects (M_X11_status).1.cls (M_X11_status).1 (M_X11_status).1 ∈ y_tb := (c_7 22 (by decide +kernel) rfl)
theorem l_BoxYardLaw_191 : y_lnk "BoxYardLaw" 191 M_X12_status := Or.inl (c_10 131 (by decide +kernel) rfl)
theorem i_X12_status : Cond.instanceMethod (M_X12_status).1 ∈ y_tb := (c_10 132 (by decide +kernel) rfl)
theorem e_X12_status : Cond.selects (M_X12_status).1.cls (M_X12_status).1 (M_X12_status).1 ∈ y_tb := (c_10 133 (by decide +kernel) rfl)
theorem l_BoxYardLaw_192 : y_lnk "BoxYardLaw" 192 M_X11_found := Or.inl (c_7 24 (by decide +kernel) rfl)
theorem i_X11_found : Cond.instanceMethod (M_X11_found).1 ∈ y_tb := (c_7 25 (by decide +kernel) rfl)
theorem e_X11_found : Cond.selects (M_X11_found).1.cls (M_X11_found).1 (M_X11_found).1 ∈ y_tb := (c_7 26 (by decide +kernel) rfl)
theorem l_BoxYardLaw_195 : y_lnk "BoxYardLaw" 195 M_X12_found := Or.inl (c_10 135 (by decide +kernel) rfl)
theorem i_X12_found : Cond.instanceMethod (M_X12_found).1 ∈ y_tb := (c_10 136 (by decide +kernel) rfl)
theorem e_X12_found : Cond.selects (M_X12_found).1.cls (M_X12_found).1 (M_X12_found).1 ∈ y_tb := (c_10 137 (by decide +kernel) rfl)
theorem l_BoxYardLaw_196 : y_lnk "BoxYardLaw" 196 M_X11_trace := Or.inl (c_7 28 (by decide +kernel) rfl)
theorem i_X11_trace : Cond.instanceMethod (M_X11_trace).1 ∈ y_tb := (c_7 29 (by decide +kernel) rfl)
theorem e_X11_trace : Cond.selects (M_X11_trace).1.cls (M_X11_trace).1 (M_X11_trace).1 ∈ y_tb := (c_7 30 (by decide +kernel) rfl)
theorem l_BoxYardLaw_199 : y_lnk "BoxYardLaw" 199 M_X12_trace := Or.inl (c_10 139 (by decide +kernel) rfl)
theorem i_X12_trace : Cond.instanceMethod (M_X12_trace).1 ∈ y_tb := (c_10 140 (by decide +kernel) rfl)
theorem e_X12_trace : Cond.selects (M_X12_trace).1.cls (M_X12_trace).1 (M_X12_trace).1 ∈ y_tb := (c_10 141 (by decide +kernel) rfl)
theorem l_BoxYardLaw_200 : y_lnk "BoxYardLaw" 200 M_X11_undo := Or.inl (c_7 37 (by decide +kernel) rfl)
theorem i_X11_undo : Cond.instanceMethod (M_X11_undo).1 ∈ y_tb := (c_7 38 (by decide +kernel) rfl)
theorem e_X11_undo : Cond.selects (M_X11_undo).1.cls (M_X11_undo).1 (M_X11_undo).1 ∈ y_tb := (c_7 39 (by decide +kernel) rfl)
theorem l_BoxYardLaw_203 : y_lnk "BoxYardLaw" 203 M_X12_undo := Or.inl (c_10 143 (by decide +kernel) rfl)
theorem i_X12_undo : Cond.instanceMethod (M_X12_undo).1 ∈ y_tb := (c_10 144 (by decide +kernel) rfl)
theorem e_X12_undo : Cond.selects (M_X12_undo).1.cls (M_X12_undo).1 (M_X12_undo).1 ∈ y_tb := (c_10 145 (by decide +kernel) rfl)
theorem l_BoxYardLaw_204 : y_lnk "BoxYardLaw" 204 M_X11_back := Or.inl (c_7 49 (by decide +kernel) rfl)
theorem i_X11_back : Cond.instanceMethod (M_X11_back).1 ∈ y_tb := (c_7 50 (by decide +kernel) rfl)
theorem e_X11_back : Cond.selects (M_X11_back).1.cls (M_X11_back).1 (M_X11_back).1 ∈ y_tb := (c_7 51 (by decide +kernel) rfl)
theorem l_BoxYardLaw_208 : y_lnk "BoxYardLaw" 208 M_X12_back := Or.inl (c_10 147 (by decide +kernel) rfl)
theorem i_X12_back : Cond.instanceMethod (M_X12_back).1 ∈ y_tb := (c_10 148 (by decide +kernel) rfl)
theorem e_X12_back : Cond.selects (M_X12_back).1.cls (M_X12_back).1 (M_X12_back).1 ∈ y_tb := (c_10 149 (by decide +kernel) rfl)
theorem l_BoxYardLaw_209 : y_lnk "BoxYardLaw" 209 M_X11_count := Or.inl (c_7 83 (by decide +kernel) rfl)
theorem i_X11_count : Cond.instanceMethod (M_X11_count).1 ∈ y_tb := (c_7 84 (by decide +kernel) rfl)
theorem e_X11_count : Cond.selects (M_X11_count).1.cls (M_X11_count).1 (M_X11_count).1 ∈ y_tb := (c_7 85 (by decide +kernel) rfl)
theorem l_BoxYardLaw_212 : y_lnk "BoxYardLaw" 212 M_X12_count := Or.inl (c_10 155 (by decide +kernel) rfl)
theorem i_X12_count : Cond.instanceMethod (M_X12_count).1 ∈ y_tb := (c_10 156 (by decide +kernel) rfl)
theorem e_X12_count : Cond.selects (M_X12_count).1.cls (M_X12_count).1 (M_X12_count).1 ∈ y_tb := (c_10 157 (by decide +kernel) rfl)
theorem l_BoxYardLaw_213 : y_lnk "BoxYardLaw" 213 M_X11_clear := Or.inl (c_7 93 (by decide +kernel) rfl)
theorem i_X11_clear : Cond.instanceMethod (M_X11_clear).1 ∈ y_tb := (c_7 94 (by decide +kernel) rfl)
theorem e_X11_clear : Cond.selects (M_X11_clear).1.cls (M_X11_clear).1 (M_X11_clear).1 ∈ y_tb := (c_7 95 (by decide +kernel) rfl)
theorem l_BoxYardLaw_216 : y_lnk "BoxYardLaw" 216 M_X12_clear := Or.inl (c_10 159 (by decide +kernel) rfl)
theorem i_X12_clear : Cond.instanceMethod (M_X12_clear).1 ∈ y_tb := (c_10 160 (by decide +kernel) rfl)
theorem e_X12_clear : Cond.selects (M_X12_clear).1.cls (M_X12_clear).1 (M_X12_clear).1 ∈ y_tb := (c_10 161 (by decide +kernel) rfl)
set_option maxRecDepth 100000 in
set_option maxRecDepth 100000 in
set_option maxHeartbeats 4000000 in
theorem k_L_law {l : Launch} {G : y_G} {z : Heap} {ad0 : Nat → Nat} {p0 cz sz : Nat} {h hz : y_H} {rz : Bool} (hf : f_L_law p0 0 0 h = some ((rz, cz, sz), hz)) : y_U l G z 2048 84000 600000 7302249 0 0 cz sz M_L_law ad0 h (some (.int (y_z rz))) hz 0 [(0, y_p p0)] [] h 0 0 := by
  unfold f_L_law at hf
  obtain ⟨g1, hf⟩ := y_g hf
  obtain ⟨h3, e2, hf⟩ := y_bdE hf
  refine y_Unew (n := 10) (pc2 := 3) rfl dL_law_0 cl_BoxYardLaw_7 in_c11 ii_c11 rfl (by decide) ok_c11 g1 e2 ?_
  refine y_lf (fun _ _ _ _ k => y_dup (pc2 := 4) rfl dL_law_3 (y_p_cat _) k) ?_
  obtain ⟨g683, hf⟩ := y_g hf
  obtain ⟨r6, h4, c5, hf⟩ := y_clE hf
  refine y_UcallI (As := []) (pc2 := 7) rfl dL_law_4 n_X11_init rfl rfl l_BoxYardLaw_9 i_X11_init g683 rfl rfl (by decide) (by simp [y_ci, y_cj, y_p_cat]) (k_X11_init c5) ?_
  refine y_lf (fun _ _ _ _ k => y_astore_n (lv' := [(1, y_p 10), (0, y_p p0)]) (pc2 := 8) rfl dL_law_7 (by decide) (by show y_st1 _ 1 _ = _; simp [y_st1, y_p_cat, y_ci, y_cj]) k) ?_
  obtain ⟨g7, hf⟩ := y_g hf
  obtain ⟨h9, e8, hf⟩ := y_bdE hf
  refine y_Unew (n := 11) (pc2 := 11) rfl dL_law_8 cl_BoxYardLaw_10 in_c12 ii_c12 rfl (by decide) ok_c12 g7 e8 ?_
  refine y_lf (fun _ _ _ _ k => y_dup (pc2 := 12) rfl dL_law_11 (y_p_cat _) k) ?_
  obtain ⟨g682, hf⟩ := y_g hf
  obtain ⟨r12, h10, c11, hf⟩ := y_clE hf
  refine y_UcallI (As := []) (pc2 := 15) rfl dL_law_12 n_X12_init rfl rfl l_BoxYardLaw_12 i_X12_init g682 rfl rfl (by decide) (by simp [y_ci, y_cj, y_p_cat]) (k_X12_init c11) ?_
  refine y_lf (fun _ _ _ _ k => y_astore_n (lv' := [(2, y_p 11), (1, y_p 10), (0, y_p p0)]) (pc2 := 16) rfl dL_law_15 (by decide) (by show y_st1 _ 2 _ = _; simp [y_st1, y_p_cat, y_ci, y_cj]) k) ?_
  refine y_lf (fun _ _ _ _ k => y_iconst (v := 0) (pc2 := 17) rfl dL_law_16 (by decide) k) ?_
  refine y_jlE hf (fun j => ∀ (v0_18 : Nat) (v1_18 : Nat) (v2_18 : Nat) (v3_18 : Int32) (c18 : Nat) (s18 : Nat) (h13 : y_H), j v0_18 v1_18 v2_18 v3_18 c18 s18 h13 = some ((rz, cz, sz), hz) → y_U l G z 2048 84000 600000 7302249 0 0 cz sz M_L_law ad0 h (some (.int (y_z rz))) hz 18 [(0, y_p v0_18), (1, y_p v1_18), (2, y_p v2_18), (3, .int v3_18)] [] h13 c18 s18) (fun _ _ _ _ _ _ _ hf => by cases hf) (fun j18 hj18 v0_18 v1_18 v2_18 v3_18 c18 s18 h13 hf => ?_) (fun j18 hj18 hf => ?_)
  · refine y_lf (fun _ _ _ _ k => y_iload_n (pc2 := 19) rfl dL_law_18 rfl k) ?_
    refine y_lf (fun _ _ _ _ k => y_aload_n (x := v0_18) (pc2 := 20) rfl dL_law_19 rfl k) ?_
    obtain ⟨g681, hf⟩ := y_g hf
    refine y_lf (fun _ _ _ _ k => y_alenR (pc2 := 21) rfl dL_law_20 g681 k) ?_
    refine y_lf (fun _ _ _ _ k => y_bipush (v := 6) (pc2 := 23) rfl dL_law_21 (by decide) k) ?_
    refine y_lf (fun _ _ _ _ k => y_isub (pc2 := 24) rfl dL_law_23 k) ?_
    refine y_lf2 (Classical.em _) (fun _ _ k1 k2 => y_icmp_gt (tgt := 1759) (pc2 := 27) rfl dL_law_24 (by decide) k1 k2) (fun c680 => ?_) (fun c680 => ?_)
    · replace hf := y_it c680 hf
      refine y_lf (fun _ _ _ _ k => y_iconst (v := 1) (pc2 := 1760) rfl dL_law_1759 (by decide) k) ?_
      exact y_zretU (x := true) hf dL_law_1760 rfl
    · replace hf := y_ie c680 hf
      refine y_lf (fun _ _ _ _ k => y_aload_n (x := v0_18) (pc2 := 28) rfl dL_law_27 rfl k) ?_
      refine y_lf (fun _ _ _ _ k => y_iload_n (pc2 := 29) rfl dL_law_28 rfl k) ?_
      obtain ⟨g679, hf⟩ := y_g hf
      refine y_lf (fun _ _ _ _ k => y_ialdR (pc2 := 30) rfl dL_law_29 g679.1 (y_ix_in g679.2) k) ?_
      refine y_lf (fun _ _ _ _ k => y_bipush (v := 63) (pc2 := 32) rfl dL_law_30 (by decide) k) ?_
      refine y_lf (fun _ _ _ _ k => y_iand (pc2 := 33) rfl dL_law_32 k) ?_
      refine y_jnE hf (fun j => ∀ (v0_1753 : Nat) (v1_1753 : Nat) (v2_1753 : Nat) (v3_1753 : Int32) (c1753 : Nat) (s1753 : Nat) (h14 : y_H), j v0_1753 v1_1753 v2_1753 v3_1753 c1753 s1753 h14 = some ((rz, cz, sz), hz) → y_U l G z 2048 84000 600000 7302249 0 0 cz sz M_L_law ad0 h (some (.int (y_z rz))) hz 1753 [(0, y_p v0_1753), (1, y_p v1_1753), (2, y_p v2_1753), (3, .int v3_1753)] [] h14 c1753 s1753) (fun v0_1753 v1_1753 v2_1753 v3_1753 c1753 s1753 h14 hf => ?_) (fun j1753 hj1753 hf => ?_)
      · refine y_lf (fun _ _ _ _ k => y_iinc (v := v3_1753 + 6) (lv' := [(3, .int (v3_1753 + 6)), (0, y_p v0_1753), (1, y_p v1_1753), (2, y_p v2_1753)]) (pc2 := 1756) rfl dL_law_1753 rfl rfl (by decide) (by simp [y_st1, y_p_cat, y_ci, y_cj]) k) ?_
        refine y_lf (fun _ _ _ _ k => y_goto (tgt := 18) dL_law_1756 (by decide) k) ?_
        exact y_lf (fun _ _ _ _ k => y_pk [1, 2, 3, 0] rfl k) (hj18 _ _ _ _ _ _ _ hf)
      · by_cases c15 : ((y_I h13 v0_18 (Int32.toNatClampNeg v3_18)) &&& 63) = 0
        · replace hf := y_it c15 hf
          refine y_lf (fun _ _ _ _ k => y_table (off := 211) (tgt := 244) dL_law_33 (by (rw [c15]) <;> decide) (by decide) k) ?_
          refine y_lf (fun _ _ _ _ k => y_aload_n (x := v1_18) (pc2 := 245) rfl dL_law_244 rfl k) ?_
          refine y_lf (fun _ _ _ _ k => y_aload_n (x := v0_18) (pc2 := 246) rfl dL_law_245 rfl k) ?_
          refine y_lf (fun _ _ _ _ k => y_iload_n (pc2 := 247) rfl dL_law_246 rfl k) ?_
          refine y_lf (fun _ _ _ _ k => y_iconst (v := 1) (pc2 := 248) rfl dL_law_247 (by decide) k) ?_
          refine y_lf (fun _ _ _ _ k => y_iadd (pc2 := 249) rfl dL_law_248 k) ?_
          obtain ⟨g34, hf⟩ := y_g hf
          refine y_lf (fun _ _ _ _ k => y_ialdR (pc2 := 250) rfl dL_law_249 g34.1 (y_ix_in g34.2) k) ?_
          refine y_lf (fun _ _ _ _ k => y_aload_n (x := v0_18) (pc2 := 251) rfl dL_law_250 rfl k) ?_
          refine y_lf (fun _ _ _ _ k => y_iload_n (pc2 := 252) rfl dL_law_251 rfl k) ?_
          refine y_lf (fun _ _ _ _ k => y_iconst (v := 2) (pc2 := 253) rfl dL_law_252 (by decide) k) ?_
          refine y_lf (fun _ _ _ _ k => y_iadd (pc2 := 254) rfl dL_law_253 k) ?_
          obtain ⟨g33, hf⟩ := y_g hf
          refine y_lf (fun _ _ _ _ k => y_ialdR (pc2 := 255) rfl dL_law_254 g33.1 (y_ix_in g33.2) k) ?_
          refine y_lf (fun _ _ _ _ k => y_aload_n (x := v0_18) (pc2 := 256) rfl dL_law_255 rfl k) ?_
          refine y_lf (fun _ _ _ _ k => y_iload_n (pc2 := 257) rfl dL_law_256 rfl k) ?_
          refine y_lf (fun _ _ _ _ k => y_iconst (v := 3) (pc2 := 258) rfl dL_law_257 (by decide) k) ?_
          refine y_lf (fun _ _ _ _ k => y_iadd (pc2 := 259) rfl dL_law_258 k) ?_
          obtain ⟨g32, hf⟩ := y_g hf
          refine y_lf (fun _ _ _ _ k => y_ialdR (pc2 := 260) rfl dL_law_259 g32.1 (y_ix_in g32.2) k) ?_
          refine y_lf (fun _ _ _ _ k => y_aload_n (x := v0_18) (pc2 := 261) rfl dL_law_260 rfl k) ?_
          refine y_lf (fun _ _ _ _ k => y_iload_n (pc2 := 262) rfl dL_law_261 rfl k) ?_
          refine y_lf (fun _ _ _ _ k => y_iconst (v := 4) (pc2 := 263) rfl dL_law_262 (by decide) k) ?_
          refine y_lf (fun _ _ _ _ k => y_iadd (pc2 := 264) rfl dL_law_263 k) ?_
          obtain ⟨g31, hf⟩ := y_g hf
          refine y_lf (fun _ _ _ _ k => y_ialdR (pc2 := 265) rfl dL_law_264 g31.1 (y_ix_in g31.2) k) ?_
          refine y_lf (fun _ _ _ _ k => y_aload_n (x := v0_18) (pc2 := 266) rfl dL_law_265 rfl k) ?_
          refine y_lf (fun _ _ _ _ k => y_iload_n (pc2 := 267) rfl dL_law_266 rfl k) ?_
          refine y_lf (fun _ _ _ _ k => y_iconst (v := 5) (pc2 := 268) rfl dL_law_267 (by decide) k) ?_
          refine y_lf (fun _ _ _ _ k => y_iadd (pc2 := 269) rfl dL_law_268 k) ?_
          obtain ⟨g30, hf⟩ := y_g hf
          refine y_lf (fun _ _ _ _ k => y_ialdR (pc2 := 270) rfl dL_law_269 g30.1 (y_ix_in g30.2) k) ?_
          obtain ⟨g29, hf⟩ := y_g hf
          obtain ⟨r16, h17, c18, hf⟩ := y_clE hf
          refine y_UcallV (As := [.int (y_I h13 v0_18 (Int32.toNatClampNeg (v3_18 + 1))), .int (y_I h13 v0_18 (Int32.toNatClampNeg (v3_18 + 2))), .int (y_I h13 v0_18 (Int32.toNatClampNeg (v3_18 + 3))), .int (y_I h13 v0_18 (Int32.toNatClampNeg (v3_18 + 4))), .int (y_I h13 v0_18 (Int32.toNatClampNeg (v3_18 + 5)))]) (pc2 := 273) rfl dL_law_270 n_X11_box l_BoxYardLaw_13 i_X11_box e_X11_box (ci := 11) rfl rfl (by decide) g29 rfl rfl (by decide) (by decide) (k_X11_box c18) ?_
          refine y_lf (fun _ _ _ _ k => y_aload_n (x := v2_18) (pc2 := 274) rfl dL_law_273 rfl k) ?_
          refine y_lf (fun _ _ _ _ k => y_aload_n (x := v0_18) (pc2 := 275) rfl dL_law_274 rfl k) ?_
          refine y_lf (fun _ _ _ _ k => y_iload_n (pc2 := 276) rfl dL_law_275 rfl k) ?_
          refine y_lf (fun _ _ _ _ k => y_iconst (v := 1) (pc2 := 277) rfl dL_law_276 (by decide) k) ?_
          refine y_lf (fun _ _ _ _ k => y_iadd (pc2 := 278) rfl dL_law_277 k) ?_
          obtain ⟨g28, hf⟩ := y_g hf
          refine y_lf (fun _ _ _ _ k => y_ialdR (pc2 := 279) rfl dL_law_278 g28.1 (y_ix_in g28.2) k) ?_
          refine y_lf (fun _ _ _ _ k => y_aload_n (x := v0_18) (pc2 := 280) rfl dL_law_279 rfl k) ?_
          refine y_lf (fun _ _ _ _ k => y_iload_n (pc2 := 281) rfl dL_law_280 rfl k) ?_
          refine y_lf (fun _ _ _ _ k => y_iconst (v := 2) (pc2 := 282) rfl dL_law_281 (by decide) k) ?_
          refine y_lf (fun _ _ _ _ k => y_iadd (pc2 := 283) rfl dL_law_282 k) ?_
          obtain ⟨g27, hf⟩ := y_g hf
          refine y_lf (fun _ _ _ _ k => y_ialdR (pc2 := 284) rfl dL_law_283 g27.1 (y_ix_in g27.2) k) ?_
          refine y_lf (fun _ _ _ _ k => y_aload_n (x := v0_18) (pc2 := 285) rfl dL_law_284 rfl k) ?_
          refine y_lf (fun _ _ _ _ k => y_iload_n (pc2 := 286) rfl dL_law_285 rfl k) ?_
          refine y_lf (fun _ _ _ _ k => y_iconst (v := 3) (pc2 := 287) rfl dL_law_286 (by decide) k) ?_
          refine y_lf (fun _ _ _ _ k => y_iadd (pc2 := 288) rfl dL_law_287 k) ?_
          obtain ⟨g26, hf⟩ := y_g hf
          refine y_lf (fun _ _ _ _ k => y_ialdR (pc2 := 289) rfl dL_law_288 g26.1 (y_ix_in g26.2) k) ?_
          refine y_lf (fun _ _ _ _ k => y_aload_n (x := v0_18) (pc2 := 290) rfl dL_law_289 rfl k) ?_
          refine y_lf (fun _ _ _ _ k => y_iload_n (pc2 := 291) rfl dL_law_290 rfl k) ?_
          refine y_lf (fun _ _ _ _ k => y_iconst (v := 4) (pc2 := 292) rfl dL_law_291 (by decide) k) ?_
          refine y_lf (fun _ _ _ _ k => y_iadd (pc2 := 293) rfl dL_law_292 k) ?_
          obtain ⟨g25, hf⟩ := y_g hf
          refine y_lf (fun _ _ _ _ k => y_ialdR (pc2 := 294) rfl dL_law_293 g25.1 (y_ix_in g25.2) k) ?_
          refine y_lf (fun _ _ _ _ k => y_aload_n (x := v0_18) (pc2 := 295) rfl dL_law_294 rfl k) ?_
          refine y_lf (fun _ _ _ _ k => y_iload_n (pc2 := 296) rfl dL_law_295 rfl k) ?_
          refine y_lf (fun _ _ _ _ k => y_iconst (v := 5) (pc2 := 297) rfl dL_law_296 (by decide) k) ?_
          refine y_lf (fun _ _ _ _ k => y_iadd (pc2 := 298) rfl dL_law_297 k) ?_
          obtain ⟨g24, hf⟩ := y_g hf
          refine y_lf (fun _ _ _ _ k => y_ialdR (pc2 := 299) rfl dL_law_298 g24.1 (y_ix_in g24.2) k) ?_
          obtain ⟨g23, hf⟩ := y_g hf
          obtain ⟨r19, h20, c21, hf⟩ := y_clE hf
          refine y_UcV0 (As := [.int (y_I h17 v0_18 (Int32.toNatClampNeg (v3_18 + 1))), .int (y_I h17 v0_18 (Int32.toNatClampNeg (v3_18 + 2))), .int (y_I h17 v0_18 (Int32.toNatClampNeg (v3_18 + 3))), .int (y_I h17 v0_18 (Int32.toNatClampNeg (v3_18 + 4))), .int (y_I h17 v0_18 (Int32.toNatClampNeg (v3_18 + 5)))]) (rm := rm_X12_box) (pc2 := 302) rfl dL_law_299 n_X12_box l_BoxYardLaw_17 i_X12_box e_X12_box (ci := 12) rfl rfl (by decide) g23 rfl rfl (by decide) (by simp [y_ci, y_cj, y_p_cat]) rfl rfl (k_X12_box c21) ?_
          refine y_lf2 (Classical.em _) (fun _ _ k1 k2 => y_icmp_eq (tgt := 1753) (pc2 := 305) rfl dL_law_302 (by decide) k1 k2) (fun c22 => ?_) (fun c22 => ?_)
          · replace hf := y_it c22 hf
            exact y_lf (fun _ _ _ _ k => y_pk [0, 1, 2, 3] rfl k) (hj1753 _ _ _ _ _ _ _ hf)
          · replace hf := y_ie c22 hf
            refine y_lf (fun _ _ _ _ k => y_iconst (v := 0) (pc2 := 306) rfl dL_law_305 (by decide) k) ?_
            exact y_zretU (x := false) hf dL_law_306 rfl
        · replace hf := y_ie c15 hf
          by_cases c35 : ((y_I h13 v0_18 (Int32.toNatClampNeg v3_18)) &&& 63) = 1
          · replace hf := y_it c35 hf
            refine y_lf (fun _ _ _ _ k => y_table (off := 274) (tgt := 307) dL_law_33 (by (rw [c35]) <;> decide) (by decide) k) ?_
            refine y_lf (fun _ _ _ _ k => y_aload_n (x := v1_18) (pc2 := 308) rfl dL_law_307 rfl k) ?_
            refine y_lf (fun _ _ _ _ k => y_aload_n (x := v0_18) (pc2 := 309) rfl dL_law_308 rfl k) ?_
            refine y_lf (fun _ _ _ _ k => y_iload_n (pc2 := 310) rfl dL_law_309 rfl k) ?_
            refine y_lf (fun _ _ _ _ k => y_iconst (v := 1) (pc2 := 311) rfl dL_law_310 (by decide) k) ?_
            refine y_lf (fun _ _ _ _ k => y_iadd (pc2 := 312) rfl dL_law_311 k) ?_
            obtain ⟨g48, hf⟩ := y_g hf
            refine y_lf (fun _ _ _ _ k => y_ialdR (pc2 := 313) rfl dL_law_312 g48.1 (y_ix_in g48.2) k) ?_
            refine y_lf (fun _ _ _ _ k => y_aload_n (x := v0_18) (pc2 := 314) rfl dL_law_313 rfl k) ?_
            refine y_lf (fun _ _ _ _ k => y_iload_n (pc2 := 315) rfl dL_law_314 rfl k) ?_
            refine y_lf (fun _ _ _ _ k => y_iconst (v := 2) (pc2 := 316) rfl dL_law_315 (by decide) k) ?_
            refine y_lf (fun _ _ _ _ k => y_iadd (pc2 := 317) rfl dL_law_316 k) ?_
            obtain ⟨g47, hf⟩ := y_g hf
            refine y_lf (fun _ _ _ _ k => y_ialdR (pc2 := 318) rfl dL_law_317 g47.1 (y_ix_in g47.2) k) ?_
            obtain ⟨g46, hf⟩ := y_g hf
            obtain ⟨r36, h37, c38, hf⟩ := y_clE hf
            refine y_UcV0 (As := [.int (y_I h13 v0_18 (Int32.toNatClampNeg (v3_18 + 1))), .int (y_I h13 v0_18 (Int32.toNatClampNeg (v3_18 + 2)))]) (rm := rm_X11_body) (pc2 := 321) rfl dL_law_318 n_X11_body l_BoxYardLaw_18 i_X11_body e_X11_body (ci := 11) rfl rfl (by decide) g46 rfl rfl (by decide) (by decide) rfl rfl (k_X11_body c38) ?_
            refine y_lf (fun _ _ _ _ k => y_aload_n (x := v2_18) (pc2 := 322) rfl dL_law_321 rfl k) ?_
            refine y_lf (fun _ _ _ _ k => y_aload_n (x := v0_18) (pc2 := 323) rfl dL_law_322 rfl k) ?_
            refine y_lf (fun _ _ _ _ k => y_iload_n (pc2 := 324) rfl dL_law_323 rfl k) ?_
            refine y_lf (fun _ _ _ _ k => y_iconst (v := 1) (pc2 := 325) rfl dL_law_324 (by decide) k) ?_
            refine y_lf (fun _ _ _ _ k => y_iadd (pc2 := 326) rfl dL_law_325 k) ?_
            obtain ⟨g45, hf⟩ := y_g hf
            refine y_lf (fun _ _ _ _ k => y_ialdR (pc2 := 327) rfl dL_law_326 g45.1 (y_ix_in g45.2) k) ?_
            refine y_lf (fun _ _ _ _ k => y_aload_n (x := v0_18) (pc2 := 328) rfl dL_law_327 rfl k) ?_
            refine y_lf (fun _ _ _ _ k => y_iload_n (pc2 := 329) rfl dL_law_328 rfl k) ?_
            refine y_lf (fun _ _ _ _ k => y_iconst (v := 2) (pc2 := 330) rfl dL_law_329 (by decide) k) ?_
            refine y_lf (fun _ _ _ _ k => y_iadd (pc2 := 331) rfl dL_law_330 k) ?_
            obtain ⟨g44, hf⟩ := y_g hf
            refine y_lf (fun _ _ _ _ k => y_ialdR (pc2 := 332) rfl dL_law_331 g44.1 (y_ix_in g44.2) k) ?_
            obtain ⟨g43, hf⟩ := y_g hf
            obtain ⟨r39, h40, c41, hf⟩ := y_clE hf
            refine y_UcV0 (As := [.int (y_I h37 v0_18 (Int32.toNatClampNeg (v3_18 + 1))), .int (y_I h37 v0_18 (Int32.toNatClampNeg (v3_18 + 2)))]) (rm := rm_X12_body) (pc2 := 335) rfl dL_law_332 n_X12_body l_BoxYardLaw_22 i_X12_body e_X12_body (ci := 12) rfl rfl (by decide) g43 rfl rfl (by decide) (by simp [y_ci, y_cj, y_p_cat]) rfl rfl (k_X12_body c41) ?_
            refine y_lf2 (Classical.em _) (fun _ _ k1 k2 => y_icmp_eq (tgt := 1753) (pc2 := 338) rfl dL_law_335 (by decide) k1 k2) (fun c42 => ?_) (fun c42 => ?_)
            · replace hf := y_it c42 hf
              exact y_lf (fun _ _ _ _ k => y_pk [0, 1, 2, 3] rfl k) (hj1753 _ _ _ _ _ _ _ hf)
            · replace hf := y_ie c42 hf
              refine y_lf (fun _ _ _ _ k => y_iconst (v := 0) (pc2 := 339) rfl dL_law_338 (by decide) k) ?_
              exact y_zretU (x := false) hf dL_law_339 rfl
          · replace hf := y_ie c35 hf
            by_cases c49 : ((y_I h13 v0_18 (Int32.toNatClampNeg v3_18)) &&& 63) = 2
            · replace hf := y_it c49 hf
              refine y_lf (fun _ _ _ _ k => y_table (off := 307) (tgt := 340) dL_law_33 (by (rw [c49]) <;> decide) (by decide) k) ?_
              refine y_lf (fun _ _ _ _ k => y_aload_n (x := v1_18) (pc2 := 341) rfl dL_law_340 rfl k) ?_
              refine y_lf (fun _ _ _ _ k => y_aload_n (x := v0_18) (pc2 := 342) rfl dL_law_341 rfl k) ?_
              refine y_lf (fun _ _ _ _ k => y_iload_n (pc2 := 343) rfl dL_law_342 rfl k) ?_
              refine y_lf (fun _ _ _ _ k => y_iconst (v := 1) (pc2 := 344) rfl dL_law_343 (by decide) k) ?_
              refine y_lf (fun _ _ _ _ k => y_iadd (pc2 := 345) rfl dL_law_344 k) ?_
              obtain ⟨g62, hf⟩ := y_g hf
              refine y_lf (fun _ _ _ _ k => y_ialdR (pc2 := 346) rfl dL_law_345 g62.1 (y_ix_in g62.2) k) ?_
              refine y_lf (fun _ _ _ _ k => y_aload_n (x := v0_18) (pc2 := 347) rfl dL_law_346 rfl k) ?_
              refine y_lf (fun _ _ _ _ k => y_iload_n (pc2 := 348) rfl dL_law_347 rfl k) ?_
              refine y_lf (fun _ _ _ _ k => y_iconst (v := 2) (pc2 := 349) rfl dL_law_348 (by decide) k) ?_
              refine y_lf (fun _ _ _ _ k => y_iadd (pc2 := 350) rfl dL_law_349 k) ?_
              obtain ⟨g61, hf⟩ := y_g hf
              refine y_lf (fun _ _ _ _ k => y_ialdR (pc2 := 351) rfl dL_law_350 g61.1 (y_ix_in g61.2) k) ?_
              obtain ⟨g60, hf⟩ := y_g hf
              obtain ⟨r50, h51, c52, hf⟩ := y_clE hf
              refine y_UcV0 (As := [.int (y_I h13 v0_18 (Int32.toNatClampNeg (v3_18 + 1))), .int (y_I h13 v0_18 (Int32.toNatClampNeg (v3_18 + 2)))]) (rm := rm_X11_where) (pc2 := 354) rfl dL_law_351 n_X11_where l_BoxYardLaw_23 i_X11_where e_X11_where (ci := 11) rfl rfl (by decide) g60 rfl rfl (by decide) (by decide) rfl rfl (k_X11_where c52) ?_
              refine y_lf (fun _ _ _ _ k => y_aload_n (x := v2_18) (pc2 := 355) rfl dL_law_354 rfl k) ?_
              refine y_lf (fun _ _ _ _ k => y_aload_n (x := v0_18) (pc2 := 356) rfl dL_law_355 rfl k) ?_
              refine y_lf (fun _ _ _ _ k => y_iload_n (pc2 := 357) rfl dL_law_356 rfl k) ?_
              refine y_lf (fun _ _ _ _ k => y_iconst (v := 1) (pc2 := 358) rfl dL_law_357 (by decide) k) ?_
              refine y_lf (fun _ _ _ _ k => y_iadd (pc2 := 359) rfl dL_law_358 k) ?_
              obtain ⟨g59, hf⟩ := y_g hf
              refine y_lf (fun _ _ _ _ k => y_ialdR (pc2 := 360) rfl dL_law_359 g59.1 (y_ix_in g59.2) k) ?_
              refine y_lf (fun _ _ _ _ k => y_aload_n (x := v0_18) (pc2 := 361) rfl dL_law_360 rfl k) ?_
              refine y_lf (fun _ _ _ _ k => y_iload_n (pc2 := 362) rfl dL_law_361 rfl k) ?_
              refine y_lf (fun _ _ _ _ k => y_iconst (v := 2) (pc2 := 363) rfl dL_law_362 (by decide) k) ?_
              refine y_lf (fun _ _ _ _ k => y_iadd (pc2 := 364) rfl dL_law_363 k) ?_
              obtain ⟨g58, hf⟩ := y_g hf
              refine y_lf (fun _ _ _ _ k => y_ialdR (pc2 := 365) rfl dL_law_364 g58.1 (y_ix_in g58.2) k) ?_
              obtain ⟨g57, hf⟩ := y_g hf
              obtain ⟨r53, h54, c55, hf⟩ := y_clE hf
              refine y_UcV0 (As := [.int (y_I h51 v0_18 (Int32.toNatClampNeg (v3_18 + 1))), .int (y_I h51 v0_18 (Int32.toNatClampNeg (v3_18 + 2)))]) (rm := rm_X12_where) (pc2 := 368) rfl dL_law_365 n_X12_where l_BoxYardLaw_26 i_X12_where e_X12_where (ci := 12) rfl rfl (by decide) g57 rfl rfl (by decide) (by simp [y_ci, y_cj, y_p_cat]) rfl rfl (k_X12_where c55) ?_
              refine y_lf2 (Classical.em _) (fun _ _ k1 k2 => y_icmp_eq (tgt := 1753) (pc2 := 371) rfl dL_law_368 (by decide) k1 k2) (fun c56 => ?_) (fun c56 => ?_)
              · replace hf := y_it c56 hf
                exact y_lf (fun _ _ _ _ k => y_pk [0, 1, 2, 3] rfl k) (hj1753 _ _ _ _ _ _ _ hf)
              · replace hf := y_ie c56 hf
                refine y_lf (fun _ _ _ _ k => y_iconst (v := 0) (pc2 := 372) rfl dL_law_371 (by decide) k) ?_
                exact y_zretU (x := false) hf dL_law_372 rfl
            · replace hf := y_ie c49 hf
              by_cases c63 : ((y_I h13 v0_18 (Int32.toNatClampNeg v3_18)) &&& 63) = 3
              · replace hf := y_it c63 hf
                refine y_lf (fun _ _ _ _ k => y_table (off := 340) (tgt := 373) dL_law_33 (by (rw [c63]) <;> decide) (by decide) k) ?_
                refine y_lf (fun _ _ _ _ k => y_aload_n (x := v1_18) (pc2 := 374) rfl dL_law_373 rfl k) ?_
                refine y_lf (fun _ _ _ _ k => y_aload_n (x := v0_18) (pc2 := 375) rfl dL_law_374 rfl k) ?_
                refine y_lf (fun _ _ _ _ k => y_iload_n (pc2 := 376) rfl dL_law_375 rfl k) ?_
                refine y_lf (fun _ _ _ _ k => y_iconst (v := 1) (pc2 := 377) rfl dL_law_376 (by decide) k) ?_
                refine y_lf (fun _ _ _ _ k => y_iadd (pc2 := 378) rfl dL_law_377 k) ?_
                obtain ⟨g78, hf⟩ := y_g hf
                refine y_lf (fun _ _ _ _ k => y_ialdR (pc2 := 379) rfl dL_law_378 g78.1 (y_ix_in g78.2) k) ?_
                refine y_lf (fun _ _ _ _ k => y_aload_n (x := v0_18) (pc2 := 380) rfl dL_law_379 rfl k) ?_
                refine y_lf (fun _ _ _ _ k => y_iload_n (pc2 := 381) rfl dL_law_380 rfl k) ?_
                refine y_lf (fun _ _ _ _ k => y_iconst (v := 2) (pc2 := 382) rfl dL_law_381 (by decide) k) ?_
                refine y_lf (fun _ _ _ _ k => y_iadd (pc2 := 383) rfl dL_law_382 k) ?_
                obtain ⟨g77, hf⟩ := y_g hf
                refine y_lf (fun _ _ _ _ k => y_ialdR (pc2 := 384) rfl dL_law_383 g77.1 (y_ix_in g77.2) k) ?_
                refine y_lf (fun _ _ _ _ k => y_aload_n (x := v0_18) (pc2 := 385) rfl dL_law_384 rfl k) ?_
                refine y_lf (fun _ _ _ _ k => y_iload_n (pc2 := 386) rfl dL_law_385 rfl k) ?_
                refine y_lf (fun _ _ _ _ k => y_iconst (v := 3) (pc2 := 387) rfl dL_law_386 (by decide) k) ?_
                refine y_lf (fun _ _ _ _ k => y_iadd (pc2 := 388) rfl dL_law_387 k) ?_
                obtain ⟨g76, hf⟩ := y_g hf
                refine y_lf (fun _ _ _ _ k => y_ialdR (pc2 := 389) rfl dL_law_388 g76.1 (y_ix_in g76.2) k) ?_
                obtain ⟨g75, hf⟩ := y_g hf
                obtain ⟨r64, h65, c66, hf⟩ := y_clE hf
                refine y_UcallV (As := [.int (y_I h13 v0_18 (Int32.toNatClampNeg (v3_18 + 1))), .int (y_I h13 v0_18 (Int32.toNatClampNeg (v3_18 + 2))), .int (y_I h13 v0_18 (Int32.toNatClampNeg (v3_18 + 3)))]) (pc2 := 392) rfl dL_law_389 n_X11_bay l_BoxYardLaw_27 i_X11_bay e_X11_bay (ci := 11) rfl rfl (by decide) g75 rfl rfl (by decide) (by decide) (k_X11_bay c66) ?_
                refine y_lf (fun _ _ _ _ k => y_aload_n (x := v2_18) (pc2 := 393) rfl dL_law_392 rfl k) ?_
                refine y_lf (fun _ _ _ _ k => y_aload_n (x := v0_18) (pc2 := 394) rfl dL_law_393 rfl k) ?_
                refine y_lf (fun _ _ _ _ k => y_iload_n (pc2 := 395) rfl dL_law_394 rfl k) ?_
                refine y_lf (fun _ _ _ _ k => y_iconst (v := 1) (pc2 := 396) rfl dL_law_395 (by decide) k) ?_
                refine y_lf (fun _ _ _ _ k => y_iadd (pc2 := 397) rfl dL_law_396 k) ?_
                obtain ⟨g74, hf⟩ := y_g hf
                refine y_lf (fun _ _ _ _ k => y_ialdR (pc2 := 398) rfl dL_law_397 g74.1 (y_ix_in g74.2) k) ?_
                refine y_lf (fun _ _ _ _ k => y_aload_n (x := v0_18) (pc2 := 399) rfl dL_law_398 rfl k) ?_
                refine y_lf (fun _ _ _ _ k => y_iload_n (pc2 := 400) rfl dL_law_399 rfl k) ?_
                refine y_lf (fun _ _ _ _ k => y_iconst (v := 2) (pc2 := 401) rfl dL_law_400 (by decide) k) ?_
                refine y_lf (fun _ _ _ _ k => y_iadd (pc2 := 402) rfl dL_law_401 k) ?_
                obtain ⟨g73, hf⟩ := y_g hf
                refine y_lf (fun _ _ _ _ k => y_ialdR (pc2 := 403) rfl dL_law_402 g73.1 (y_ix_in g73.2) k) ?_
                refine y_lf (fun _ _ _ _ k => y_aload_n (x := v0_18) (pc2 := 404) rfl dL_law_403 rfl k) ?_
                refine y_lf (fun _ _ _ _ k => y_iload_n (pc2 := 405) rfl dL_law_404 rfl k) ?_
                refine y_lf (fun _ _ _ _ k => y_iconst (v := 3) (pc2 := 406) rfl dL_law_405 (by decide) k) ?_
                refine y_lf (fun _ _ _ _ k => y_iadd (pc2 := 407) rfl dL_law_406 k) ?_
                obtain ⟨g72, hf⟩ := y_g hf
                refine y_lf (fun _ _ _ _ k => y_ialdR (pc2 := 408) rfl dL_law_407 g72.1 (y_ix_in g72.2) k) ?_
                obtain ⟨g71, hf⟩ := y_g hf
                obtain ⟨r67, h68, c69, hf⟩ := y_clE hf
                refine y_UcV0 (As := [.int (y_I h65 v0_18 (Int32.toNatClampNeg (v3_18 + 1))), .int (y_I h65 v0_18 (Int32.toNatClampNeg (v3_18 + 2))), .int (y_I h65 v0_18 (Int32.toNatClampNeg (v3_18 + 3)))]) (rm := rm_X12_bay) (pc2 := 411) rfl dL_law_408 n_X12_bay l_BoxYardLaw_31 i_X12_bay e_X12_bay (ci := 12) rfl rfl (by decide) g71 rfl rfl (by decide) (by simp [y_ci, y_cj, y_p_cat]) rfl rfl (k_X12_bay c69) ?_
                refine y_lf2 (Classical.em _) (fun _ _ k1 k2 => y_icmp_eq (tgt := 1753) (pc2 := 414) rfl dL_law_411 (by decide) k1 k2) (fun c70 => ?_) (fun c70 => ?_)
                · replace hf := y_it c70 hf
                  exact y_lf (fun _ _ _ _ k => y_pk [0, 1, 2, 3] rfl k) (hj1753 _ _ _ _ _ _ _ hf)
                · replace hf := y_ie c70 hf
                  refine y_lf (fun _ _ _ _ k => y_iconst (v := 0) (pc2 := 415) rfl dL_law_414 (by decide) k) ?_
                  exact y_zretU (x := false) hf dL_law_415 rfl
              · replace hf := y_ie c63 hf
                by_cases c79 : ((y_I h13 v0_18 (Int32.toNatClampNeg v3_18)) &&& 63) = 4
                · replace hf := y_it c79 hf
                  refine y_lf (fun _ _ _ _ k => y_table (off := 383) (tgt := 416) dL_law_33 (by (rw [c79]) <;> decide) (by decide) k) ?_
                  refine y_lf (fun _ _ _ _ k => y_aload_n (x := v1_18) (pc2 := 417) rfl dL_law_416 rfl k) ?_
                  refine y_lf (fun _ _ _ _ k => y_aload_n (x := v0_18) (pc2 := 418) rfl dL_law_417 rfl k) ?_
                  refine y_lf (fun _ _ _ _ k => y_iload_n (pc2 := 419) rfl dL_law_418 rfl k) ?_
                  refine y_lf (fun _ _ _ _ k => y_iconst (v := 1) (pc2 := 420) rfl dL_law_419 (by decide) k) ?_
                  refine y_lf (fun _ _ _ _ k => y_iadd (pc2 := 421) rfl dL_law_420 k) ?_
                  obtain ⟨g94, hf⟩ := y_g hf
                  refine y_lf (fun _ _ _ _ k => y_ialdR (pc2 := 422) rfl dL_law_421 g94.1 (y_ix_in g94.2) k) ?_
                  refine y_lf (fun _ _ _ _ k => y_aload_n (x := v0_18) (pc2 := 423) rfl dL_law_422 rfl k) ?_
                  refine y_lf (fun _ _ _ _ k => y_iload_n (pc2 := 424) rfl dL_law_423 rfl k) ?_
                  refine y_lf (fun _ _ _ _ k => y_iconst (v := 2) (pc2 := 425) rfl dL_law_424 (by decide) k) ?_
                  refine y_lf (fun _ _ _ _ k => y_iadd (pc2 := 426) rfl dL_law_425 k) ?_
                  obtain ⟨g93, hf⟩ := y_g hf
                  refine y_lf (fun _ _ _ _ k => y_ialdR (pc2 := 427) rfl dL_law_426 g93.1 (y_ix_in g93.2) k) ?_
                  refine y_lf (fun _ _ _ _ k => y_aload_n (x := v0_18) (pc2 := 428) rfl dL_law_427 rfl k) ?_
                  refine y_lf (fun _ _ _ _ k => y_iload_n (pc2 := 429) rfl dL_law_428 rfl k) ?_
                  refine y_lf (fun _ _ _ _ k => y_iconst (v := 3) (pc2 := 430) rfl dL_law_429 (by decide) k) ?_
                  refine y_lf (fun _ _ _ _ k => y_iadd (pc2 := 431) rfl dL_law_430 k) ?_
                  obtain ⟨g92, hf⟩ := y_g hf
                  refine y_lf (fun _ _ _ _ k => y_ialdR (pc2 := 432) rfl dL_law_431 g92.1 (y_ix_in g92.2) k) ?_
                  obtain ⟨g91, hf⟩ := y_g hf
                  obtain ⟨r80, h81, c82, hf⟩ := y_clE hf
                  refine y_UcV0 (As := [.int (y_I h13 v0_18 (Int32.toNatClampNeg (v3_18 + 1))), .int (y_I h13 v0_18 (Int32.toNatClampNeg (v3_18 + 2))), .int (y_I h13 v0_18 (Int32.toNatClampNeg (v3_18 + 3)))]) (rm := rm_X11_plugs) (pc2 := 435) rfl dL_law_432 n_X11_plugs l_BoxYardLaw_32 i_X11_plugs e_X11_plugs (ci := 11) rfl rfl (by decide) g91 rfl rfl (by decide) (by decide) rfl rfl (k_X11_plugs c82) ?_
                  refine y_lf (fun _ _ _ _ k => y_aload_n (x := v2_18) (pc2 := 436) rfl dL_law_435 rfl k) ?_
                  refine y_lf (fun _ _ _ _ k => y_aload_n (x := v0_18) (pc2 := 437) rfl dL_law_436 rfl k) ?_
                  refine y_lf (fun _ _ _ _ k => y_iload_n (pc2 := 438) rfl dL_law_437 rfl k) ?_
                  refine y_lf (fun _ _ _ _ k => y_iconst (v := 1) (pc2 := 439) rfl dL_law_438 (by decide) k) ?_
                  refine y_lf (fun _ _ _ _ k => y_iadd (pc2 := 440) rfl dL_law_439 k) ?_
                  obtain ⟨g90, hf⟩ := y_g hf
                  refine y_lf (fun _ _ _ _ k => y_ialdR (pc2 := 441) rfl dL_law_440 g90.1 (y_ix_in g90.2) k) ?_
                  refine y_lf (fun _ _ _ _ k => y_aload_n (x := v0_18) (pc2 := 442) rfl dL_law_441 rfl k) ?_
                  refine y_lf (fun _ _ _ _ k => y_iload_n (pc2 := 443) rfl dL_law_442 rfl k) ?_
                  refine y_lf (fun _ _ _ _ k => y_iconst (v := 2) (pc2 := 444) rfl dL_law_443 (by decide) k) ?_
                  refine y_lf (fun _ _ _ _ k => y_iadd (pc2 := 445) rfl dL_law_444 k) ?_
                  obtain ⟨g89, hf⟩ := y_g hf
                  refine y_lf (fun _ _ _ _ k => y_ialdR (pc2 := 446) rfl dL_law_445 g89.1 (y_ix_in g89.2) k) ?_
                  refine y_lf (fun _ _ _ _ k => y_aload_n (x := v0_18) (pc2 := 447) rfl dL_law_446 rfl k) ?_
                  refine y_lf (fun _ _ _ _ k => y_iload_n (pc2 := 448) rfl dL_law_447 rfl k) ?_
                  refine y_lf (fun _ _ _ _ k => y_iconst (v := 3) (pc2 := 449) rfl dL_law_448 (by decide) k) ?_
                  refine y_lf (fun _ _ _ _ k => y_iadd (pc2 := 450) rfl dL_law_449 k) ?_
                  obtain ⟨g88, hf⟩ := y_g hf
                  refine y_lf (fun _ _ _ _ k => y_ialdR (pc2 := 451) rfl dL_law_450 g88.1 (y_ix_in g88.2) k) ?_
                  obtain ⟨g87, hf⟩ := y_g hf
                  obtain ⟨r83, h84, c85, hf⟩ := y_clE hf
                  refine y_UcV0 (As := [.int (y_I h81 v0_18 (Int32.toNatClampNeg (v3_18 + 1))), .int (y_I h81 v0_18 (Int32.toNatClampNeg (v3_18 + 2))), .int (y_I h81 v0_18 (Int32.toNatClampNeg (v3_18 + 3)))]) (rm := rm_X12_plugs) (pc2 := 454) rfl dL_law_451 n_X12_plugs l_BoxYardLaw_35 i_X12_plugs e_X12_plugs (ci := 12) rfl rfl (by decide) g87 rfl rfl (by decide) (by simp [y_ci, y_cj, y_p_cat]) rfl rfl (k_X12_plugs c85) ?_
                  refine y_lf2 (Classical.em _) (fun _ _ k1 k2 => y_icmp_eq (tgt := 1753) (pc2 := 457) rfl dL_law_454 (by decide) k1 k2) (fun c86 => ?_) (fun c86 => ?_)
                  · replace hf := y_it c86 hf
                    exact y_lf (fun _ _ _ _ k => y_pk [0, 1, 2, 3] rfl k) (hj1753 _ _ _ _ _ _ _ hf)
                  · replace hf := y_ie c86 hf
                    refine y_lf (fun _ _ _ _ k => y_iconst (v := 0) (pc2 := 458) rfl dL_law_457 (by decide) k) ?_
                    exact y_zretU (x := false) hf dL_law_458 rfl
                · replace hf := y_ie c79 hf
                  by_cases c95 : ((y_I h13 v0_18 (Int32.toNatClampNeg v3_18)) &&& 63) = 5
                  · replace hf := y_it c95 hf
                    refine y_lf (fun _ _ _ _ k => y_table (off := 426) (tgt := 459) dL_law_33 (by (rw [c95]) <;> decide) (by decide) k) ?_
                    refine y_lf (fun _ _ _ _ k => y_aload_n (x := v1_18) (pc2 := 460) rfl dL_law_459 rfl k) ?_
                    refine y_lf (fun _ _ _ _ k => y_aload_n (x := v0_18) (pc2 := 461) rfl dL_law_460 rfl k) ?_
                    refine y_lf (fun _ _ _ _ k => y_iload_n (pc2 := 462) rfl dL_law_461 rfl k) ?_
                    refine y_lf (fun _ _ _ _ k => y_iconst (v := 1) (pc2 := 463) rfl dL_law_462 (by decide) k) ?_
                    refine y_lf (fun _ _ _ _ k => y_iadd (pc2 := 464) rfl dL_law_463 k) ?_
                    obtain ⟨g110, hf⟩ := y_g hf
                    refine y_lf (fun _ _ _ _ k => y_ialdR (pc2 := 465) rfl dL_law_464 g110.1 (y_ix_in g110.2) k) ?_
                    refine y_lf (fun _ _ _ _ k => y_aload_n (x := v0_18) (pc2 := 466) rfl dL_law_465 rfl k) ?_
                    refine y_lf (fun _ _ _ _ k => y_iload_n (pc2 := 467) rfl dL_law_466 rfl k) ?_
                    refine y_lf (fun _ _ _ _ k => y_iconst (v := 2) (pc2 := 468) rfl dL_law_467 (by decide) k) ?_
                    refine y_lf (fun _ _ _ _ k => y_iadd (pc2 := 469) rfl dL_law_468 k) ?_
                    obtain ⟨g109, hf⟩ := y_g hf
                    refine y_lf (fun _ _ _ _ k => y_ialdR (pc2 := 470) rfl dL_law_469 g109.1 (y_ix_in g109.2) k) ?_
                    refine y_lf (fun _ _ _ _ k => y_aload_n (x := v0_18) (pc2 := 471) rfl dL_law_470 rfl k) ?_
                    refine y_lf (fun _ _ _ _ k => y_iload_n (pc2 := 472) rfl dL_law_471 rfl k) ?_
                    refine y_lf (fun _ _ _ _ k => y_iconst (v := 3) (pc2 := 473) rfl dL_law_472 (by decide) k) ?_
                    refine y_lf (fun _ _ _ _ k => y_iadd (pc2 := 474) rfl dL_law_473 k) ?_
                    obtain ⟨g108, hf⟩ := y_g hf
                    refine y_lf (fun _ _ _ _ k => y_ialdR (pc2 := 475) rfl dL_law_474 g108.1 (y_ix_in g108.2) k) ?_
                    obtain ⟨g107, hf⟩ := y_g hf
                    obtain ⟨r96, h97, c98, hf⟩ := y_clE hf
                    refine y_UcV0 (As := [.int (y_I h13 v0_18 (Int32.toNatClampNeg (v3_18 + 1))), .int (y_I h13 v0_18 (Int32.toNatClampNeg (v3_18 + 2))), .int (y_I h13 v0_18 (Int32.toNatClampNeg (v3_18 + 3)))]) (rm := rm_X11_apart) (pc2 := 478) rfl dL_law_475 n_X11_apart l_BoxYardLaw_36 i_X11_apart e_X11_apart (ci := 11) rfl rfl (by decide) g107 rfl rfl (by decide) (by decide) rfl rfl (k_X11_apart c98) ?_
                    refine y_lf (fun _ _ _ _ k => y_aload_n (x := v2_18) (pc2 := 479) rfl dL_law_478 rfl k) ?_
                    refine y_lf (fun _ _ _ _ k => y_aload_n (x := v0_18) (pc2 := 480) rfl dL_law_479 rfl k) ?_
                    refine y_lf (fun _ _ _ _ k => y_iload_n (pc2 := 481) rfl dL_law_480 rfl k) ?_
                    refine y_lf (fun _ _ _ _ k => y_iconst (v := 1) (pc2 := 482) rfl dL_law_481 (by decide) k) ?_
                    refine y_lf (fun _ _ _ _ k => y_iadd (pc2 := 483) rfl dL_law_482 k) ?_
                    obtain ⟨g106, hf⟩ := y_g hf
                    refine y_lf (fun _ _ _ _ k => y_ialdR (pc2 := 484) rfl dL_law_483 g106.1 (y_ix_in g106.2) k) ?_
                    refine y_lf (fun _ _ _ _ k => y_aload_n (x := v0_18) (pc2 := 485) rfl dL_law_484 rfl k) ?_
                    refine y_lf (fun _ _ _ _ k => y_iload_n (pc2 := 486) rfl dL_law_485 rfl k) ?_
                    refine y_lf (fun _ _ _ _ k => y_iconst (v := 2) (pc2 := 487) rfl dL_law_486 (by decide) k) ?_
                    refine y_lf (fun _ _ _ _ k => y_iadd (pc2 := 488) rfl dL_law_487 k) ?_
                    obtain ⟨g105, hf⟩ := y_g hf
                    refine y_lf (fun _ _ _ _ k => y_ialdR (pc2 := 489) rfl dL_law_488 g105.1 (y_ix_in g105.2) k) ?_
                    refine y_lf (fun _ _ _ _ k => y_aload_n (x := v0_18) (pc2 := 490) rfl dL_law_489 rfl k) ?_
                    refine y_lf (fun _ _ _ _ k => y_iload_n (pc2 := 491) rfl dL_law_490 rfl k) ?_
                    refine y_lf (fun _ _ _ _ k => y_iconst (v := 3) (pc2 := 492) rfl dL_law_491 (by decide) k) ?_
                    refine y_lf (fun _ _ _ _ k => y_iadd (pc2 := 493) rfl dL_law_492 k) ?_
                    obtain ⟨g104, hf⟩ := y_g hf
                    refine y_lf (fun _ _ _ _ k => y_ialdR (pc2 := 494) rfl dL_law_493 g104.1 (y_ix_in g104.2) k) ?_
                    obtain ⟨g103, hf⟩ := y_g hf
                    obtain ⟨r99, h100, c101, hf⟩ := y_clE hf
                    refine y_UcV0 (As := [.int (y_I h97 v0_18 (Int32.toNatClampNeg (v3_18 + 1))), .int (y_I h97 v0_18 (Int32.toNatClampNeg (v3_18 + 2))), .int (y_I h97 v0_18 (Int32.toNatClampNeg (v3_18 + 3)))]) (rm := rm_X12_apart) (pc2 := 497) rfl dL_law_494 n_X12_apart l_BoxYardLaw_39 i_X12_apart e_X12_apart (ci := 12) rfl rfl (by decide) g103 rfl rfl (by decide) (by simp [y_ci, y_cj, y_p_cat]) rfl rfl (k_X12_apart c101) ?_
                    refine y_lf2 (Classical.em _) (fun _ _ k1 k2 => y_icmp_eq (tgt := 1753) (pc2 := 500) rfl dL_law_497 (by decide) k1 k2) (fun c102 => ?_) (fun c102 => ?_)
                    · replace hf := y_it c102 hf
                      exact y_lf (fun _ _ _ _ k => y_pk [0, 1, 2, 3] rfl k) (hj1753 _ _ _ _ _ _ _ hf)
                    · replace hf := y_ie c102 hf
                      refine y_lf (fun _ _ _ _ k => y_iconst (v := 0) (pc2 := 501) rfl dL_law_500 (by decide) k) ?_
                      exact y_zretU (x := false) hf dL_law_501 rfl
                  · replace hf := y_ie c95 hf
                    by_cases c111 : ((y_I h13 v0_18 (Int32.toNatClampNeg v3_18)) &&& 63) = 6
                    · replace hf := y_it c111 hf
                      refine y_lf (fun _ _ _ _ k => y_table (off := 469) (tgt := 502) dL_law_33 (by (rw [c111]) <;> decide) (by decide) k) ?_
                      refine y_lf (fun _ _ _ _ k => y_aload_n (x := v1_18) (pc2 := 503) rfl dL_law_502 rfl k) ?_
                      refine y_lf (fun _ _ _ _ k => y_aload_n (x := v0_18) (pc2 := 504) rfl dL_law_503 rfl k) ?_
                      refine y_lf (fun _ _ _ _ k => y_iload_n (pc2 := 505) rfl dL_law_504 rfl k) ?_
                      refine y_lf (fun _ _ _ _ k => y_iconst (v := 1) (pc2 := 506) rfl dL_law_505 (by decide) k) ?_
                      refine y_lf (fun _ _ _ _ k => y_iadd (pc2 := 507) rfl dL_law_506 k) ?_
                      obtain ⟨g126, hf⟩ := y_g hf
                      refine y_lf (fun _ _ _ _ k => y_ialdR (pc2 := 508) rfl dL_law_507 g126.1 (y_ix_in g126.2) k) ?_
                      refine y_lf (fun _ _ _ _ k => y_aload_n (x := v0_18) (pc2 := 509) rfl dL_law_508 rfl k) ?_
                      refine y_lf (fun _ _ _ _ k => y_iload_n (pc2 := 510) rfl dL_law_509 rfl k) ?_
                      refine y_lf (fun _ _ _ _ k => y_iconst (v := 2) (pc2 := 511) rfl dL_law_510 (by decide) k) ?_
                      refine y_lf (fun _ _ _ _ k => y_iadd (pc2 := 512) rfl dL_law_511 k) ?_
                      obtain ⟨g125, hf⟩ := y_g hf
                      refine y_lf (fun _ _ _ _ k => y_ialdR (pc2 := 513) rfl dL_law_512 g125.1 (y_ix_in g125.2) k) ?_
                      refine y_lf (fun _ _ _ _ k => y_aload_n (x := v0_18) (pc2 := 514) rfl dL_law_513 rfl k) ?_
                      refine y_lf (fun _ _ _ _ k => y_iload_n (pc2 := 515) rfl dL_law_514 rfl k) ?_
                      refine y_lf (fun _ _ _ _ k => y_iconst (v := 3) (pc2 := 516) rfl dL_law_515 (by decide) k) ?_
                      refine y_lf (fun _ _ _ _ k => y_iadd (pc2 := 517) rfl dL_law_516 k) ?_
                      obtain ⟨g124, hf⟩ := y_g hf
                      refine y_lf (fun _ _ _ _ k => y_ialdR (pc2 := 518) rfl dL_law_517 g124.1 (y_ix_in g124.2) k) ?_
                      obtain ⟨g123, hf⟩ := y_g hf
                      obtain ⟨r112, h113, c114, hf⟩ := y_clE hf
                      refine y_UcV0 (As := [.int (y_I h13 v0_18 (Int32.toNatClampNeg (v3_18 + 1))), .int (y_I h13 v0_18 (Int32.toNatClampNeg (v3_18 + 2))), .int (y_I h13 v0_18 (Int32.toNatClampNeg (v3_18 + 3)))]) (rm := rm_X11_stack) (pc2 := 521) rfl dL_law_518 n_X11_stack l_BoxYardLaw_40 i_X11_stack e_X11_stack (ci := 11) rfl rfl (by decide) g123 rfl rfl (by decide) (by decide) rfl rfl (k_X11_stack c114) ?_
                      refine y_lf (fun _ _ _ _ k => y_aload_n (x := v2_18) (pc2 := 522) rfl dL_law_521 rfl k) ?_
                      refine y_lf (fun _ _ _ _ k => y_aload_n (x := v0_18) (pc2 := 523) rfl dL_law_522 rfl k) ?_
                      refine y_lf (fun _ _ _ _ k => y_iload_n (pc2 := 524) rfl dL_law_523 rfl k) ?_
                      refine y_lf (fun _ _ _ _ k => y_iconst (v := 1) (pc2 := 525) rfl dL_law_524 (by decide) k) ?_
                      refine y_lf (fun _ _ _ _ k => y_iadd (pc2 := 526) rfl dL_law_525 k) ?_
                      obtain ⟨g122, hf⟩ := y_g hf
                      refine y_lf (fun _ _ _ _ k => y_ialdR (pc2 := 527) rfl dL_law_526 g122.1 (y_ix_in g122.2) k) ?_
                      refine y_lf (fun _ _ _ _ k => y_aload_n (x := v0_18) (pc2 := 528) rfl dL_law_527 rfl k) ?_
                      refine y_lf (fun _ _ _ _ k => y_iload_n (pc2 := 529) rfl dL_law_528 rfl k) ?_
                      refine y_lf (fun _ _ _ _ k => y_iconst (v := 2) (pc2 := 530) rfl dL_law_529 (by decide) k) ?_
                      refine y_lf (fun _ _ _ _ k => y_iadd (pc2 := 531) rfl dL_law_530 k) ?_
                      obtain ⟨g121, hf⟩ := y_g hf
                      refine y_lf (fun _ _ _ _ k => y_ialdR (pc2 := 532) rfl dL_law_531 g121.1 (y_ix_in g121.2) k) ?_
                      refine y_lf (fun _ _ _ _ k => y_aload_n (x := v0_18) (pc2 := 533) rfl dL_law_532 rfl k) ?_
                      refine y_lf (fun _ _ _ _ k => y_iload_n (pc2 := 534) rfl dL_law_533 rfl k) ?_
                      refine y_lf (fun _ _ _ _ k => y_iconst (v := 3) (pc2 := 535) rfl dL_law_534 (by decide) k) ?_
                      refine y_lf (fun _ _ _ _ k => y_iadd (pc2 := 536) rfl dL_law_535 k) ?_
                      obtain ⟨g120, hf⟩ := y_g hf
                      refine y_lf (fun _ _ _ _ k => y_ialdR (pc2 := 537) rfl dL_law_536 g120.1 (y_ix_in g120.2) k) ?_
                      obtain ⟨g119, hf⟩ := y_g hf
                      obtain ⟨r115, h116, c117, hf⟩ := y_clE hf
                      refine y_UcV0 (As := [.int (y_I h113 v0_18 (Int32.toNatClampNeg (v3_18 + 1))), .int (y_I h113 v0_18 (Int32.toNatClampNeg (v3_18 + 2))), .int (y_I h113 v0_18 (Int32.toNatClampNeg (v3_18 + 3)))]) (rm := rm_X12_stack) (pc2 := 540) rfl dL_law_537 n_X12_stack l_BoxYardLaw_43 i_X12_stack e_X12_stack (ci := 12) rfl rfl (by decide) g119 rfl rfl (by decide) (by simp [y_ci, y_cj, y_p_cat]) rfl rfl (k_X12_stack c117) ?_
                      refine y_lf2 (Classical.em _) (fun _ _ k1 k2 => y_icmp_eq (tgt := 1753) (pc2 := 543) rfl dL_law_540 (by decide) k1 k2) (fun c118 => ?_) (fun c118 => ?_)
                      · replace hf := y_it c118 hf
                        exact y_lf (fun _ _ _ _ k => y_pk [0, 1, 2, 3] rfl k) (hj1753 _ _ _ _ _ _ _ hf)
                      · replace hf := y_ie c118 hf
                        refine y_lf (fun _ _ _ _ k => y_iconst (v := 0) (pc2 := 544) rfl dL_law_543 (by decide) k) ?_
                        exact y_zretU (x := false) hf dL_law_544 rfl
                    · replace hf := y_ie c111 hf
                      by_cases c127 : ((y_I h13 v0_18 (Int32.toNatClampNeg v3_18)) &&& 63) = 7
                      · replace hf := y_it c127 hf
                        refine y_lf (fun _ _ _ _ k => y_table (off := 512) (tgt := 545) dL_law_33 (by (rw [c127]) <;> decide) (by decide) k) ?_
                        refine y_lf (fun _ _ _ _ k => y_aload_n (x := v1_18) (pc2 := 546) rfl dL_law_545 rfl k) ?_
                        refine y_lf (fun _ _ _ _ k => y_aload_n (x := v0_18) (pc2 := 547) rfl dL_law_546 rfl k) ?_
                        refine y_lf (fun _ _ _ _ k => y_iload_n (pc2 := 548) rfl dL_law_547 rfl k) ?_
                        refine y_lf (fun _ _ _ _ k => y_iconst (v := 1) (pc2 := 549) rfl dL_law_548 (by decide) k) ?_
                        refine y_lf (fun _ _ _ _ k => y_iadd (pc2 := 550) rfl dL_law_549 k) ?_
                        obtain ⟨g138, hf⟩ := y_g hf
                        refine y_lf (fun _ _ _ _ k => y_ialdR (pc2 := 551) rfl dL_law_550 g138.1 (y_ix_in g138.2) k) ?_
                        obtain ⟨g137, hf⟩ := y_g hf
                        obtain ⟨r128, h129, c130, hf⟩ := y_clE hf
                        refine y_UcV0 (As := [.int (y_I h13 v0_18 (Int32.toNatClampNeg (v3_18 + 1)))]) (rm := rm_X11_share) (pc2 := 554) rfl dL_law_551 n_X11_share l_BoxYardLaw_44 i_X11_share e_X11_share (ci := 11) rfl rfl (by decide) g137 rfl rfl (by decide) (by decide) rfl rfl (k_X11_share c130) ?_
                        refine y_lf (fun _ _ _ _ k => y_aload_n (x := v2_18) (pc2 := 555) rfl dL_law_554 rfl k) ?_
                        refine y_lf (fun _ _ _ _ k => y_aload_n (x := v0_18) (pc2 := 556) rfl dL_law_555 rfl k) ?_
                        refine y_lf (fun _ _ _ _ k => y_iload_n (pc2 := 557) rfl dL_law_556 rfl k) ?_
                        refine y_lf (fun _ _ _ _ k => y_iconst (v := 1) (pc2 := 558) rfl dL_law_557 (by decide) k) ?_
                        refine y_lf (fun _ _ _ _ k => y_iadd (pc2 := 559) rfl dL_law_558 k) ?_
                        obtain ⟨g136, hf⟩ := y_g hf
                        refine y_lf (fun _ _ _ _ k => y_ialdR (pc2 := 560) rfl dL_law_559 g136.1 (y_ix_in g136.2) k) ?_
                        obtain ⟨g135, hf⟩ := y_g hf
                        obtain ⟨r131, h132, c133, hf⟩ := y_clE hf
                        refine y_UcV0 (As := [.int (y_I h129 v0_18 (Int32.toNatClampNeg (v3_18 + 1)))]) (rm := rm_X12_share) (pc2 := 563) rfl dL_law_560 n_X12_share l_BoxYardLaw_48 i_X12_share e_X12_share (ci := 12) rfl rfl (by decide) g135 rfl rfl (by decide) (by simp [y_ci, y_cj, y_p_cat]) rfl rfl (k_X12_share c133) ?_
                        refine y_lf2 (Classical.em _) (fun _ _ k1 k2 => y_icmp_eq (tgt := 1753) (pc2 := 566) rfl dL_law_563 (by decide) k1 k2) (fun c134 => ?_) (fun c134 => ?_)
                        · replace hf := y_it c134 hf
                          exact y_lf (fun _ _ _ _ k => y_pk [0, 1, 2, 3] rfl k) (hj1753 _ _ _ _ _ _ _ hf)
                        · replace hf := y_ie c134 hf
                          refine y_lf (fun _ _ _ _ k => y_iconst (v := 0) (pc2 := 567) rfl dL_law_566 (by decide) k) ?_
                          exact y_zretU (x := false) hf dL_law_567 rfl
                      · replace hf := y_ie c127 hf
                        by_cases c139 : ((y_I h13 v0_18 (Int32.toNatClampNeg v3_18)) &&& 63) = 8
                        · replace hf := y_it c139 hf
                          refine y_lf (fun _ _ _ _ k => y_table (off := 535) (tgt := 568) dL_law_33 (by (rw [c139]) <;> decide) (by decide) k) ?_
                          refine y_lf (fun _ _ _ _ k => y_aload_n (x := v1_18) (pc2 := 569) rfl dL_law_568 rfl k) ?_
                          refine y_lf (fun _ _ _ _ k => y_aload_n (x := v0_18) (pc2 := 570) rfl dL_law_569 rfl k) ?_
                          refine y_lf (fun _ _ _ _ k => y_iload_n (pc2 := 571) rfl dL_law_570 rfl k) ?_
                          refine y_lf (fun _ _ _ _ k => y_iconst (v := 1) (pc2 := 572) rfl dL_law_571 (by decide) k) ?_
                          refine y_lf (fun _ _ _ _ k => y_iadd (pc2 := 573) rfl dL_law_572 k) ?_
                          obtain ⟨g152, hf⟩ := y_g hf
                          refine y_lf (fun _ _ _ _ k => y_ialdR (pc2 := 574) rfl dL_law_573 g152.1 (y_ix_in g152.2) k) ?_
                          refine y_lf (fun _ _ _ _ k => y_aload_n (x := v0_18) (pc2 := 575) rfl dL_law_574 rfl k) ?_
                          refine y_lf (fun _ _ _ _ k => y_iload_n (pc2 := 576) rfl dL_law_575 rfl k) ?_
                          refine y_lf (fun _ _ _ _ k => y_iconst (v := 2) (pc2 := 577) rfl dL_law_576 (by decide) k) ?_
                          refine y_lf (fun _ _ _ _ k => y_iadd (pc2 := 578) rfl dL_law_577 k) ?_
                          obtain ⟨g151, hf⟩ := y_g hf
                          refine y_lf (fun _ _ _ _ k => y_ialdR (pc2 := 579) rfl dL_law_578 g151.1 (y_ix_in g151.2) k) ?_
                          obtain ⟨g150, hf⟩ := y_g hf
                          obtain ⟨r140, h141, c142, hf⟩ := y_clE hf
                          refine y_UcV0 (As := [.int (y_I h13 v0_18 (Int32.toNatClampNeg (v3_18 + 1))), .int (y_I h13 v0_18 (Int32.toNatClampNeg (v3_18 + 2)))]) (rm := rm_X11_rail) (pc2 := 582) rfl dL_law_579 n_X11_rail l_BoxYardLaw_49 i_X11_rail e_X11_rail (ci := 11) rfl rfl (by decide) g150 rfl rfl (by decide) (by decide) rfl rfl (k_X11_rail c142) ?_
                          refine y_lf (fun _ _ _ _ k => y_aload_n (x := v2_18) (pc2 := 583) rfl dL_law_582 rfl k) ?_
                          refine y_lf (fun _ _ _ _ k => y_aload_n (x := v0_18) (pc2 := 584) rfl dL_law_583 rfl k) ?_
                          refine y_lf (fun _ _ _ _ k => y_iload_n (pc2 := 585) rfl dL_law_584 rfl k) ?_
                          refine y_lf (fun _ _ _ _ k => y_iconst (v := 1) (pc2 := 586) rfl dL_law_585 (by decide) k) ?_
                          refine y_lf (fun _ _ _ _ k => y_iadd (pc2 := 587) rfl dL_law_586 k) ?_
                          obtain ⟨g149, hf⟩ := y_g hf
                          refine y_lf (fun _ _ _ _ k => y_ialdR (pc2 := 588) rfl dL_law_587 g149.1 (y_ix_in g149.2) k) ?_
                          refine y_lf (fun _ _ _ _ k => y_aload_n (x := v0_18) (pc2 := 589) rfl dL_law_588 rfl k) ?_
                          refine y_lf (fun _ _ _ _ k => y_iload_n (pc2 := 590) rfl dL_law_589 rfl k) ?_
                          refine y_lf (fun _ _ _ _ k => y_iconst (v := 2) (pc2 := 591) rfl dL_law_590 (by decide) k) ?_
                          refine y_lf (fun _ _ _ _ k => y_iadd (pc2 := 592) rfl dL_law_591 k) ?_
                          obtain ⟨g148, hf⟩ := y_g hf
                          refine y_lf (fun _ _ _ _ k => y_ialdR (pc2 := 593) rfl dL_law_592 g148.1 (y_ix_in g148.2) k) ?_
                          obtain ⟨g147, hf⟩ := y_g hf
                          obtain ⟨r143, h144, c145, hf⟩ := y_clE hf
                          refine y_UcV0 (As := [.int (y_I h141 v0_18 (Int32.toNatClampNeg (v3_18 + 1))), .int (y_I h141 v0_18 (Int32.toNatClampNeg (v3_18 + 2)))]) (rm := rm_X12_rail) (pc2 := 596) rfl dL_law_593 n_X12_rail l_BoxYardLaw_52 i_X12_rail e_X12_rail (ci := 12) rfl rfl (by decide) g147 rfl rfl (by decide) (by simp [y_ci, y_cj, y_p_cat]) rfl rfl (k_X12_rail c145) ?_
                          refine y_lf2 (Classical.em _) (fun _ _ k1 k2 => y_icmp_eq (tgt := 1753) (pc2 := 599) rfl dL_law_596 (by decide) k1 k2) (fun c146 => ?_) (fun c146 => ?_)
                          · replace hf := y_it c146 hf
                            exact y_lf (fun _ _ _ _ k => y_pk [0, 1, 2, 3] rfl k) (hj1753 _ _ _ _ _ _ _ hf)
                          · replace hf := y_ie c146 hf
                            refine y_lf (fun _ _ _ _ k => y_iconst (v := 0) (pc2 := 600) rfl dL_law_599 (by decide) k) ?_
                            exact y_zretU (x := false) hf dL_law_600 rfl
                        · replace hf := y_ie c139 hf
                          by_cases c153 : ((y_I h13 v0_18 (Int32.toNatClampNeg v3_18)) &&& 63) = 9
                          · replace hf := y_it c153 hf
                            refine y_lf (fun _ _ _ _ k => y_table (off := 568) (tgt := 601) dL_law_33 (by (rw [c153]) <;> decide) (by decide) k) ?_
                            refine y_lf (fun _ _ _ _ k => y_aload_n (x := v1_18) (pc2 := 602) rfl dL_law_601 rfl k) ?_
                            refine y_lf (fun _ _ _ _ k => y_aload_n (x := v0_18) (pc2 := 603) rfl dL_law_602 rfl k) ?_
                            refine y_lf (fun _ _ _ _ k => y_iload_n (pc2 := 604) rfl dL_law_603 rfl k) ?_
                            refine y_lf (fun _ _ _ _ k => y_iconst (v := 1) (pc2 := 605) rfl dL_law_604 (by decide) k) ?_
                            refine y_lf (fun _ _ _ _ k => y_iadd (pc2 := 606) rfl dL_law_605 k) ?_
                            obtain ⟨g168, hf⟩ := y_g hf
                            refine y_lf (fun _ _ _ _ k => y_ialdR (pc2 := 607) rfl dL_law_606 g168.1 (y_ix_in g168.2) k) ?_
                            refine y_lf (fun _ _ _ _ k => y_aload_n (x := v0_18) (pc2 := 608) rfl dL_law_607 rfl k) ?_
                            refine y_lf (fun _ _ _ _ k => y_iload_n (pc2 := 609) rfl dL_law_608 rfl k) ?_
                            refine y_lf (fun _ _ _ _ k => y_iconst (v := 2) (pc2 := 610) rfl dL_law_609 (by decide) k) ?_
                            refine y_lf (fun _ _ _ _ k => y_iadd (pc2 := 611) rfl dL_law_610 k) ?_
                            obtain ⟨g167, hf⟩ := y_g hf
                            refine y_lf (fun _ _ _ _ k => y_ialdR (pc2 := 612) rfl dL_law_611 g167.1 (y_ix_in g167.2) k) ?_
                            refine y_lf (fun _ _ _ _ k => y_aload_n (x := v0_18) (pc2 := 613) rfl dL_law_612 rfl k) ?_
                            refine y_lf (fun _ _ _ _ k => y_iload_n (pc2 := 614) rfl dL_law_613 rfl k) ?_
                            refine y_lf (fun _ _ _ _ k => y_iconst (v := 3) (pc2 := 615) rfl dL_law_614 (by decide) k) ?_
                            refine y_lf (fun _ _ _ _ k => y_iadd (pc2 := 616) rfl dL_law_615 k) ?_
                            obtain ⟨g166, hf⟩ := y_g hf
                            refine y_lf (fun _ _ _ _ k => y_ialdR (pc2 := 617) rfl dL_law_616 g166.1 (y_ix_in g166.2) k) ?_
                            obtain ⟨g165, hf⟩ := y_g hf
                            obtain ⟨r154, h155, c156, hf⟩ := y_clE hf
                            refine y_UcallV (As := [.int (y_I h13 v0_18 (Int32.toNatClampNeg (v3_18 + 1))), .int (y_I h13 v0_18 (Int32.toNatClampNeg (v3_18 + 2))), .int (y_I h13 v0_18 (Int32.toNatClampNeg (v3_18 + 3)))]) (pc2 := 620) rfl dL_law_617 n_X11_crane l_BoxYardLaw_53 i_X11_crane e_X11_crane (ci := 11) rfl rfl (by decide) g165 rfl rfl (by decide) (by decide) (k_X11_crane c156) ?_
                            refine y_lf (fun _ _ _ _ k => y_aload_n (x := v2_18) (pc2 := 621) rfl dL_law_620 rfl k) ?_
                            refine y_lf (fun _ _ _ _ k => y_aload_n (x := v0_18) (pc2 := 622) rfl dL_law_621 rfl k) ?_
                            refine y_lf (fun _ _ _ _ k => y_iload_n (pc2 := 623) rfl dL_law_622 rfl k) ?_
                            refine y_lf (fun _ _ _ _ k => y_iconst (v := 1) (pc2 := 624) rfl dL_law_623 (by decide) k) ?_
                            refine y_lf (fun _ _ _ _ k => y_iadd (pc2 := 625) rfl dL_law_624 k) ?_
                            obtain ⟨g164, hf⟩ := y_g hf
                            refine y_lf (fun _ _ _ _ k => y_ialdR (pc2 := 626) rfl dL_law_625 g164.1 (y_ix_in g164.2) k) ?_
                            refine y_lf (fun _ _ _ _ k => y_aload_n (x := v0_18) (pc2 := 627) rfl dL_law_626 rfl k) ?_
                            refine y_lf (fun _ _ _ _ k => y_iload_n (pc2 := 628) rfl dL_law_627 rfl k) ?_
                            refine y_lf (fun _ _ _ _ k => y_iconst (v := 2) (pc2 := 629) rfl dL_law_628 (by decide) k) ?_
                            refine y_lf (fun _ _ _ _ k => y_iadd (pc2 := 630) rfl dL_law_629 k) ?_
                            obtain ⟨g163, hf⟩ := y_g hf
                            refine y_lf (fun _ _ _ _ k => y_ialdR (pc2 := 631) rfl dL_law_630 g163.1 (y_ix_in g163.2) k) ?_
                            refine y_lf (fun _ _ _ _ k => y_aload_n (x := v0_18) (pc2 := 632) rfl dL_law_631 rfl k) ?_
                            refine y_lf (fun _ _ _ _ k => y_iload_n (pc2 := 633) rfl dL_law_632 rfl k) ?_
                            refine y_lf (fun _ _ _ _ k => y_iconst (v := 3) (pc2 := 634) rfl dL_law_633 (by decide) k) ?_
                            refine y_lf (fun _ _ _ _ k => y_iadd (pc2 := 635) rfl dL_law_634 k) ?_
                            obtain ⟨g162, hf⟩ := y_g hf
                            refine y_lf (fun _ _ _ _ k => y_ialdR (pc2 := 636) rfl dL_law_635 g162.1 (y_ix_in g162.2) k) ?_
                            obtain ⟨g161, hf⟩ := y_g hf
                            obtain ⟨r157, h158, c159, hf⟩ := y_clE hf
                            refine y_UcV0 (As := [.int (y_I h155 v0_18 (Int32.toNatClampNeg (v3_18 + 1))), .int (y_I h155 v0_18 (Int32.toNatClampNeg (v3_18 + 2))), .int (y_I h155 v0_18 (Int32.toNatClampNeg (v3_18 + 3)))]) (rm := rm_X12_crane) (pc2 := 639) rfl dL_law_636 n_X12_crane l_BoxYardLaw_56 i_X12_crane e_X12_crane (ci := 12) rfl rfl (by decide) g161 rfl rfl (by decide) (by simp [y_ci, y_cj, y_p_cat]) rfl rfl (k_X12_crane c159) ?_
                            refine y_lf2 (Classical.em _) (fun _ _ k1 k2 => y_icmp_eq (tgt := 1753) (pc2 := 642) rfl dL_law_639 (by decide) k1 k2) (fun c160 => ?_) (fun c160 => ?_)
                            · replace hf := y_it c160 hf
                              exact y_lf (fun _ _ _ _ k => y_pk [0, 1, 2, 3] rfl k) (hj1753 _ _ _ _ _ _ _ hf)
                            · replace hf := y_ie c160 hf
                              refine y_lf (fun _ _ _ _ k => y_iconst (v := 0) (pc2 := 643) rfl dL_law_642 (by decide) k) ?_
                              exact y_zretU (x := false) hf dL_law_643 rfl
                          · replace hf := y_ie c153 hf
                            by_cases c169 : ((y_I h13 v0_18 (Int32.toNatClampNeg v3_18)) &&& 63) = 10
                            · replace hf := y_it c169 hf
                              refine y_lf (fun _ _ _ _ k => y_table (off := 611) (tgt := 644) dL_law_33 (by (rw [c169]) <;> decide) (by decide) k) ?_
                              refine y_lf (fun _ _ _ _ k => y_aload_n (x := v1_18) (pc2 := 645) rfl dL_law_644 rfl k) ?_
                              refine y_lf (fun _ _ _ _ k => y_aload_n (x := v0_18) (pc2 := 646) rfl dL_law_645 rfl k) ?_
                              refine y_lf (fun _ _ _ _ k => y_iload_n (pc2 := 647) rfl dL_law_646 rfl k) ?_
                              refine y_lf (fun _ _ _ _ k => y_iconst (v := 1) (pc2 := 648) rfl dL_law_647 (by decide) k) ?_
                              refine y_lf (fun _ _ _ _ k => y_iadd (pc2 := 649) rfl dL_law_648 k) ?_
                              obtain ⟨g180, hf⟩ := y_g hf
                              refine y_lf (fun _ _ _ _ k => y_ialdR (pc2 := 650) rfl dL_law_649 g180.1 (y_ix_in g180.2) k) ?_
                              obtain ⟨g179, hf⟩ := y_g hf
                              obtain ⟨r170, h171, c172, hf⟩ := y_clE hf
                              refine y_UcV0 (As := [.int (y_I h13 v0_18 (Int32.toNatClampNeg (v3_18 + 1)))]) (rm := rm_X11_wind) (pc2 := 653) rfl dL_law_650 n_X11_wind l_BoxYardLaw_57 i_X11_wind e_X11_wind (ci := 11) rfl rfl (by decide) g179 rfl rfl (by decide) (by decide) rfl rfl (k_X11_wind c172) ?_
                              refine y_lf (fun _ _ _ _ k => y_aload_n (x := v2_18) (pc2 := 654) rfl dL_law_653 rfl k) ?_
                              refine y_lf (fun _ _ _ _ k => y_aload_n (x := v0_18) (pc2 := 655) rfl dL_law_654 rfl k) ?_
                              refine y_lf (fun _ _ _ _ k => y_iload_n (pc2 := 656) rfl dL_law_655 rfl k) ?_
                              refine y_lf (fun _ _ _ _ k => y_iconst (v := 1) (pc2 := 657) rfl dL_law_656 (by decide) k) ?_
                              refine y_lf (fun _ _ _ _ k => y_iadd (pc2 := 658) rfl dL_law_657 k) ?_
                              obtain ⟨g178, hf⟩ := y_g hf
                              refine y_lf (fun _ _ _ _ k => y_ialdR (pc2 := 659) rfl dL_law_658 g178.1 (y_ix_in g178.2) k) ?_
                              obtain ⟨g177, hf⟩ := y_g hf
                              obtain ⟨r173, h174, c175, hf⟩ := y_clE hf
                              refine y_UcV0 (As := [.int (y_I h171 v0_18 (Int32.toNatClampNeg (v3_18 + 1)))]) (rm := rm_X12_wind) (pc2 := 662) rfl dL_law_659 n_X12_wind l_BoxYardLaw_60 i_X12_wind e_X12_wind (ci := 12) rfl rfl (by decide) g177 rfl rfl (by decide) (by simp [y_ci, y_cj, y_p_cat]) rfl rfl (k_X12_wind c175) ?_
                              refine y_lf2 (Classical.em _) (fun _ _ k1 k2 => y_icmp_eq (tgt := 1753) (pc2 := 665) rfl dL_law_662 (by decide) k1 k2) (fun c176 => ?_) (fun c176 => ?_)
                              · replace hf := y_it c176 hf
                                exact y_lf (fun _ _ _ _ k => y_pk [0, 1, 2, 3] rfl k) (hj1753 _ _ _ _ _ _ _ hf)
                              · replace hf := y_ie c176 hf
                                refine y_lf (fun _ _ _ _ k => y_iconst (v := 0) (pc2 := 666) rfl dL_law_665 (by decide) k) ?_
                                exact y_zretU (x := false) hf dL_law_666 rfl
                            · replace hf := y_ie c169 hf
                              by_cases c181 : ((y_I h13 v0_18 (Int32.toNatClampNeg v3_18)) &&& 63) = 11
                              · replace hf := y_it c181 hf
                                refine y_lf (fun _ _ _ _ k => y_table (off := 634) (tgt := 667) dL_law_33 (by (rw [c181]) <;> decide) (by decide) k) ?_
                                refine y_lf (fun _ _ _ _ k => y_aload_n (x := v1_18) (pc2 := 668) rfl dL_law_667 rfl k) ?_
                                refine y_lf (fun _ _ _ _ k => y_aload_n (x := v0_18) (pc2 := 669) rfl dL_law_668 rfl k) ?_
                                refine y_lf (fun _ _ _ _ k => y_iload_n (pc2 := 670) rfl dL_law_669 rfl k) ?_
                                refine y_lf (fun _ _ _ _ k => y_iconst (v := 1) (pc2 := 671) rfl dL_law_670 (by decide) k) ?_
                                refine y_lf (fun _ _ _ _ k => y_iadd (pc2 := 672) rfl dL_law_671 k) ?_
                                obtain ⟨g194, hf⟩ := y_g hf
                                refine y_lf (fun _ _ _ _ k => y_ialdR (pc2 := 673) rfl dL_law_672 g194.1 (y_ix_in g194.2) k) ?_
                                refine y_lf (fun _ _ _ _ k => y_aload_n (x := v0_18) (pc2 := 674) rfl dL_law_673 rfl k) ?_
                                refine y_lf (fun _ _ _ _ k => y_iload_n (pc2 := 675) rfl dL_law_674 rfl k) ?_
                                refine y_lf (fun _ _ _ _ k => y_iconst (v := 2) (pc2 := 676) rfl dL_law_675 (by decide) k) ?_
                                refine y_lf (fun _ _ _ _ k => y_iadd (pc2 := 677) rfl dL_law_676 k) ?_
                                obtain ⟨g193, hf⟩ := y_g hf
                                refine y_lf (fun _ _ _ _ k => y_ialdR (pc2 := 678) rfl dL_law_677 g193.1 (y_ix_in g193.2) k) ?_
                                obtain ⟨g192, hf⟩ := y_g hf
                                obtain ⟨r182, h183, c184, hf⟩ := y_clE hf
                                refine y_UcV0 (As := [.int (y_I h13 v0_18 (Int32.toNatClampNeg (v3_18 + 1))), .int (y_I h13 v0_18 (Int32.toNatClampNeg (v3_18 + 2)))]) (rm := rm_X11_engine) (pc2 := 681) rfl dL_law_678 n_X11_engine l_BoxYardLaw_61 i_X11_engine e_X11_engine (ci := 11) rfl rfl (by decide) g192 rfl rfl (by decide) (by decide) rfl rfl (k_X11_engine c184) ?_
                                refine y_lf (fun _ _ _ _ k => y_aload_n (x := v2_18) (pc2 := 682) rfl dL_law_681 rfl k) ?_
                                refine y_lf (fun _ _ _ _ k => y_aload_n (x := v0_18) (pc2 := 683) rfl dL_law_682 rfl k) ?_
                                refine y_lf (fun _ _ _ _ k => y_iload_n (pc2 := 684) rfl dL_law_683 rfl k) ?_
                                refine y_lf (fun _ _ _ _ k => y_iconst (v := 1) (pc2 := 685) rfl dL_law_684 (by decide) k) ?_
                                refine y_lf (fun _ _ _ _ k => y_iadd (pc2 := 686) rfl dL_law_685 k) ?_
                                obtain ⟨g191, hf⟩ := y_g hf
                                refine y_lf (fun _ _ _ _ k => y_ialdR (pc2 := 687) rfl dL_law_686 g191.1 (y_ix_in g191.2) k) ?_
                                refine y_lf (fun _ _ _ _ k => y_aload_n (x := v0_18) (pc2 := 688) rfl dL_law_687 rfl k) ?_
                                refine y_lf (fun _ _ _ _ k => y_iload_n (pc2 := 689) rfl dL_law_688 rfl k) ?_
                                refine y_lf (fun _ _ _ _ k => y_iconst (v := 2) (pc2 := 690) rfl dL_law_689 (by decide) k) ?_
                                refine y_lf (fun _ _ _ _ k => y_iadd (pc2 := 691) rfl dL_law_690 k) ?_
                                obtain ⟨g190, hf⟩ := y_g hf
                                refine y_lf (fun _ _ _ _ k => y_ialdR (pc2 := 692) rfl dL_law_691 g190.1 (y_ix_in g190.2) k) ?_
                                obtain ⟨g189, hf⟩ := y_g hf
                                obtain ⟨r185, h186, c187, hf⟩ := y_clE hf
                                refine y_UcV0 (As := [.int (y_I h183 v0_18 (Int32.toNatClampNeg (v3_18 + 1))), .int (y_I h183 v0_18 (Int32.toNatClampNeg (v3_18 + 2)))]) (rm := rm_X12_engine) (pc2 := 695) rfl dL_law_692 n_X12_engine l_BoxYardLaw_64 i_X12_engine e_X12_engine (ci := 12) rfl rfl (by decide) g189 rfl rfl (by decide) (by simp [y_ci, y_cj, y_p_cat]) rfl rfl (k_X12_engine c187) ?_
                                refine y_lf2 (Classical.em _) (fun _ _ k1 k2 => y_icmp_eq (tgt := 1753) (pc2 := 698) rfl dL_law_695 (by decide) k1 k2) (fun c188 => ?_) (fun c188 => ?_)
                                · replace hf := y_it c188 hf
                                  exact y_lf (fun _ _ _ _ k => y_pk [0, 1, 2, 3] rfl k) (hj1753 _ _ _ _ _ _ _ hf)
                                · replace hf := y_ie c188 hf
                                  refine y_lf (fun _ _ _ _ k => y_iconst (v := 0) (pc2 := 699) rfl dL_law_698 (by decide) k) ?_
                                  exact y_zretU (x := false) hf dL_law_699 rfl
                              · replace hf := y_ie c181 hf
                                by_cases c195 : ((y_I h13 v0_18 (Int32.toNatClampNeg v3_18)) &&& 63) = 12
                                · replace hf := y_it c195 hf
                                  refine y_lf (fun _ _ _ _ k => y_table (off := 667) (tgt := 700) dL_law_33 (by (rw [c195]) <;> decide) (by decide) k) ?_
                                  refine y_lf (fun _ _ _ _ k => y_aload_n (x := v1_18) (pc2 := 701) rfl dL_law_700 rfl k) ?_
                                  refine y_lf (fun _ _ _ _ k => y_aload_n (x := v0_18) (pc2 := 702) rfl dL_law_701 rfl k) ?_
                                  refine y_lf (fun _ _ _ _ k => y_iload_n (pc2 := 703) rfl dL_law_702 rfl k) ?_
                                  refine y_lf (fun _ _ _ _ k => y_iconst (v := 1) (pc2 := 704) rfl dL_law_703 (by decide) k) ?_
                                  refine y_lf (fun _ _ _ _ k => y_iadd (pc2 := 705) rfl dL_law_704 k) ?_
                                  obtain ⟨g208, hf⟩ := y_g hf
                                  refine y_lf (fun _ _ _ _ k => y_ialdR (pc2 := 706) rfl dL_law_705 g208.1 (y_ix_in g208.2) k) ?_
                                  refine y_lf (fun _ _ _ _ k => y_aload_n (x := v0_18) (pc2 := 707) rfl dL_law_706 rfl k) ?_
                                  refine y_lf (fun _ _ _ _ k => y_iload_n (pc2 := 708) rfl dL_law_707 rfl k) ?_
                                  refine y_lf (fun _ _ _ _ k => y_iconst (v := 2) (pc2 := 709) rfl dL_law_708 (by decide) k) ?_
                                  refine y_lf (fun _ _ _ _ k => y_iadd (pc2 := 710) rfl dL_law_709 k) ?_
                                  obtain ⟨g207, hf⟩ := y_g hf
                                  refine y_lf (fun _ _ _ _ k => y_ialdR (pc2 := 711) rfl dL_law_710 g207.1 (y_ix_in g207.2) k) ?_
                                  obtain ⟨g206, hf⟩ := y_g hf
                                  obtain ⟨r196, h197, c198, hf⟩ := y_clE hf
                                  refine y_UcV0 (As := [.int (y_I h13 v0_18 (Int32.toNatClampNeg (v3_18 + 1))), .int (y_I h13 v0_18 (Int32.toNatClampNeg (v3_18 + 2)))]) (rm := rm_X11_look) (pc2 := 714) rfl dL_law_711 n_X11_look l_BoxYardLaw_65 i_X11_look e_X11_look (ci := 11) rfl rfl (by decide) g206 rfl rfl (by decide) (by decide) rfl rfl (k_X11_look c198) ?_
                                  refine y_lf (fun _ _ _ _ k => y_aload_n (x := v2_18) (pc2 := 715) rfl dL_law_714 rfl k) ?_
                                  refine y_lf (fun _ _ _ _ k => y_aload_n (x := v0_18) (pc2 := 716) rfl dL_law_715 rfl k) ?_
                                  refine y_lf (fun _ _ _ _ k => y_iload_n (pc2 := 717) rfl dL_law_716 rfl k) ?_
                                  refine y_lf (fun _ _ _ _ k => y_iconst (v := 1) (pc2 := 718) rfl dL_law_717 (by decide) k) ?_
                                  refine y_lf (fun _ _ _ _ k => y_iadd (pc2 := 719) rfl dL_law_718 k) ?_
                                  obtain ⟨g205, hf⟩ := y_g hf
                                  refine y_lf (fun _ _ _ _ k => y_ialdR (pc2 := 720) rfl dL_law_719 g205.1 (y_ix_in g205.2) k) ?_
                                  refine y_lf (fun _ _ _ _ k => y_aload_n (x := v0_18) (pc2 := 721) rfl dL_law_720 rfl k) ?_
                                  refine y_lf (fun _ _ _ _ k => y_iload_n (pc2 := 722) rfl dL_law_721 rfl k) ?_
                                  refine y_lf (fun _ _ _ _ k => y_iconst (v := 2) (pc2 := 723) rfl dL_law_722 (by decide) k) ?_
                                  refine y_lf (fun _ _ _ _ k => y_iadd (pc2 := 724) rfl dL_law_723 k) ?_
                                  obtain ⟨g204, hf⟩ := y_g hf
                                  refine y_lf (fun _ _ _ _ k => y_ialdR (pc2 := 725) rfl dL_law_724 g204.1 (y_ix_in g204.2) k) ?_
                                  obtain ⟨g203, hf⟩ := y_g hf
                                  obtain ⟨r199, h200, c201, hf⟩ := y_clE hf
                                  refine y_UcV0 (As := [.int (y_I h197 v0_18 (Int32.toNatClampNeg (v3_18 + 1))), .int (y_I h197 v0_18 (Int32.toNatClampNeg (v3_18 + 2)))]) (rm := rm_X12_look) (pc2 := 728) rfl dL_law_725 n_X12_look l_BoxYardLaw_68 i_X12_look e_X12_look (ci := 12) rfl rfl (by decide) g203 rfl rfl (by decide) (by simp [y_ci, y_cj, y_p_cat]) rfl rfl (k_X12_look c201) ?_
                                  refine y_lf2 (Classical.em _) (fun _ _ k1 k2 => y_icmp_eq (tgt := 1753) (pc2 := 731) rfl dL_law_728 (by decide) k1 k2) (fun c202 => ?_) (fun c202 => ?_)
                                  · replace hf := y_it c202 hf
                                    exact y_lf (fun _ _ _ _ k => y_pk [0, 1, 2, 3] rfl k) (hj1753 _ _ _ _ _ _ _ hf)
                                  · replace hf := y_ie c202 hf
                                    refine y_lf (fun _ _ _ _ k => y_iconst (v := 0) (pc2 := 732) rfl dL_law_731 (by decide) k) ?_
                                    exact y_zretU (x := false) hf dL_law_732 rfl
                                · replace hf := y_ie c195 hf
                                  by_cases c209 : ((y_I h13 v0_18 (Int32.toNatClampNeg v3_18)) &&& 63) = 13
                                  · replace hf := y_it c209 hf
                                    refine y_lf (fun _ _ _ _ k => y_table (off := 700) (tgt := 733) dL_law_33 (by (rw [c209]) <;> decide) (by decide) k) ?_
                                    refine y_lf (fun _ _ _ _ k => y_aload_n (x := v1_18) (pc2 := 734) rfl dL_law_733 rfl k) ?_
                                    refine y_lf (fun _ _ _ _ k => y_aload_n (x := v0_18) (pc2 := 735) rfl dL_law_734 rfl k) ?_
                                    refine y_lf (fun _ _ _ _ k => y_iload_n (pc2 := 736) rfl dL_law_735 rfl k) ?_
                                    refine y_lf (fun _ _ _ _ k => y_iconst (v := 1) (pc2 := 737) rfl dL_law_736 (by decide) k) ?_
                                    refine y_lf (fun _ _ _ _ k => y_iadd (pc2 := 738) rfl dL_law_737 k) ?_
                                    obtain ⟨g222, hf⟩ := y_g hf
                                    refine y_lf (fun _ _ _ _ k => y_ialdR (pc2 := 739) rfl dL_law_738 g222.1 (y_ix_in g222.2) k) ?_
                                    refine y_lf (fun _ _ _ _ k => y_aload_n (x := v0_18) (pc2 := 740) rfl dL_law_739 rfl k) ?_
                                    refine y_lf (fun _ _ _ _ k => y_iload_n (pc2 := 741) rfl dL_law_740 rfl k) ?_
                                    refine y_lf (fun _ _ _ _ k => y_iconst (v := 2) (pc2 := 742) rfl dL_law_741 (by decide) k) ?_
                                    refine y_lf (fun _ _ _ _ k => y_iadd (pc2 := 743) rfl dL_law_742 k) ?_
                                    obtain ⟨g221, hf⟩ := y_g hf
                                    refine y_lf (fun _ _ _ _ k => y_ialdR (pc2 := 744) rfl dL_law_743 g221.1 (y_ix_in g221.2) k) ?_
                                    obtain ⟨g220, hf⟩ := y_g hf
                                    obtain ⟨r210, h211, c212, hf⟩ := y_clE hf
                                    refine y_UcV0 (As := [.int (y_I h13 v0_18 (Int32.toNatClampNeg (v3_18 + 1))), .int (y_I h13 v0_18 (Int32.toNatClampNeg (v3_18 + 2)))]) (rm := rm_X11_may) (pc2 := 747) rfl dL_law_744 n_X11_may l_BoxYardLaw_69 i_X11_may e_X11_may (ci := 11) rfl rfl (by decide) g220 rfl rfl (by decide) (by decide) rfl rfl (k_X11_may c212) ?_
                                    refine y_lf (fun _ _ _ _ k => y_aload_n (x := v2_18) (pc2 := 748) rfl dL_law_747 rfl k) ?_
                                    refine y_lf (fun _ _ _ _ k => y_aload_n (x := v0_18) (pc2 := 749) rfl dL_law_748 rfl k) ?_
                                    refine y_lf (fun _ _ _ _ k => y_iload_n (pc2 := 750) rfl dL_law_749 rfl k) ?_
                                    refine y_lf (fun _ _ _ _ k => y_iconst (v := 1) (pc2 := 751) rfl dL_law_750 (by decide) k) ?_
                                    refine y_lf (fun _ _ _ _ k => y_iadd (pc2 := 752) rfl dL_law_751 k) ?_
                                    obtain ⟨g219, hf⟩ := y_g hf
                                    refine y_lf (fun _ _ _ _ k => y_ialdR (pc2 := 753) rfl dL_law_752 g219.1 (y_ix_in g219.2) k) ?_
                                    refine y_lf (fun _ _ _ _ k => y_aload_n (x := v0_18) (pc2 := 754) rfl dL_law_753 rfl k) ?_
                                    refine y_lf (fun _ _ _ _ k => y_iload_n (pc2 := 755) rfl dL_law_754 rfl k) ?_
                                    refine y_lf (fun _ _ _ _ k => y_iconst (v := 2) (pc2 := 756) rfl dL_law_755 (by decide) k) ?_
                                    refine y_lf (fun _ _ _ _ k => y_iadd (pc2 := 757) rfl dL_law_756 k) ?_
                                    obtain ⟨g218, hf⟩ := y_g hf
                                    refine y_lf (fun _ _ _ _ k => y_ialdR (pc2 := 758) rfl dL_law_757 g218.1 (y_ix_in g218.2) k) ?_
                                    obtain ⟨g217, hf⟩ := y_g hf
                                    obtain ⟨r213, h214, c215, hf⟩ := y_clE hf
                                    refine y_UcV0 (As := [.int (y_I h211 v0_18 (Int32.toNatClampNeg (v3_18 + 1))), .int (y_I h211 v0_18 (Int32.toNatClampNeg (v3_18 + 2)))]) (rm := rm_X12_may) (pc2 := 761) rfl dL_law_758 n_X12_may l_BoxYardLaw_72 i_X12_may e_X12_may (ci := 12) rfl rfl (by decide) g217 rfl rfl (by decide) (by simp [y_ci, y_cj, y_p_cat]) rfl rfl (k_X12_may c215) ?_
                                    refine y_lf2 (Classical.em _) (fun _ _ k1 k2 => y_icmp_eq (tgt := 1753) (pc2 := 764) rfl dL_law_761 (by decide) k1 k2) (fun c216 => ?_) (fun c216 => ?_)
                                    · replace hf := y_it c216 hf
                                      exact y_lf (fun _ _ _ _ k => y_pk [0, 1, 2, 3] rfl k) (hj1753 _ _ _ _ _ _ _ hf)
                                    · replace hf := y_ie c216 hf
                                      refine y_lf (fun _ _ _ _ k => y_iconst (v := 0) (pc2 := 765) rfl dL_law_764 (by decide) k) ?_
                                      exact y_zretU (x := false) hf dL_law_765 rfl
                                  · replace hf := y_ie c209 hf
                                    by_cases c223 : ((y_I h13 v0_18 (Int32.toNatClampNeg v3_18)) &&& 63) = 14
                                    · replace hf := y_it c223 hf
                                      refine y_lf (fun _ _ _ _ k => y_table (off := 733) (tgt := 766) dL_law_33 (by (rw [c223]) <;> decide) (by decide) k) ?_
                                      refine y_lf (fun _ _ _ _ k => y_aload_n (x := v1_18) (pc2 := 767) rfl dL_law_766 rfl k) ?_
                                      refine y_lf (fun _ _ _ _ k => y_aload_n (x := v0_18) (pc2 := 768) rfl dL_law_767 rfl k) ?_
                                      refine y_lf (fun _ _ _ _ k => y_iload_n (pc2 := 769) rfl dL_law_768 rfl k) ?_
                                      refine y_lf (fun _ _ _ _ k => y_iconst (v := 1) (pc2 := 770) rfl dL_law_769 (by decide) k) ?_
                                      refine y_lf (fun _ _ _ _ k => y_iadd (pc2 := 771) rfl dL_law_770 k) ?_
                                      obtain ⟨g236, hf⟩ := y_g hf
                                      refine y_lf (fun _ _ _ _ k => y_ialdR (pc2 := 772) rfl dL_law_771 g236.1 (y_ix_in g236.2) k) ?_
                                      refine y_lf (fun _ _ _ _ k => y_aload_n (x := v0_18) (pc2 := 773) rfl dL_law_772 rfl k) ?_
                                      refine y_lf (fun _ _ _ _ k => y_iload_n (pc2 := 774) rfl dL_law_773 rfl k) ?_
                                      refine y_lf (fun _ _ _ _ k => y_iconst (v := 2) (pc2 := 775) rfl dL_law_774 (by decide) k) ?_
                                      refine y_lf (fun _ _ _ _ k => y_iadd (pc2 := 776) rfl dL_law_775 k) ?_
                                      obtain ⟨g235, hf⟩ := y_g hf
                                      refine y_lf (fun _ _ _ _ k => y_ialdR (pc2 := 777) rfl dL_law_776 g235.1 (y_ix_in g235.2) k) ?_
                                      obtain ⟨g234, hf⟩ := y_g hf
                                      obtain ⟨r224, h225, c226, hf⟩ := y_clE hf
                                      refine y_UcallV (As := [.int (y_I h13 v0_18 (Int32.toNatClampNeg (v3_18 + 1))), .int (y_I h13 v0_18 (Int32.toNatClampNeg (v3_18 + 2)))]) (pc2 := 780) rfl dL_law_777 n_X11_go l_BoxYardLaw_73 i_X11_go e_X11_go (ci := 11) rfl rfl (by decide) g234 rfl rfl (by decide) (by decide) (k_X11_go c226) ?_
                                      refine y_lf (fun _ _ _ _ k => y_aload_n (x := v2_18) (pc2 := 781) rfl dL_law_780 rfl k) ?_
                                      refine y_lf (fun _ _ _ _ k => y_aload_n (x := v0_18) (pc2 := 782) rfl dL_law_781 rfl k) ?_
                                      refine y_lf (fun _ _ _ _ k => y_iload_n (pc2 := 783) rfl dL_law_782 rfl k) ?_
                                      refine y_lf (fun _ _ _ _ k => y_iconst (v := 1) (pc2 := 784) rfl dL_law_783 (by decide) k) ?_
                                      refine y_lf (fun _ _ _ _ k => y_iadd (pc2 := 785) rfl dL_law_784 k) ?_
                                      obtain ⟨g233, hf⟩ := y_g hf
                                      refine y_lf (fun _ _ _ _ k => y_ialdR (pc2 := 786) rfl dL_law_785 g233.1 (y_ix_in g233.2) k) ?_
                                      refine y_lf (fun _ _ _ _ k => y_aload_n (x := v0_18) (pc2 := 787) rfl dL_law_786 rfl k) ?_
                                      refine y_lf (fun _ _ _ _ k => y_iload_n (pc2 := 788) rfl dL_law_787 rfl k) ?_
                                      refine y_lf (fun _ _ _ _ k => y_iconst (v := 2) (pc2 := 789) rfl dL_law_788 (by decide) k) ?_
                                      refine y_lf (fun _ _ _ _ k => y_iadd (pc2 := 790) rfl dL_law_789 k) ?_
                                      obtain ⟨g232, hf⟩ := y_g hf
                                      refine y_lf (fun _ _ _ _ k => y_ialdR (pc2 := 791) rfl dL_law_790 g232.1 (y_ix_in g232.2) k) ?_
                                      obtain ⟨g231, hf⟩ := y_g hf
                                      obtain ⟨r227, h228, c229, hf⟩ := y_clE hf
                                      refine y_UcV0 (As := [.int (y_I h225 v0_18 (Int32.toNatClampNeg (v3_18 + 1))), .int (y_I h225 v0_18 (Int32.toNatClampNeg (v3_18 + 2)))]) (rm := rm_X12_go) (pc2 := 794) rfl dL_law_791 n_X12_go l_BoxYardLaw_76 i_X12_go e_X12_go (ci := 12) rfl rfl (by decide) g231 rfl rfl (by decide) (by simp [y_ci, y_cj, y_p_cat]) rfl rfl (k_X12_go c229) ?_
                                      refine y_lf2 (Classical.em _) (fun _ _ k1 k2 => y_icmp_eq (tgt := 1753) (pc2 := 797) rfl dL_law_794 (by decide) k1 k2) (fun c230 => ?_) (fun c230 => ?_)
                                      · replace hf := y_it c230 hf
                                        exact y_lf (fun _ _ _ _ k => y_pk [0, 1, 2, 3] rfl k) (hj1753 _ _ _ _ _ _ _ hf)
                                      · replace hf := y_ie c230 hf
                                        refine y_lf (fun _ _ _ _ k => y_iconst (v := 0) (pc2 := 798) rfl dL_law_797 (by decide) k) ?_
                                        exact y_zretU (x := false) hf dL_law_798 rfl
                                    · replace hf := y_ie c223 hf
                                      by_cases c237 : ((y_I h13 v0_18 (Int32.toNatClampNeg v3_18)) &&& 63) = 15
                                      · replace hf := y_it c237 hf
                                        refine y_lf (fun _ _ _ _ k => y_table (off := 766) (tgt := 799) dL_law_33 (by (rw [c237]) <;> decide) (by decide) k) ?_
                                        refine y_lf (fun _ _ _ _ k => y_aload_n (x := v1_18) (pc2 := 800) rfl dL_law_799 rfl k) ?_
                                        refine y_lf (fun _ _ _ _ k => y_aload_n (x := v0_18) (pc2 := 801) rfl dL_law_800 rfl k) ?_
                                        refine y_lf (fun _ _ _ _ k => y_iload_n (pc2 := 802) rfl dL_law_801 rfl k) ?_
                                        refine y_lf (fun _ _ _ _ k => y_iconst (v := 1) (pc2 := 803) rfl dL_law_802 (by decide) k) ?_
                                        refine y_lf (fun _ _ _ _ k => y_iadd (pc2 := 804) rfl dL_law_803 k) ?_
                                        obtain ⟨g250, hf⟩ := y_g hf
                                        refine y_lf (fun _ _ _ _ k => y_ialdR (pc2 := 805) rfl dL_law_804 g250.1 (y_ix_in g250.2) k) ?_
                                        refine y_lf (fun _ _ _ _ k => y_aload_n (x := v0_18) (pc2 := 806) rfl dL_law_805 rfl k) ?_
                                        refine y_lf (fun _ _ _ _ k => y_iload_n (pc2 := 807) rfl dL_law_806 rfl k) ?_
                                        refine y_lf (fun _ _ _ _ k => y_iconst (v := 2) (pc2 := 808) rfl dL_law_807 (by decide) k) ?_
                                        refine y_lf (fun _ _ _ _ k => y_iadd (pc2 := 809) rfl dL_law_808 k) ?_
                                        obtain ⟨g249, hf⟩ := y_g hf
                                        refine y_lf (fun _ _ _ _ k => y_ialdR (pc2 := 810) rfl dL_law_809 g249.1 (y_ix_in g249.2) k) ?_
                                        obtain ⟨g248, hf⟩ := y_g hf
                                        obtain ⟨r238, h239, c240, hf⟩ := y_clE hf
                                        refine y_UcallV (As := [.int (y_I h13 v0_18 (Int32.toNatClampNeg (v3_18 + 1))), .int (y_I h13 v0_18 (Int32.toNatClampNeg (v3_18 + 2)))]) (pc2 := 813) rfl dL_law_810 n_X11_take l_BoxYardLaw_77 i_X11_take e_X11_take (ci := 11) rfl rfl (by decide) g248 rfl rfl (by decide) (by decide) (k_X11_take c240) ?_
                                        refine y_lf (fun _ _ _ _ k => y_aload_n (x := v2_18) (pc2 := 814) rfl dL_law_813 rfl k) ?_
                                        refine y_lf (fun _ _ _ _ k => y_aload_n (x := v0_18) (pc2 := 815) rfl dL_law_814 rfl k) ?_
                                        refine y_lf (fun _ _ _ _ k => y_iload_n (pc2 := 816) rfl dL_law_815 rfl k) ?_
                                        refine y_lf (fun _ _ _ _ k => y_iconst (v := 1) (pc2 := 817) rfl dL_law_816 (by decide) k) ?_
                                        refine y_lf (fun _ _ _ _ k => y_iadd (pc2 := 818) rfl dL_law_817 k) ?_
                                        obtain ⟨g247, hf⟩ := y_g hf
                                        refine y_lf (fun _ _ _ _ k => y_ialdR (pc2 := 819) rfl dL_law_818 g247.1 (y_ix_in g247.2) k) ?_
                                        refine y_lf (fun _ _ _ _ k => y_aload_n (x := v0_18) (pc2 := 820) rfl dL_law_819 rfl k) ?_
                                        refine y_lf (fun _ _ _ _ k => y_iload_n (pc2 := 821) rfl dL_law_820 rfl k) ?_
                                        refine y_lf (fun _ _ _ _ k => y_iconst (v := 2) (pc2 := 822) rfl dL_law_821 (by decide) k) ?_
                                        refine y_lf (fun _ _ _ _ k => y_iadd (pc2 := 823) rfl dL_law_822 k) ?_
                                        obtain ⟨g246, hf⟩ := y_g hf
                                        refine y_lf (fun _ _ _ _ k => y_ialdR (pc2 := 824) rfl dL_law_823 g246.1 (y_ix_in g246.2) k) ?_
                                        obtain ⟨g245, hf⟩ := y_g hf
                                        obtain ⟨r241, h242, c243, hf⟩ := y_clE hf
                                        refine y_UcV0 (As := [.int (y_I h239 v0_18 (Int32.toNatClampNeg (v3_18 + 1))), .int (y_I h239 v0_18 (Int32.toNatClampNeg (v3_18 + 2)))]) (rm := rm_X12_take) (pc2 := 827) rfl dL_law_824 n_X12_take l_BoxYardLaw_80 i_X12_take e_X12_take (ci := 12) rfl rfl (by decide) g245 rfl rfl (by decide) (by simp [y_ci, y_cj, y_p_cat]) rfl rfl (k_X12_take c243) ?_
                                        refine y_lf2 (Classical.em _) (fun _ _ k1 k2 => y_icmp_eq (tgt := 1753) (pc2 := 830) rfl dL_law_827 (by decide) k1 k2) (fun c244 => ?_) (fun c244 => ?_)
                                        · replace hf := y_it c244 hf
                                          exact y_lf (fun _ _ _ _ k => y_pk [0, 1, 2, 3] rfl k) (hj1753 _ _ _ _ _ _ _ hf)
                                        · replace hf := y_ie c244 hf
                                          refine y_lf (fun _ _ _ _ k => y_iconst (v := 0) (pc2 := 831) rfl dL_law_830 (by decide) k) ?_
                                          exact y_zretU (x := false) hf dL_law_831 rfl
                                      · replace hf := y_ie c237 hf
                                        by_cases c251 : ((y_I h13 v0_18 (Int32.toNatClampNeg v3_18)) &&& 63) = 16
                                        · replace hf := y_it c251 hf
                                          refine y_lf (fun _ _ _ _ k => y_table (off := 799) (tgt := 832) dL_law_33 (by (rw [c251]) <;> decide) (by decide) k) ?_
                                          refine y_lf (fun _ _ _ _ k => y_aload_n (x := v1_18) (pc2 := 833) rfl dL_law_832 rfl k) ?_
                                          refine y_lf (fun _ _ _ _ k => y_aload_n (x := v0_18) (pc2 := 834) rfl dL_law_833 rfl k) ?_
                                          refine y_lf (fun _ _ _ _ k => y_iload_n (pc2 := 835) rfl dL_law_834 rfl k) ?_
                                          refine y_lf (fun _ _ _ _ k => y_iconst (v := 1) (pc2 := 836) rfl dL_law_835 (by decide) k) ?_
                                          refine y_lf (fun _ _ _ _ k => y_iadd (pc2 := 837) rfl dL_law_836 k) ?_
                                          obtain ⟨g264, hf⟩ := y_g hf
                                          refine y_lf (fun _ _ _ _ k => y_ialdR (pc2 := 838) rfl dL_law_837 g264.1 (y_ix_in g264.2) k) ?_
                                          refine y_lf (fun _ _ _ _ k => y_aload_n (x := v0_18) (pc2 := 839) rfl dL_law_838 rfl k) ?_
                                          refine y_lf (fun _ _ _ _ k => y_iload_n (pc2 := 840) rfl dL_law_839 rfl k) ?_
                                          refine y_lf (fun _ _ _ _ k => y_iconst (v := 2) (pc2 := 841) rfl dL_law_840 (by decide) k) ?_
                                          refine y_lf (fun _ _ _ _ k => y_iadd (pc2 := 842) rfl dL_law_841 k) ?_
                                          obtain ⟨g263, hf⟩ := y_g hf
                                          refine y_lf (fun _ _ _ _ k => y_ialdR (pc2 := 843) rfl dL_law_842 g263.1 (y_ix_in g263.2) k) ?_
                                          obtain ⟨g262, hf⟩ := y_g hf
                                          obtain ⟨r252, h253, c254, hf⟩ := y_clE hf
                                          refine y_UcallV (As := [.int (y_I h13 v0_18 (Int32.toNatClampNeg (v3_18 + 1))), .int (y_I h13 v0_18 (Int32.toNatClampNeg (v3_18 + 2)))]) (pc2 := 846) rfl dL_law_843 n_X11_lift l_BoxYardLaw_81 i_X11_lift e_X11_lift (ci := 11) rfl rfl (by decide) g262 rfl rfl (by decide) (by decide) (k_X11_lift c254) ?_
                                          refine y_lf (fun _ _ _ _ k => y_aload_n (x := v2_18) (pc2 := 847) rfl dL_law_846 rfl k) ?_
                                          refine y_lf (fun _ _ _ _ k => y_aload_n (x := v0_18) (pc2 := 848) rfl dL_law_847 rfl k) ?_
                                          refine y_lf (fun _ _ _ _ k => y_iload_n (pc2 := 849) rfl dL_law_848 rfl k) ?_
                                          refine y_lf (fun _ _ _ _ k => y_iconst (v := 1) (pc2 := 850) rfl dL_law_849 (by decide) k) ?_
                                          refine y_lf (fun _ _ _ _ k => y_iadd (pc2 := 851) rfl dL_law_850 k) ?_
                                          obtain ⟨g261, hf⟩ := y_g hf
                                          refine y_lf (fun _ _ _ _ k => y_ialdR (pc2 := 852) rfl dL_law_851 g261.1 (y_ix_in g261.2) k) ?_
                                          refine y_lf (fun _ _ _ _ k => y_aload_n (x := v0_18) (pc2 := 853) rfl dL_law_852 rfl k) ?_
                                          refine y_lf (fun _ _ _ _ k => y_iload_n (pc2 := 854) rfl dL_law_853 rfl k) ?_
                                          refine y_lf (fun _ _ _ _ k => y_iconst (v := 2) (pc2 := 855) rfl dL_law_854 (by decide) k) ?_
                                          refine y_lf (fun _ _ _ _ k => y_iadd (pc2 := 856) rfl dL_law_855 k) ?_
                                          obtain ⟨g260, hf⟩ := y_g hf
                                          refine y_lf (fun _ _ _ _ k => y_ialdR (pc2 := 857) rfl dL_law_856 g260.1 (y_ix_in g260.2) k) ?_
                                          obtain ⟨g259, hf⟩ := y_g hf
                                          obtain ⟨r255, h256, c257, hf⟩ := y_clE hf
                                          refine y_UcV0 (As := [.int (y_I h253 v0_18 (Int32.toNatClampNeg (v3_18 + 1))), .int (y_I h253 v0_18 (Int32.toNatClampNeg (v3_18 + 2)))]) (rm := rm_X12_lift) (pc2 := 860) rfl dL_law_857 n_X12_lift l_BoxYardLaw_84 i_X12_lift e_X12_lift (ci := 12) rfl rfl (by decide) g259 rfl rfl (by decide) (by simp [y_ci, y_cj, y_p_cat]) rfl rfl (k_X12_lift c257) ?_
                                          refine y_lf2 (Classical.em _) (fun _ _ k1 k2 => y_icmp_eq (tgt := 1753) (pc2 := 863) rfl dL_law_860 (by decide) k1 k2) (fun c258 => ?_) (fun c258 => ?_)
                                          · replace hf := y_it c258 hf
                                            exact y_lf (fun _ _ _ _ k => y_pk [0, 1, 2, 3] rfl k) (hj1753 _ _ _ _ _ _ _ hf)
                                          · replace hf := y_ie c258 hf
                                            refine y_lf (fun _ _ _ _ k => y_iconst (v := 0) (pc2 := 864) rfl dL_law_863 (by decide) k) ?_
                                            exact y_zretU (x := false) hf dL_law_864 rfl
                                        · replace hf := y_ie c251 hf
                                          by_cases c265 : ((y_I h13 v0_18 (Int32.toNatClampNeg v3_18)) &&& 63) = 17
                                          · replace hf := y_it c265 hf
                                            refine y_lf (fun _ _ _ _ k => y_table (off := 832) (tgt := 865) dL_law_33 (by (rw [c265]) <;> decide) (by decide) k) ?_
                                            refine y_lf (fun _ _ _ _ k => y_aload_n (x := v1_18) (pc2 := 866) rfl dL_law_865 rfl k) ?_
                                            refine y_lf (fun _ _ _ _ k => y_aload_n (x := v0_18) (pc2 := 867) rfl dL_law_866 rfl k) ?_
                                            refine y_lf (fun _ _ _ _ k => y_iload_n (pc2 := 868) rfl dL_law_867 rfl k) ?_
                                            refine y_lf (fun _ _ _ _ k => y_iconst (v := 1) (pc2 := 869) rfl dL_law_868 (by decide) k) ?_
                                            refine y_lf (fun _ _ _ _ k => y_iadd (pc2 := 870) rfl dL_law_869 k) ?_
                                            obtain ⟨g278, hf⟩ := y_g hf
                                            refine y_lf (fun _ _ _ _ k => y_ialdR (pc2 := 871) rfl dL_law_870 g278.1 (y_ix_in g278.2) k) ?_
                                            refine y_lf (fun _ _ _ _ k => y_aload_n (x := v0_18) (pc2 := 872) rfl dL_law_871 rfl k) ?_
                                            refine y_lf (fun _ _ _ _ k => y_iload_n (pc2 := 873) rfl dL_law_872 rfl k) ?_
                                            refine y_lf (fun _ _ _ _ k => y_iconst (v := 2) (pc2 := 874) rfl dL_law_873 (by decide) k) ?_
                                            refine y_lf (fun _ _ _ _ k => y_iadd (pc2 := 875) rfl dL_law_874 k) ?_
                                            obtain ⟨g277, hf⟩ := y_g hf
                                            refine y_lf (fun _ _ _ _ k => y_ialdR (pc2 := 876) rfl dL_law_875 g277.1 (y_ix_in g277.2) k) ?_
                                            obtain ⟨g276, hf⟩ := y_g hf
                                            obtain ⟨r266, h267, c268, hf⟩ := y_clE hf
                                            refine y_UcallV (As := [.int (y_I h13 v0_18 (Int32.toNatClampNeg (v3_18 + 1))), .int (y_I h13 v0_18 (Int32.toNatClampNeg (v3_18 + 2)))]) (pc2 := 879) rfl dL_law_876 n_X11_set l_BoxYardLaw_85 i_X11_set e_X11_set (ci := 11) rfl rfl (by decide) g276 rfl rfl (by decide) (by decide) (k_X11_set c268) ?_
                                            refine y_lf (fun _ _ _ _ k => y_aload_n (x := v2_18) (pc2 := 880) rfl dL_law_879 rfl k) ?_
                                            refine y_lf (fun _ _ _ _ k => y_aload_n (x := v0_18) (pc2 := 881) rfl dL_law_880 rfl k) ?_
                                            refine y_lf (fun _ _ _ _ k => y_iload_n (pc2 := 882) rfl dL_law_881 rfl k) ?_
                                            refine y_lf (fun _ _ _ _ k => y_iconst (v := 1) (pc2 := 883) rfl dL_law_882 (by decide) k) ?_
                                            refine y_lf (fun _ _ _ _ k => y_iadd (pc2 := 884) rfl dL_law_883 k) ?_
                                            obtain ⟨g275, hf⟩ := y_g hf
                                            refine y_lf (fun _ _ _ _ k => y_ialdR (pc2 := 885) rfl dL_law_884 g275.1 (y_ix_in g275.2) k) ?_
                                            refine y_lf (fun _ _ _ _ k => y_aload_n (x := v0_18) (pc2 := 886) rfl dL_law_885 rfl k) ?_
                                            refine y_lf (fun _ _ _ _ k => y_iload_n (pc2 := 887) rfl dL_law_886 rfl k) ?_
                                            refine y_lf (fun _ _ _ _ k => y_iconst (v := 2) (pc2 := 888) rfl dL_law_887 (by decide) k) ?_
                                            refine y_lf (fun _ _ _ _ k => y_iadd (pc2 := 889) rfl dL_law_888 k) ?_
                                            obtain ⟨g274, hf⟩ := y_g hf
                                            refine y_lf (fun _ _ _ _ k => y_ialdR (pc2 := 890) rfl dL_law_889 g274.1 (y_ix_in g274.2) k) ?_
                                            obtain ⟨g273, hf⟩ := y_g hf
                                            obtain ⟨r269, h270, c271, hf⟩ := y_clE hf
                                            refine y_UcV0 (As := [.int (y_I h267 v0_18 (Int32.toNatClampNeg (v3_18 + 1))), .int (y_I h267 v0_18 (Int32.toNatClampNeg (v3_18 + 2)))]) (rm := rm_X12_set) (pc2 := 893) rfl dL_law_890 n_X12_set l_BoxYardLaw_88 i_X12_set e_X12_set (ci := 12) rfl rfl (by decide) g273 rfl rfl (by decide) (by simp [y_ci, y_cj, y_p_cat]) rfl rfl (k_X12_set c271) ?_
                                            refine y_lf2 (Classical.em _) (fun _ _ k1 k2 => y_icmp_eq (tgt := 1753) (pc2 := 896) rfl dL_law_893 (by decide) k1 k2) (fun c272 => ?_) (fun c272 => ?_)
                                            · replace hf := y_it c272 hf
                                              exact y_lf (fun _ _ _ _ k => y_pk [0, 1, 2, 3] rfl k) (hj1753 _ _ _ _ _ _ _ hf)
                                            · replace hf := y_ie c272 hf
                                              refine y_lf (fun _ _ _ _ k => y_iconst (v := 0) (pc2 := 897) rfl dL_law_896 (by decide) k) ?_
                                              exact y_zretU (x := false) hf dL_law_897 rfl
                                          · replace hf := y_ie c265 hf
                                            by_cases c279 : ((y_I h13 v0_18 (Int32.toNatClampNeg v3_18)) &&& 63) = 18
                                            · replace hf := y_it c279 hf
                                              refine y_lf (fun _ _ _ _ k => y_table (off := 865) (tgt := 898) dL_law_33 (by (rw [c279]) <;> decide) (by decide) k) ?_
                                              refine y_lf (fun _ _ _ _ k => y_aload_n (x := v1_18) (pc2 := 899) rfl dL_law_898 rfl k) ?_
                                              refine y_lf (fun _ _ _ _ k => y_aload_n (x := v0_18) (pc2 := 900) rfl dL_law_899 rfl k) ?_
                                              refine y_lf (fun _ _ _ _ k => y_iload_n (pc2 := 901) rfl dL_law_900 rfl k) ?_
                                              refine y_lf (fun _ _ _ _ k => y_iconst (v := 1) (pc2 := 902) rfl dL_law_901 (by decide) k) ?_
                                              refine y_lf (fun _ _ _ _ k => y_iadd (pc2 := 903) rfl dL_law_902 k) ?_
                                              obtain ⟨g290, hf⟩ := y_g hf
                                              refine y_lf (fun _ _ _ _ k => y_ialdR (pc2 := 904) rfl dL_law_903 g290.1 (y_ix_in g290.2) k) ?_
                                              obtain ⟨g289, hf⟩ := y_g hf
                                              obtain ⟨r280, h281, c282, hf⟩ := y_clE hf
                                              refine y_UcallV (As := [.int (y_I h13 v0_18 (Int32.toNatClampNeg (v3_18 + 1)))]) (pc2 := 907) rfl dL_law_904 n_X11_drop l_BoxYardLaw_89 i_X11_drop e_X11_drop (ci := 11) rfl rfl (by decide) g289 rfl rfl (by decide) (by decide) (k_X11_drop c282) ?_
                                              refine y_lf (fun _ _ _ _ k => y_aload_n (x := v2_18) (pc2 := 908) rfl dL_law_907 rfl k) ?_
                                              refine y_lf (fun _ _ _ _ k => y_aload_n (x := v0_18) (pc2 := 909) rfl dL_law_908 rfl k) ?_
                                              refine y_lf (fun _ _ _ _ k => y_iload_n (pc2 := 910) rfl dL_law_909 rfl k) ?_
                                              refine y_lf (fun _ _ _ _ k => y_iconst (v := 1) (pc2 := 911) rfl dL_law_910 (by decide) k) ?_
                                              refine y_lf (fun _ _ _ _ k => y_iadd (pc2 := 912) rfl dL_law_911 k) ?_
                                              obtain ⟨g288, hf⟩ := y_g hf
                                              refine y_lf (fun _ _ _ _ k => y_ialdR (pc2 := 913) rfl dL_law_912 g288.1 (y_ix_in g288.2) k) ?_
                                              obtain ⟨g287, hf⟩ := y_g hf
                                              obtain ⟨r283, h284, c285, hf⟩ := y_clE hf
                                              refine y_UcV0 (As := [.int (y_I h281 v0_18 (Int32.toNatClampNeg (v3_18 + 1)))]) (rm := rm_X12_drop) (pc2 := 916) rfl dL_law_913 n_X12_drop l_BoxYardLaw_92 i_X12_drop e_X12_drop (ci := 12) rfl rfl (by decide) g287 rfl rfl (by decide) (by simp [y_ci, y_cj, y_p_cat]) rfl rfl (k_X12_drop c285) ?_
                                              refine y_lf2 (Classical.em _) (fun _ _ k1 k2 => y_icmp_eq (tgt := 1753) (pc2 := 919) rfl dL_law_916 (by decide) k1 k2) (fun c286 => ?_) (fun c286 => ?_)
                                              · replace hf := y_it c286 hf
                                                exact y_lf (fun _ _ _ _ k => y_pk [0, 1, 2, 3] rfl k) (hj1753 _ _ _ _ _ _ _ hf)
                                              · replace hf := y_ie c286 hf
                                                refine y_lf (fun _ _ _ _ k => y_iconst (v := 0) (pc2 := 920) rfl dL_law_919 (by decide) k) ?_
                                                exact y_zretU (x := false) hf dL_law_920 rfl
                                            · replace hf := y_ie c279 hf
                                              by_cases c291 : ((y_I h13 v0_18 (Int32.toNatClampNeg v3_18)) &&& 63) = 19
                                              · replace hf := y_it c291 hf
                                                refine y_lf (fun _ _ _ _ k => y_table (off := 888) (tgt := 921) dL_law_33 (by (rw [c291]) <;> decide) (by decide) k) ?_
                                                refine y_lf (fun _ _ _ _ k => y_aload_n (x := v1_18) (pc2 := 922) rfl dL_law_921 rfl k) ?_
                                                refine y_lf (fun _ _ _ _ k => y_aload_n (x := v0_18) (pc2 := 923) rfl dL_law_922 rfl k) ?_
                                                refine y_lf (fun _ _ _ _ k => y_iload_n (pc2 := 924) rfl dL_law_923 rfl k) ?_
                                                refine y_lf (fun _ _ _ _ k => y_iconst (v := 1) (pc2 := 925) rfl dL_law_924 (by decide) k) ?_
                                                refine y_lf (fun _ _ _ _ k => y_iadd (pc2 := 926) rfl dL_law_925 k) ?_
                                                obtain ⟨g302, hf⟩ := y_g hf
                                                refine y_lf (fun _ _ _ _ k => y_ialdR (pc2 := 927) rfl dL_law_926 g302.1 (y_ix_in g302.2) k) ?_
                                                obtain ⟨g301, hf⟩ := y_g hf
                                                obtain ⟨r292, h293, c294, hf⟩ := y_clE hf
                                                refine y_UcallV (As := [.int (y_I h13 v0_18 (Int32.toNatClampNeg (v3_18 + 1)))]) (pc2 := 930) rfl dL_law_927 n_X11_load l_BoxYardLaw_93 i_X11_load e_X11_load (ci := 11) rfl rfl (by decide) g301 rfl rfl (by decide) (by decide) (k_X11_load c294) ?_
                                                refine y_lf (fun _ _ _ _ k => y_aload_n (x := v2_18) (pc2 := 931) rfl dL_law_930 rfl k) ?_
                                                refine y_lf (fun _ _ _ _ k => y_aload_n (x := v0_18) (pc2 := 932) rfl dL_law_931 rfl k) ?_
                                                refine y_lf (fun _ _ _ _ k => y_iload_n (pc2 := 933) rfl dL_law_932 rfl k) ?_
                                                refine y_lf (fun _ _ _ _ k => y_iconst (v := 1) (pc2 := 934) rfl dL_law_933 (by decide) k) ?_
                                                refine y_lf (fun _ _ _ _ k => y_iadd (pc2 := 935) rfl dL_law_934 k) ?_
                                                obtain ⟨g300, hf⟩ := y_g hf
                                                refine y_lf (fun _ _ _ _ k => y_ialdR (pc2 := 936) rfl dL_law_935 g300.1 (y_ix_in g300.2) k) ?_
                                                obtain ⟨g299, hf⟩ := y_g hf
                                                obtain ⟨r295, h296, c297, hf⟩ := y_clE hf
                                                refine y_UcV0 (As := [.int (y_I h293 v0_18 (Int32.toNatClampNeg (v3_18 + 1)))]) (rm := rm_X12_load) (pc2 := 939) rfl dL_law_936 n_X12_load l_BoxYardLaw_96 i_X12_load e_X12_load (ci := 12) rfl rfl (by decide) g299 rfl rfl (by decide) (by simp [y_ci, y_cj, y_p_cat]) rfl rfl (k_X12_load c297) ?_
                                                refine y_lf2 (Classical.em _) (fun _ _ k1 k2 => y_icmp_eq (tgt := 1753) (pc2 := 942) rfl dL_law_939 (by decide) k1 k2) (fun c298 => ?_) (fun c298 => ?_)
                                                · replace hf := y_it c298 hf
                                                  exact y_lf (fun _ _ _ _ k => y_pk [0, 1, 2, 3] rfl k) (hj1753 _ _ _ _ _ _ _ hf)
                                                · replace hf := y_ie c298 hf
                                                  refine y_lf (fun _ _ _ _ k => y_iconst (v := 0) (pc2 := 943) rfl dL_law_942 (by decide) k) ?_
                                                  exact y_zretU (x := false) hf dL_law_943 rfl
                                              · replace hf := y_ie c291 hf
                                                by_cases c303 : ((y_I h13 v0_18 (Int32.toNatClampNeg v3_18)) &&& 63) = 20
                                                · replace hf := y_it c303 hf
                                                  refine y_lf (fun _ _ _ _ k => y_table (off := 911) (tgt := 944) dL_law_33 (by (rw [c303]) <;> decide) (by decide) k) ?_
                                                  refine y_lf (fun _ _ _ _ k => y_aload_n (x := v1_18) (pc2 := 945) rfl dL_law_944 rfl k) ?_
                                                  refine y_lf (fun _ _ _ _ k => y_aload_n (x := v0_18) (pc2 := 946) rfl dL_law_945 rfl k) ?_
                                                  refine y_lf (fun _ _ _ _ k => y_iload_n (pc2 := 947) rfl dL_law_946 rfl k) ?_
                                                  refine y_lf (fun _ _ _ _ k => y_iconst (v := 1) (pc2 := 948) rfl dL_law_947 (by decide) k) ?_
                                                  refine y_lf (fun _ _ _ _ k => y_iadd (pc2 := 949) rfl dL_law_948 k) ?_
                                                  obtain ⟨g320, hf⟩ := y_g hf
                                                  refine y_lf (fun _ _ _ _ k => y_ialdR (pc2 := 950) rfl dL_law_949 g320.1 (y_ix_in g320.2) k) ?_
                                                  refine y_lf (fun _ _ _ _ k => y_aload_n (x := v0_18) (pc2 := 951) rfl dL_law_950 rfl k) ?_
                                                  refine y_lf (fun _ _ _ _ k => y_iload_n (pc2 := 952) rfl dL_law_951 rfl k) ?_
                                                  refine y_lf (fun _ _ _ _ k => y_iconst (v := 2) (pc2 := 953) rfl dL_law_952 (by decide) k) ?_
                                                  refine y_lf (fun _ _ _ _ k => y_iadd (pc2 := 954) rfl dL_law_953 k) ?_
                                                  obtain ⟨g319, hf⟩ := y_g hf
                                                  refine y_lf (fun _ _ _ _ k => y_ialdR (pc2 := 955) rfl dL_law_954 g319.1 (y_ix_in g319.2) k) ?_
                                                  refine y_lf (fun _ _ _ _ k => y_aload_n (x := v0_18) (pc2 := 956) rfl dL_law_955 rfl k) ?_
                                                  refine y_lf (fun _ _ _ _ k => y_iload_n (pc2 := 957) rfl dL_law_956 rfl k) ?_
                                                  refine y_lf (fun _ _ _ _ k => y_iconst (v := 3) (pc2 := 958) rfl dL_law_957 (by decide) k) ?_
                                                  refine y_lf (fun _ _ _ _ k => y_iadd (pc2 := 959) rfl dL_law_958 k) ?_
                                                  obtain ⟨g318, hf⟩ := y_g hf
                                                  refine y_lf (fun _ _ _ _ k => y_ialdR (pc2 := 960) rfl dL_law_959 g318.1 (y_ix_in g318.2) k) ?_
                                                  refine y_lf (fun _ _ _ _ k => y_aload_n (x := v0_18) (pc2 := 961) rfl dL_law_960 rfl k) ?_
                                                  refine y_lf (fun _ _ _ _ k => y_iload_n (pc2 := 962) rfl dL_law_961 rfl k) ?_
                                                  refine y_lf (fun _ _ _ _ k => y_iconst (v := 4) (pc2 := 963) rfl dL_law_962 (by decide) k) ?_
                                                  refine y_lf (fun _ _ _ _ k => y_iadd (pc2 := 964) rfl dL_law_963 k) ?_
                                                  obtain ⟨g317, hf⟩ := y_g hf
                                                  refine y_lf (fun _ _ _ _ k => y_ialdR (pc2 := 965) rfl dL_law_964 g317.1 (y_ix_in g317.2) k) ?_
                                                  obtain ⟨g316, hf⟩ := y_g hf
                                                  obtain ⟨r304, h305, c306, hf⟩ := y_clE hf
                                                  refine y_UcallV (As := [.int (y_I h13 v0_18 (Int32.toNatClampNeg (v3_18 + 1))), .int (y_I h13 v0_18 (Int32.toNatClampNeg (v3_18 + 2))), .int (y_I h13 v0_18 (Int32.toNatClampNeg (v3_18 + 3))), .int (y_I h13 v0_18 (Int32.toNatClampNeg (v3_18 + 4)))]) (pc2 := 968) rfl dL_law_965 n_X11_fetch l_BoxYardLaw_97 i_X11_fetch e_X11_fetch (ci := 11) rfl rfl (by decide) g316 rfl rfl (by decide) (by decide) (k_X11_fetch c306) ?_
                                                  refine y_lf (fun _ _ _ _ k => y_aload_n (x := v2_18) (pc2 := 969) rfl dL_law_968 rfl k) ?_
                                                  refine y_lf (fun _ _ _ _ k => y_aload_n (x := v0_18) (pc2 := 970) rfl dL_law_969 rfl k) ?_
                                                  refine y_lf (fun _ _ _ _ k => y_iload_n (pc2 := 971) rfl dL_law_970 rfl k) ?_
                                                  refine y_lf (fun _ _ _ _ k => y_iconst (v := 1) (pc2 := 972) rfl dL_law_971 (by decide) k) ?_
                                                  refine y_lf (fun _ _ _ _ k => y_iadd (pc2 := 973) rfl dL_law_972 k) ?_
                                                  obtain ⟨g315, hf⟩ := y_g hf
                                                  refine y_lf (fun _ _ _ _ k => y_ialdR (pc2 := 974) rfl dL_law_973 g315.1 (y_ix_in g315.2) k) ?_
                                                  refine y_lf (fun _ _ _ _ k => y_aload_n (x := v0_18) (pc2 := 975) rfl dL_law_974 rfl k) ?_
                                                  refine y_lf (fun _ _ _ _ k => y_iload_n (pc2 := 976) rfl dL_law_975 rfl k) ?_
                                                  refine y_lf (fun _ _ _ _ k => y_iconst (v := 2) (pc2 := 977) rfl dL_law_976 (by decide) k) ?_
                                                  refine y_lf (fun _ _ _ _ k => y_iadd (pc2 := 978) rfl dL_law_977 k) ?_
                                                  obtain ⟨g314, hf⟩ := y_g hf
                                                  refine y_lf (fun _ _ _ _ k => y_ialdR (pc2 := 979) rfl dL_law_978 g314.1 (y_ix_in g314.2) k) ?_
                                                  refine y_lf (fun _ _ _ _ k => y_aload_n (x := v0_18) (pc2 := 980) rfl dL_law_979 rfl k) ?_
                                                  refine y_lf (fun _ _ _ _ k => y_iload_n (pc2 := 981) rfl dL_law_980 rfl k) ?_
                                                  refine y_lf (fun _ _ _ _ k => y_iconst (v := 3) (pc2 := 982) rfl dL_law_981 (by decide) k) ?_
                                                  refine y_lf (fun _ _ _ _ k => y_iadd (pc2 := 983) rfl dL_law_982 k) ?_
                                                  obtain ⟨g313, hf⟩ := y_g hf
                                                  refine y_lf (fun _ _ _ _ k => y_ialdR (pc2 := 984) rfl dL_law_983 g313.1 (y_ix_in g313.2) k) ?_
                                                  refine y_lf (fun _ _ _ _ k => y_aload_n (x := v0_18) (pc2 := 985) rfl dL_law_984 rfl k) ?_
                                                  refine y_lf (fun _ _ _ _ k => y_iload_n (pc2 := 986) rfl dL_law_985 rfl k) ?_
                                                  refine y_lf (fun _ _ _ _ k => y_iconst (v := 4) (pc2 := 987) rfl dL_law_986 (by decide) k) ?_
                                                  refine y_lf (fun _ _ _ _ k => y_iadd (pc2 := 988) rfl dL_law_987 k) ?_
                                                  obtain ⟨g312, hf⟩ := y_g hf
                                                  refine y_lf (fun _ _ _ _ k => y_ialdR (pc2 := 989) rfl dL_law_988 g312.1 (y_ix_in g312.2) k) ?_
                                                  obtain ⟨g311, hf⟩ := y_g hf
                                                  obtain ⟨r307, h308, c309, hf⟩ := y_clE hf
                                                  refine y_UcV0 (As := [.int (y_I h305 v0_18 (Int32.toNatClampNeg (v3_18 + 1))), .int (y_I h305 v0_18 (Int32.toNatClampNeg (v3_18 + 2))), .int (y_I h305 v0_18 (Int32.toNatClampNeg (v3_18 + 3))), .int (y_I h305 v0_18 (Int32.toNatClampNeg (v3_18 + 4)))]) (rm := rm_X12_fetch) (pc2 := 992) rfl dL_law_989 n_X12_fetch l_BoxYardLaw_101 i_X12_fetch e_X12_fetch (ci := 12) rfl rfl (by decide) g311 rfl rfl (by decide) (by simp [y_ci, y_cj, y_p_cat]) rfl rfl (k_X12_fetch c309) ?_
                                                  refine y_lf2 (Classical.em _) (fun _ _ k1 k2 => y_icmp_eq (tgt := 1753) (pc2 := 995) rfl dL_law_992 (by decide) k1 k2) (fun c310 => ?_) (fun c310 => ?_)
                                                  · replace hf := y_it c310 hf
                                                    exact y_lf (fun _ _ _ _ k => y_pk [0, 1, 2, 3] rfl k) (hj1753 _ _ _ _ _ _ _ hf)
                                                  · replace hf := y_ie c310 hf
                                                    refine y_lf (fun _ _ _ _ k => y_iconst (v := 0) (pc2 := 996) rfl dL_law_995 (by decide) k) ?_
                                                    exact y_zretU (x := false) hf dL_law_996 rfl
                                                · replace hf := y_ie c303 hf
                                                  by_cases c321 : ((y_I h13 v0_18 (Int32.toNatClampNeg v3_18)) &&& 63) = 21
                                                  · replace hf := y_it c321 hf
                                                    refine y_lf (fun _ _ _ _ k => y_table (off := 964) (tgt := 997) dL_law_33 (by (rw [c321]) <;> decide) (by decide) k) ?_
                                                    refine y_lf (fun _ _ _ _ k => y_aload_n (x := v1_18) (pc2 := 998) rfl dL_law_997 rfl k) ?_
                                                    refine y_lf (fun _ _ _ _ k => y_aload_n (x := v0_18) (pc2 := 999) rfl dL_law_998 rfl k) ?_
                                                    refine y_lf (fun _ _ _ _ k => y_iload_n (pc2 := 1000) rfl dL_law_999 rfl k) ?_
                                                    refine y_lf (fun _ _ _ _ k => y_iconst (v := 1) (pc2 := 1001) rfl dL_law_1000 (by decide) k) ?_
                                                    refine y_lf (fun _ _ _ _ k => y_iadd (pc2 := 1002) rfl dL_law_1001 k) ?_
                                                    obtain ⟨g332, hf⟩ := y_g hf
                                                    refine y_lf (fun _ _ _ _ k => y_ialdR (pc2 := 1003) rfl dL_law_1002 g332.1 (y_ix_in g332.2) k) ?_
                                                    obtain ⟨g331, hf⟩ := y_g hf
                                                    obtain ⟨r322, h323, c324, hf⟩ := y_clE hf
                                                    refine y_UcallV (As := [.int (y_I h13 v0_18 (Int32.toNatClampNeg (v3_18 + 1)))]) (pc2 := 1006) rfl dL_law_1003 n_X11_serve l_BoxYardLaw_102 i_X11_serve e_X11_serve (ci := 11) rfl rfl (by decide) g331 rfl rfl (by decide) (by decide) (k_X11_serve c324) ?_
                                                    refine y_lf (fun _ _ _ _ k => y_aload_n (x := v2_18) (pc2 := 1007) rfl dL_law_1006 rfl k) ?_
                                                    refine y_lf (fun _ _ _ _ k => y_aload_n (x := v0_18) (pc2 := 1008) rfl dL_law_1007 rfl k) ?_
                                                    refine y_lf (fun _ _ _ _ k => y_iload_n (pc2 := 1009) rfl dL_law_1008 rfl k) ?_
                                                    refine y_lf (fun _ _ _ _ k => y_iconst (v := 1) (pc2 := 1010) rfl dL_law_1009 (by decide) k) ?_
                                                    refine y_lf (fun _ _ _ _ k => y_iadd (pc2 := 1011) rfl dL_law_1010 k) ?_
                                                    obtain ⟨g330, hf⟩ := y_g hf
                                                    refine y_lf (fun _ _ _ _ k => y_ialdR (pc2 := 1012) rfl dL_law_1011 g330.1 (y_ix_in g330.2) k) ?_
                                                    obtain ⟨g329, hf⟩ := y_g hf
                                                    obtain ⟨r325, h326, c327, hf⟩ := y_clE hf
                                                    refine y_UcV0 (As := [.int (y_I h323 v0_18 (Int32.toNatClampNeg (v3_18 + 1)))]) (rm := rm_X12_serve) (pc2 := 1015) rfl dL_law_1012 n_X12_serve l_BoxYardLaw_105 i_X12_serve e_X12_serve (ci := 12) rfl rfl (by decide) g329 rfl rfl (by decide) (by simp [y_ci, y_cj, y_p_cat]) rfl rfl (k_X12_serve c327) ?_
                                                    refine y_lf2 (Classical.em _) (fun _ _ k1 k2 => y_icmp_eq (tgt := 1753) (pc2 := 1018) rfl dL_law_1015 (by decide) k1 k2) (fun c328 => ?_) (fun c328 => ?_)
                                                    · replace hf := y_it c328 hf
                                                      exact y_lf (fun _ _ _ _ k => y_pk [0, 1, 2, 3] rfl k) (hj1753 _ _ _ _ _ _ _ hf)
                                                    · replace hf := y_ie c328 hf
                                                      refine y_lf (fun _ _ _ _ k => y_iconst (v := 0) (pc2 := 1019) rfl dL_law_1018 (by decide) k) ?_
                                                      exact y_zretU (x := false) hf dL_law_1019 rfl
                                                  · replace hf := y_ie c321 hf
                                                    by_cases c333 : ((y_I h13 v0_18 (Int32.toNatClampNeg v3_18)) &&& 63) = 22
                                                    · replace hf := y_it c333 hf
                                                      refine y_lf (fun _ _ _ _ k => y_table (off := 987) (tgt := 1020) dL_law_33 (by (rw [c333]) <;> decide) (by decide) k) ?_
                                                      refine y_lf (fun _ _ _ _ k => y_aload_n (x := v1_18) (pc2 := 1021) rfl dL_law_1020 rfl k) ?_
                                                      refine y_lf (fun _ _ _ _ k => y_aload_n (x := v0_18) (pc2 := 1022) rfl dL_law_1021 rfl k) ?_
                                                      refine y_lf (fun _ _ _ _ k => y_iload_n (pc2 := 1023) rfl dL_law_1022 rfl k) ?_
                                                      refine y_lf (fun _ _ _ _ k => y_iconst (v := 1) (pc2 := 1024) rfl dL_law_1023 (by decide) k) ?_
                                                      refine y_lf (fun _ _ _ _ k => y_iadd (pc2 := 1025) rfl dL_law_1024 k) ?_
                                                      obtain ⟨g350, hf⟩ := y_g hf
                                                      refine y_lf (fun _ _ _ _ k => y_ialdR (pc2 := 1026) rfl dL_law_1025 g350.1 (y_ix_in g350.2) k) ?_
                                                      refine y_lf (fun _ _ _ _ k => y_aload_n (x := v0_18) (pc2 := 1027) rfl dL_law_1026 rfl k) ?_
                                                      refine y_lf (fun _ _ _ _ k => y_iload_n (pc2 := 1028) rfl dL_law_1027 rfl k) ?_
                                                      refine y_lf (fun _ _ _ _ k => y_iconst (v := 2) (pc2 := 1029) rfl dL_law_1028 (by decide) k) ?_
                                                      refine y_lf (fun _ _ _ _ k => y_iadd (pc2 := 1030) rfl dL_law_1029 k) ?_
                                                      obtain ⟨g349, hf⟩ := y_g hf
                                                      refine y_lf (fun _ _ _ _ k => y_ialdR (pc2 := 1031) rfl dL_law_1030 g349.1 (y_ix_in g349.2) k) ?_
                                                      refine y_lf (fun _ _ _ _ k => y_aload_n (x := v0_18) (pc2 := 1032) rfl dL_law_1031 rfl k) ?_
                                                      refine y_lf (fun _ _ _ _ k => y_iload_n (pc2 := 1033) rfl dL_law_1032 rfl k) ?_
                                                      refine y_lf (fun _ _ _ _ k => y_iconst (v := 3) (pc2 := 1034) rfl dL_law_1033 (by decide) k) ?_
                                                      refine y_lf (fun _ _ _ _ k => y_iadd (pc2 := 1035) rfl dL_law_1034 k) ?_
                                                      obtain ⟨g348, hf⟩ := y_g hf
                                                      refine y_lf (fun _ _ _ _ k => y_ialdR (pc2 := 1036) rfl dL_law_1035 g348.1 (y_ix_in g348.2) k) ?_
                                                      refine y_lf (fun _ _ _ _ k => y_aload_n (x := v0_18) (pc2 := 1037) rfl dL_law_1036 rfl k) ?_
                                                      refine y_lf (fun _ _ _ _ k => y_iload_n (pc2 := 1038) rfl dL_law_1037 rfl k) ?_
                                                      refine y_lf (fun _ _ _ _ k => y_iconst (v := 4) (pc2 := 1039) rfl dL_law_1038 (by decide) k) ?_
                                                      refine y_lf (fun _ _ _ _ k => y_iadd (pc2 := 1040) rfl dL_law_1039 k) ?_
                                                      obtain ⟨g347, hf⟩ := y_g hf
                                                      refine y_lf (fun _ _ _ _ k => y_ialdR (pc2 := 1041) rfl dL_law_1040 g347.1 (y_ix_in g347.2) k) ?_
                                                      obtain ⟨g346, hf⟩ := y_g hf
                                                      obtain ⟨r334, h335, c336, hf⟩ := y_clE hf
                                                      refine y_UcallV (As := [.int (y_I h13 v0_18 (Int32.toNatClampNeg (v3_18 + 1))), .int (y_I h13 v0_18 (Int32.toNatClampNeg (v3_18 + 2))), .int (y_I h13 v0_18 (Int32.toNatClampNeg (v3_18 + 3))), .int (y_I h13 v0_18 (Int32.toNatClampNeg (v3_18 + 4)))]) (pc2 := 1044) rfl dL_law_1041 n_X11_ship l_BoxYardLaw_106 i_X11_ship e_X11_ship (ci := 11) rfl rfl (by decide) g346 rfl rfl (by decide) (by decide) (k_X11_ship c336) ?_
                                                      refine y_lf (fun _ _ _ _ k => y_aload_n (x := v2_18) (pc2 := 1045) rfl dL_law_1044 rfl k) ?_
                                                      refine y_lf (fun _ _ _ _ k => y_aload_n (x := v0_18) (pc2 := 1046) rfl dL_law_1045 rfl k) ?_
                                                      refine y_lf (fun _ _ _ _ k => y_iload_n (pc2 := 1047) rfl dL_law_1046 rfl k) ?_
                                                      refine y_lf (fun _ _ _ _ k => y_iconst (v := 1) (pc2 := 1048) rfl dL_law_1047 (by decide) k) ?_
                                                      refine y_lf (fun _ _ _ _ k => y_iadd (pc2 := 1049) rfl dL_law_1048 k) ?_
                                                      obtain ⟨g345, hf⟩ := y_g hf
                                                      refine y_lf (fun _ _ _ _ k => y_ialdR (pc2 := 1050) rfl dL_law_1049 g345.1 (y_ix_in g345.2) k) ?_
                                                      refine y_lf (fun _ _ _ _ k => y_aload_n (x := v0_18) (pc2 := 1051) rfl dL_law_1050 rfl k) ?_
                                                      refine y_lf (fun _ _ _ _ k => y_iload_n (pc2 := 1052) rfl dL_law_1051 rfl k) ?_
                                                      refine y_lf (fun _ _ _ _ k => y_iconst (v := 2) (pc2 := 1053) rfl dL_law_1052 (by decide) k) ?_
                                                      refine y_lf (fun _ _ _ _ k => y_iadd (pc2 := 1054) rfl dL_law_1053 k) ?_
                                                      obtain ⟨g344, hf⟩ := y_g hf
                                                      refine y_lf (fun _ _ _ _ k => y_ialdR (pc2 := 1055) rfl dL_law_1054 g344.1 (y_ix_in g344.2) k) ?_
                                                      refine y_lf (fun _ _ _ _ k => y_aload_n (x := v0_18) (pc2 := 1056) rfl dL_law_1055 rfl k) ?_
                                                      refine y_lf (fun _ _ _ _ k => y_iload_n (pc2 := 1057) rfl dL_law_1056 rfl k) ?_
                                                      refine y_lf (fun _ _ _ _ k => y_iconst (v := 3) (pc2 := 1058) rfl dL_law_1057 (by decide) k) ?_
                                                      refine y_lf (fun _ _ _ _ k => y_iadd (pc2 := 1059) rfl dL_law_1058 k) ?_
                                                      obtain ⟨g343, hf⟩ := y_g hf
                                                      refine y_lf (fun _ _ _ _ k => y_ialdR (pc2 := 1060) rfl dL_law_1059 g343.1 (y_ix_in g343.2) k) ?_
                                                      refine y_lf (fun _ _ _ _ k => y_aload_n (x := v0_18) (pc2 := 1061) rfl dL_law_1060 rfl k) ?_
                                                      refine y_lf (fun _ _ _ _ k => y_iload_n (pc2 := 1062) rfl dL_law_1061 rfl k) ?_
                                                      refine y_lf (fun _ _ _ _ k => y_iconst (v := 4) (pc2 := 1063) rfl dL_law_1062 (by decide) k) ?_
                                                      refine y_lf (fun _ _ _ _ k => y_iadd (pc2 := 1064) rfl dL_law_1063 k) ?_
                                                      obtain ⟨g342, hf⟩ := y_g hf
                                                      refine y_lf (fun _ _ _ _ k => y_ialdR (pc2 := 1065) rfl dL_law_1064 g342.1 (y_ix_in g342.2) k) ?_
                                                      obtain ⟨g341, hf⟩ := y_g hf
                                                      obtain ⟨r337, h338, c339, hf⟩ := y_clE hf
                                                      refine y_UcV0 (As := [.int (y_I h335 v0_18 (Int32.toNatClampNeg (v3_18 + 1))), .int (y_I h335 v0_18 (Int32.toNatClampNeg (v3_18 + 2))), .int (y_I h335 v0_18 (Int32.toNatClampNeg (v3_18 + 3))), .int (y_I h335 v0_18 (Int32.toNatClampNeg (v3_18 + 4)))]) (rm := rm_X12_ship) (pc2 := 1068) rfl dL_law_1065 n_X12_ship l_BoxYardLaw_109 i_X12_ship e_X12_ship (ci := 12) rfl rfl (by decide) g341 rfl rfl (by decide) (by simp [y_ci, y_cj, y_p_cat]) rfl rfl (k_X12_ship c339) ?_
                                                      refine y_lf2 (Classical.em _) (fun _ _ k1 k2 => y_icmp_eq (tgt := 1753) (pc2 := 1071) rfl dL_law_1068 (by decide) k1 k2) (fun c340 => ?_) (fun c340 => ?_)
                                                      · replace hf := y_it c340 hf
                                                        exact y_lf (fun _ _ _ _ k => y_pk [0, 1, 2, 3] rfl k) (hj1753 _ _ _ _ _ _ _ hf)
                                                      · replace hf := y_ie c340 hf
                                                        refine y_lf (fun _ _ _ _ k => y_iconst (v := 0) (pc2 := 1072) rfl dL_law_1071 (by decide) k) ?_
                                                        exact y_zretU (x := false) hf dL_law_1072 rfl
                                                    · replace hf := y_ie c333 hf
                                                      by_cases c351 : ((y_I h13 v0_18 (Int32.toNatClampNeg v3_18)) &&& 63) = 23
                                                      · replace hf := y_it c351 hf
                                                        refine y_lf (fun _ _ _ _ k => y_table (off := 1040) (tgt := 1073) dL_law_33 (by (rw [c351]) <;> decide) (by decide) k) ?_
                                                        refine y_lf (fun _ _ _ _ k => y_aload_n (x := v1_18) (pc2 := 1074) rfl dL_law_1073 rfl k) ?_
                                                        refine y_lf (fun _ _ _ _ k => y_aload_n (x := v0_18) (pc2 := 1075) rfl dL_law_1074 rfl k) ?_
                                                        refine y_lf (fun _ _ _ _ k => y_iload_n (pc2 := 1076) rfl dL_law_1075 rfl k) ?_
                                                        refine y_lf (fun _ _ _ _ k => y_iconst (v := 1) (pc2 := 1077) rfl dL_law_1076 (by decide) k) ?_
                                                        refine y_lf (fun _ _ _ _ k => y_iadd (pc2 := 1078) rfl dL_law_1077 k) ?_
                                                        obtain ⟨g366, hf⟩ := y_g hf
                                                        refine y_lf (fun _ _ _ _ k => y_ialdR (pc2 := 1079) rfl dL_law_1078 g366.1 (y_ix_in g366.2) k) ?_
                                                        refine y_lf (fun _ _ _ _ k => y_aload_n (x := v0_18) (pc2 := 1080) rfl dL_law_1079 rfl k) ?_
                                                        refine y_lf (fun _ _ _ _ k => y_iload_n (pc2 := 1081) rfl dL_law_1080 rfl k) ?_
                                                        refine y_lf (fun _ _ _ _ k => y_iconst (v := 2) (pc2 := 1082) rfl dL_law_1081 (by decide) k) ?_
                                                        refine y_lf (fun _ _ _ _ k => y_iadd (pc2 := 1083) rfl dL_law_1082 k) ?_
                                                        obtain ⟨g365, hf⟩ := y_g hf
                                                        refine y_lf (fun _ _ _ _ k => y_ialdR (pc2 := 1084) rfl dL_law_1083 g365.1 (y_ix_in g365.2) k) ?_
                                                        refine y_lf (fun _ _ _ _ k => y_aload_n (x := v0_18) (pc2 := 1085) rfl dL_law_1084 rfl k) ?_
                                                        refine y_lf (fun _ _ _ _ k => y_iload_n (pc2 := 1086) rfl dL_law_1085 rfl k) ?_
                                                        refine y_lf (fun _ _ _ _ k => y_iconst (v := 3) (pc2 := 1087) rfl dL_law_1086 (by decide) k) ?_
                                                        refine y_lf (fun _ _ _ _ k => y_iadd (pc2 := 1088) rfl dL_law_1087 k) ?_
                                                        obtain ⟨g364, hf⟩ := y_g hf
                                                        refine y_lf (fun _ _ _ _ k => y_ialdR (pc2 := 1089) rfl dL_law_1088 g364.1 (y_ix_in g364.2) k) ?_
                                                        obtain ⟨g363, hf⟩ := y_g hf
                                                        obtain ⟨r352, h353, c354, hf⟩ := y_clE hf
                                                        refine y_UcV0 (As := [.int (y_I h13 v0_18 (Int32.toNatClampNeg (v3_18 + 1))), .int (y_I h13 v0_18 (Int32.toNatClampNeg (v3_18 + 2))), .int (y_I h13 v0_18 (Int32.toNatClampNeg (v3_18 + 3)))]) (rm := rm_X11_limit) (pc2 := 1092) rfl dL_law_1089 n_X11_limit l_BoxYardLaw_110 i_X11_limit e_X11_limit (ci := 11) rfl rfl (by decide) g363 rfl rfl (by decide) (by decide) rfl rfl (k_X11_limit c354) ?_
                                                        refine y_lf (fun _ _ _ _ k => y_aload_n (x := v2_18) (pc2 := 1093) rfl dL_law_1092 rfl k) ?_
                                                        refine y_lf (fun _ _ _ _ k => y_aload_n (x := v0_18) (pc2 := 1094) rfl dL_law_1093 rfl k) ?_
                                                        refine y_lf (fun _ _ _ _ k => y_iload_n (pc2 := 1095) rfl dL_law_1094 rfl k) ?_
                                                        refine y_lf (fun _ _ _ _ k => y_iconst (v := 1) (pc2 := 1096) rfl dL_law_1095 (by decide) k) ?_
                                                        refine y_lf (fun _ _ _ _ k => y_iadd (pc2 := 1097) rfl dL_law_1096 k) ?_
                                                        obtain ⟨g362, hf⟩ := y_g hf
                                                        refine y_lf (fun _ _ _ _ k => y_ialdR (pc2 := 1098) rfl dL_law_1097 g362.1 (y_ix_in g362.2) k) ?_
                                                        refine y_lf (fun _ _ _ _ k => y_aload_n (x := v0_18) (pc2 := 1099) rfl dL_law_1098 rfl k) ?_
                                                        refine y_lf (fun _ _ _ _ k => y_iload_n (pc2 := 1100) rfl dL_law_1099 rfl k) ?_
                                                        refine y_lf (fun _ _ _ _ k => y_iconst (v := 2) (pc2 := 1101) rfl dL_law_1100 (by decide) k) ?_
                                                        refine y_lf (fun _ _ _ _ k => y_iadd (pc2 := 1102) rfl dL_law_1101 k) ?_
                                                        obtain ⟨g361, hf⟩ := y_g hf
                                                        refine y_lf (fun _ _ _ _ k => y_ialdR (pc2 := 1103) rfl dL_law_1102 g361.1 (y_ix_in g361.2) k) ?_
                                                        refine y_lf (fun _ _ _ _ k => y_aload_n (x := v0_18) (pc2 := 1104) rfl dL_law_1103 rfl k) ?_
                                                        refine y_lf (fun _ _ _ _ k => y_iload_n (pc2 := 1105) rfl dL_law_1104 rfl k) ?_
                                                        refine y_lf (fun _ _ _ _ k => y_iconst (v := 3) (pc2 := 1106) rfl dL_law_1105 (by decide) k) ?_
                                                        refine y_lf (fun _ _ _ _ k => y_iadd (pc2 := 1107) rfl dL_law_1106 k) ?_
                                                        obtain ⟨g360, hf⟩ := y_g hf
                                                        refine y_lf (fun _ _ _ _ k => y_ialdR (pc2 := 1108) rfl dL_law_1107 g360.1 (y_ix_in g360.2) k) ?_
                                                        obtain ⟨g359, hf⟩ := y_g hf
                                                        obtain ⟨r355, h356, c357, hf⟩ := y_clE hf
                                                        refine y_UcV0 (As := [.int (y_I h353 v0_18 (Int32.toNatClampNeg (v3_18 + 1))), .int (y_I h353 v0_18 (Int32.toNatClampNeg (v3_18 + 2))), .int (y_I h353 v0_18 (Int32.toNatClampNeg (v3_18 + 3)))]) (rm := rm_X12_limit) (pc2 := 1111) rfl dL_law_1108 n_X12_limit l_BoxYardLaw_113 i_X12_limit e_X12_limit (ci := 12) rfl rfl (by decide) g359 rfl rfl (by decide) (by simp [y_ci, y_cj, y_p_cat]) rfl rfl (k_X12_limit c357) ?_
                                                        refine y_lf2 (Classical.em _) (fun _ _ k1 k2 => y_icmp_eq (tgt := 1753) (pc2 := 1114) rfl dL_law_1111 (by decide) k1 k2) (fun c358 => ?_) (fun c358 => ?_)
                                                        · replace hf := y_it c358 hf
                                                          exact y_lf (fun _ _ _ _ k => y_pk [0, 1, 2, 3] rfl k) (hj1753 _ _ _ _ _ _ _ hf)
                                                        · replace hf := y_ie c358 hf
                                                          refine y_lf (fun _ _ _ _ k => y_iconst (v := 0) (pc2 := 1115) rfl dL_law_1114 (by decide) k) ?_
                                                          exact y_zretU (x := false) hf dL_law_1115 rfl
                                                      · replace hf := y_ie c351 hf
                                                        by_cases c367 : ((y_I h13 v0_18 (Int32.toNatClampNeg v3_18)) &&& 63) = 24
                                                        · replace hf := y_it c367 hf
                                                          refine y_lf (fun _ _ _ _ k => y_table (off := 1083) (tgt := 1116) dL_law_33 (by (rw [c367]) <;> decide) (by decide) k) ?_
                                                          refine y_lf (fun _ _ _ _ k => y_aload_n (x := v1_18) (pc2 := 1117) rfl dL_law_1116 rfl k) ?_
                                                          refine y_lf (fun _ _ _ _ k => y_aload_n (x := v0_18) (pc2 := 1118) rfl dL_law_1117 rfl k) ?_
                                                          refine y_lf (fun _ _ _ _ k => y_iload_n (pc2 := 1119) rfl dL_law_1118 rfl k) ?_
                                                          refine y_lf (fun _ _ _ _ k => y_iconst (v := 1) (pc2 := 1120) rfl dL_law_1119 (by decide) k) ?_
                                                          refine y_lf (fun _ _ _ _ k => y_iadd (pc2 := 1121) rfl dL_law_1120 k) ?_
                                                          obtain ⟨g380, hf⟩ := y_g hf
                                                          refine y_lf (fun _ _ _ _ k => y_ialdR (pc2 := 1122) rfl dL_law_1121 g380.1 (y_ix_in g380.2) k) ?_
                                                          refine y_lf (fun _ _ _ _ k => y_aload_n (x := v0_18) (pc2 := 1123) rfl dL_law_1122 rfl k) ?_
                                                          refine y_lf (fun _ _ _ _ k => y_iload_n (pc2 := 1124) rfl dL_law_1123 rfl k) ?_
                                                          refine y_lf (fun _ _ _ _ k => y_iconst (v := 2) (pc2 := 1125) rfl dL_law_1124 (by decide) k) ?_
                                                          refine y_lf (fun _ _ _ _ k => y_iadd (pc2 := 1126) rfl dL_law_1125 k) ?_
                                                          obtain ⟨g379, hf⟩ := y_g hf
                                                          refine y_lf (fun _ _ _ _ k => y_ialdR (pc2 := 1127) rfl dL_law_1126 g379.1 (y_ix_in g379.2) k) ?_
                                                          obtain ⟨g378, hf⟩ := y_g hf
                                                          obtain ⟨r368, h369, c370, hf⟩ := y_clE hf
                                                          refine y_UcV0 (As := [.int (y_I h13 v0_18 (Int32.toNatClampNeg (v3_18 + 1))), .int (y_I h13 v0_18 (Int32.toNatClampNeg (v3_18 + 2)))]) (rm := rm_X11_route) (pc2 := 1130) rfl dL_law_1127 n_X11_route l_BoxYardLaw_114 i_X11_route e_X11_route (ci := 11) rfl rfl (by decide) g378 rfl rfl (by decide) (by decide) rfl rfl (k_X11_route c370) ?_
                                                          refine y_lf (fun _ _ _ _ k => y_aload_n (x := v2_18) (pc2 := 1131) rfl dL_law_1130 rfl k) ?_
                                                          refine y_lf (fun _ _ _ _ k => y_aload_n (x := v0_18) (pc2 := 1132) rfl dL_law_1131 rfl k) ?_
                                                          refine y_lf (fun _ _ _ _ k => y_iload_n (pc2 := 1133) rfl dL_law_1132 rfl k) ?_
                                                          refine y_lf (fun _ _ _ _ k => y_iconst (v := 1) (pc2 := 1134) rfl dL_law_1133 (by decide) k) ?_
                                                          refine y_lf (fun _ _ _ _ k => y_iadd (pc2 := 1135) rfl dL_law_1134 k) ?_
                                                          obtain ⟨g377, hf⟩ := y_g hf
                                                          refine y_lf (fun _ _ _ _ k => y_ialdR (pc2 := 1136) rfl dL_law_1135 g377.1 (y_ix_in g377.2) k) ?_
                                                          refine y_lf (fun _ _ _ _ k => y_aload_n (x := v0_18) (pc2 := 1137) rfl dL_law_1136 rfl k) ?_
                                                          refine y_lf (fun _ _ _ _ k => y_iload_n (pc2 := 1138) rfl dL_law_1137 rfl k) ?_
                                                          refine y_lf (fun _ _ _ _ k => y_iconst (v := 2) (pc2 := 1139) rfl dL_law_1138 (by decide) k) ?_
                                                          refine y_lf (fun _ _ _ _ k => y_iadd (pc2 := 1140) rfl dL_law_1139 k) ?_
                                                          obtain ⟨g376, hf⟩ := y_g hf
                                                          refine y_lf (fun _ _ _ _ k => y_ialdR (pc2 := 1141) rfl dL_law_1140 g376.1 (y_ix_in g376.2) k) ?_
                                                          obtain ⟨g375, hf⟩ := y_g hf
                                                          obtain ⟨r371, h372, c373, hf⟩ := y_clE hf
                                                          refine y_UcV0 (As := [.int (y_I h369 v0_18 (Int32.toNatClampNeg (v3_18 + 1))), .int (y_I h369 v0_18 (Int32.toNatClampNeg (v3_18 + 2)))]) (rm := rm_X12_route) (pc2 := 1144) rfl dL_law_1141 n_X12_route l_BoxYardLaw_117 i_X12_route e_X12_route (ci := 12) rfl rfl (by decide) g375 rfl rfl (by decide) (by simp [y_ci, y_cj, y_p_cat]) rfl rfl (k_X12_route c373) ?_
                                                          refine y_lf2 (Classical.em _) (fun _ _ k1 k2 => y_icmp_eq (tgt := 1753) (pc2 := 1147) rfl dL_law_1144 (by decide) k1 k2) (fun c374 => ?_) (fun c374 => ?_)
                                                          · replace hf := y_it c374 hf
                                                            exact y_lf (fun _ _ _ _ k => y_pk [0, 1, 2, 3] rfl k) (hj1753 _ _ _ _ _ _ _ hf)
                                                          · replace hf := y_ie c374 hf
                                                            refine y_lf (fun _ _ _ _ k => y_iconst (v := 0) (pc2 := 1148) rfl dL_law_1147 (by decide) k) ?_
                                                            exact y_zretU (x := false) hf dL_law_1148 rfl
                                                        · replace hf := y_ie c367 hf
                                                          by_cases c381 : ((y_I h13 v0_18 (Int32.toNatClampNeg v3_18)) &&& 63) = 25
                                                          · replace hf := y_it c381 hf
                                                            refine y_lf (fun _ _ _ _ k => y_table (off := 1116) (tgt := 1149) dL_law_33 (by (rw [c381]) <;> decide) (by decide) k) ?_
                                                            refine y_lf (fun _ _ _ _ k => y_aload_n (x := v1_18) (pc2 := 1150) rfl dL_law_1149 rfl k) ?_
                                                            refine y_lf (fun _ _ _ _ k => y_aload_n (x := v0_18) (pc2 := 1151) rfl dL_law_1150 rfl k) ?_
                                                            refine y_lf (fun _ _ _ _ k => y_iload_n (pc2 := 1152) rfl dL_law_1151 rfl k) ?_
                                                            refine y_lf (fun _ _ _ _ k => y_iconst (v := 1) (pc2 := 1153) rfl dL_law_1152 (by decide) k) ?_
                                                            refine y_lf (fun _ _ _ _ k => y_iadd (pc2 := 1154) rfl dL_law_1153 k) ?_
                                                            obtain ⟨g400, hf⟩ := y_g hf
                                                            refine y_lf (fun _ _ _ _ k => y_ialdR (pc2 := 1155) rfl dL_law_1154 g400.1 (y_ix_in g400.2) k) ?_
                                                            refine y_lf (fun _ _ _ _ k => y_aload_n (x := v0_18) (pc2 := 1156) rfl dL_law_1155 rfl k) ?_
                                                            refine y_lf (fun _ _ _ _ k => y_iload_n (pc2 := 1157) rfl dL_law_1156 rfl k) ?_
                                                            refine y_lf (fun _ _ _ _ k => y_iconst (v := 2) (pc2 := 1158) rfl dL_law_1157 (by decide) k) ?_
                                                            refine y_lf (fun _ _ _ _ k => y_iadd (pc2 := 1159) rfl dL_law_1158 k) ?_
                                                            obtain ⟨g399, hf⟩ := y_g hf
                                                            refine y_lf (fun _ _ _ _ k => y_ialdR (pc2 := 1160) rfl dL_law_1159 g399.1 (y_ix_in g399.2) k) ?_
                                                            refine y_lf (fun _ _ _ _ k => y_aload_n (x := v0_18) (pc2 := 1161) rfl dL_law_1160 rfl k) ?_
                                                            refine y_lf (fun _ _ _ _ k => y_iload_n (pc2 := 1162) rfl dL_law_1161 rfl k) ?_
                                                            refine y_lf (fun _ _ _ _ k => y_iconst (v := 3) (pc2 := 1163) rfl dL_law_1162 (by decide) k) ?_
                                                            refine y_lf (fun _ _ _ _ k => y_iadd (pc2 := 1164) rfl dL_law_1163 k) ?_
                                                            obtain ⟨g398, hf⟩ := y_g hf
                                                            refine y_lf (fun _ _ _ _ k => y_ialdR (pc2 := 1165) rfl dL_law_1164 g398.1 (y_ix_in g398.2) k) ?_
                                                            refine y_lf (fun _ _ _ _ k => y_aload_n (x := v0_18) (pc2 := 1166) rfl dL_law_1165 rfl k) ?_
                                                            refine y_lf (fun _ _ _ _ k => y_iload_n (pc2 := 1167) rfl dL_law_1166 rfl k) ?_
                                                            refine y_lf (fun _ _ _ _ k => y_iconst (v := 4) (pc2 := 1168) rfl dL_law_1167 (by decide) k) ?_
                                                            refine y_lf (fun _ _ _ _ k => y_iadd (pc2 := 1169) rfl dL_law_1168 k) ?_
                                                            obtain ⟨g397, hf⟩ := y_g hf
                                                            refine y_lf (fun _ _ _ _ k => y_ialdR (pc2 := 1170) rfl dL_law_1169 g397.1 (y_ix_in g397.2) k) ?_
                                                            refine y_lf (fun _ _ _ _ k => y_aload_n (x := v0_18) (pc2 := 1171) rfl dL_law_1170 rfl k) ?_
                                                            refine y_lf (fun _ _ _ _ k => y_iload_n (pc2 := 1172) rfl dL_law_1171 rfl k) ?_
                                                            refine y_lf (fun _ _ _ _ k => y_iconst (v := 5) (pc2 := 1173) rfl dL_law_1172 (by decide) k) ?_
                                                            refine y_lf (fun _ _ _ _ k => y_iadd (pc2 := 1174) rfl dL_law_1173 k) ?_
                                                            obtain ⟨g396, hf⟩ := y_g hf
                                                            refine y_lf (fun _ _ _ _ k => y_ialdR (pc2 := 1175) rfl dL_law_1174 g396.1 (y_ix_in g396.2) k) ?_
                                                            obtain ⟨g395, hf⟩ := y_g hf
                                                            obtain ⟨r382, h383, c384, hf⟩ := y_clE hf
                                                            refine y_UcV0 (As := [.int (y_I h13 v0_18 (Int32.toNatClampNeg (v3_18 + 1))), .int (y_I h13 v0_18 (Int32.toNatClampNeg (v3_18 + 2))), .int (y_I h13 v0_18 (Int32.toNatClampNeg (v3_18 + 3))), .int (y_I h13 v0_18 (Int32.toNatClampNeg (v3_18 + 4))), .int (y_I h13 v0_18 (Int32.toNatClampNeg (v3_18 + 5)))]) (rm := rm_X11_plan) (pc2 := 1178) rfl dL_law_1175 n_X11_plan l_BoxYardLaw_118 i_X11_plan e_X11_plan (ci := 11) rfl rfl (by decide) g395 rfl rfl (by decide) (by decide) rfl rfl (k_X11_plan c384) ?_
                                                            refine y_lf (fun _ _ _ _ k => y_aload_n (x := v2_18) (pc2 := 1179) rfl dL_law_1178 rfl k) ?_
                                                            refine y_lf (fun _ _ _ _ k => y_aload_n (x := v0_18) (pc2 := 1180) rfl dL_law_1179 rfl k) ?_
                                                            refine y_lf (fun _ _ _ _ k => y_iload_n (pc2 := 1181) rfl dL_law_1180 rfl k) ?_
                                                            refine y_lf (fun _ _ _ _ k => y_iconst (v := 1) (pc2 := 1182) rfl dL_law_1181 (by decide) k) ?_
                                                            refine y_lf (fun _ _ _ _ k => y_iadd (pc2 := 1183) rfl dL_law_1182 k) ?_
                                                            obtain ⟨g394, hf⟩ := y_g hf
                                                            refine y_lf (fun _ _ _ _ k => y_ialdR (pc2 := 1184) rfl dL_law_1183 g394.1 (y_ix_in g394.2) k) ?_
                                                            refine y_lf (fun _ _ _ _ k => y_aload_n (x := v0_18) (pc2 := 1185) rfl dL_law_1184 rfl k) ?_
                                                            refine y_lf (fun _ _ _ _ k => y_iload_n (pc2 := 1186) rfl dL_law_1185 rfl k) ?_
                                                            refine y_lf (fun _ _ _ _ k => y_iconst (v := 2) (pc2 := 1187) rfl dL_law_1186 (by decide) k) ?_
                                                            refine y_lf (fun _ _ _ _ k => y_iadd (pc2 := 1188) rfl dL_law_1187 k) ?_
                                                            obtain ⟨g393, hf⟩ := y_g hf
                                                            refine y_lf (fun _ _ _ _ k => y_ialdR (pc2 := 1189) rfl dL_law_1188 g393.1 (y_ix_in g393.2) k) ?_
                                                            refine y_lf (fun _ _ _ _ k => y_aload_n (x := v0_18) (pc2 := 1190) rfl dL_law_1189 rfl k) ?_
                                                            refine y_lf (fun _ _ _ _ k => y_iload_n (pc2 := 1191) rfl dL_law_1190 rfl k) ?_
                                                            refine y_lf (fun _ _ _ _ k => y_iconst (v := 3) (pc2 := 1192) rfl dL_law_1191 (by decide) k) ?_
                                                            refine y_lf (fun _ _ _ _ k => y_iadd (pc2 := 1193) rfl dL_law_1192 k) ?_
                                                            obtain ⟨g392, hf⟩ := y_g hf
                                                            refine y_lf (fun _ _ _ _ k => y_ialdR (pc2 := 1194) rfl dL_law_1193 g392.1 (y_ix_in g392.2) k) ?_
                                                            refine y_lf (fun _ _ _ _ k => y_aload_n (x := v0_18) (pc2 := 1195) rfl dL_law_1194 rfl k) ?_
                                                            refine y_lf (fun _ _ _ _ k => y_iload_n (pc2 := 1196) rfl dL_law_1195 rfl k) ?_
                                                            refine y_lf (fun _ _ _ _ k => y_iconst (v := 4) (pc2 := 1197) rfl dL_law_1196 (by decide) k) ?_
                                                            refine y_lf (fun _ _ _ _ k => y_iadd (pc2 := 1198) rfl dL_law_1197 k) ?_
                                                            obtain ⟨g391, hf⟩ := y_g hf
                                                            refine y_lf (fun _ _ _ _ k => y_ialdR (pc2 := 1199) rfl dL_law_1198 g391.1 (y_ix_in g391.2) k) ?_
                                                            refine y_lf (fun _ _ _ _ k => y_aload_n (x := v0_18) (pc2 := 1200) rfl dL_law_1199 rfl k) ?_
                                                            refine y_lf (fun _ _ _ _ k => y_iload_n (pc2 := 1201) rfl dL_law_1200 rfl k) ?_
                                                            refine y_lf (fun _ _ _ _ k => y_iconst (v := 5) (pc2 := 1202) rfl dL_law_1201 (by decide) k) ?_
                                                            refine y_lf (fun _ _ _ _ k => y_iadd (pc2 := 1203) rfl dL_law_1202 k) ?_
                                                            obtain ⟨g390, hf⟩ := y_g hf
                                                            refine y_lf (fun _ _ _ _ k => y_ialdR (pc2 := 1204) rfl dL_law_1203 g390.1 (y_ix_in g390.2) k) ?_
                                                            obtain ⟨g389, hf⟩ := y_g hf
                                                            obtain ⟨r385, h386, c387, hf⟩ := y_clE hf
                                                            refine y_UcV0 (As := [.int (y_I h383 v0_18 (Int32.toNatClampNeg (v3_18 + 1))), .int (y_I h383 v0_18 (Int32.toNatClampNeg (v3_18 + 2))), .int (y_I h383 v0_18 (Int32.toNatClampNeg (v3_18 + 3))), .int (y_I h383 v0_18 (Int32.toNatClampNeg (v3_18 + 4))), .int (y_I h383 v0_18 (Int32.toNatClampNeg (v3_18 + 5)))]) (rm := rm_X12_plan) (pc2 := 1207) rfl dL_law_1204 n_X12_plan l_BoxYardLaw_121 i_X12_plan e_X12_plan (ci := 12) rfl rfl (by decide) g389 rfl rfl (by decide) (by simp [y_ci, y_cj, y_p_cat]) rfl rfl (k_X12_plan c387) ?_
                                                            refine y_lf2 (Classical.em _) (fun _ _ k1 k2 => y_icmp_eq (tgt := 1753) (pc2 := 1210) rfl dL_law_1207 (by decide) k1 k2) (fun c388 => ?_) (fun c388 => ?_)
                                                            · replace hf := y_it c388 hf
                                                              exact y_lf (fun _ _ _ _ k => y_pk [0, 1, 2, 3] rfl k) (hj1753 _ _ _ _ _ _ _ hf)
                                                            · replace hf := y_ie c388 hf
                                                              refine y_lf (fun _ _ _ _ k => y_iconst (v := 0) (pc2 := 1211) rfl dL_law_1210 (by decide) k) ?_
                                                              exact y_zretU (x := false) hf dL_law_1211 rfl
                                                          · replace hf := y_ie c381 hf
                                                            by_cases c401 : ((y_I h13 v0_18 (Int32.toNatClampNeg v3_18)) &&& 63) = 26
                                                            · replace hf := y_it c401 hf
                                                              refine y_lf (fun _ _ _ _ k => y_table (off := 1179) (tgt := 1212) dL_law_33 (by (rw [c401]) <;> decide) (by decide) k) ?_
                                                              refine y_lf (fun _ _ _ _ k => y_aload_n (x := v1_18) (pc2 := 1213) rfl dL_law_1212 rfl k) ?_
                                                              refine y_lf (fun _ _ _ _ k => y_aload_n (x := v0_18) (pc2 := 1214) rfl dL_law_1213 rfl k) ?_
                                                              refine y_lf (fun _ _ _ _ k => y_iload_n (pc2 := 1215) rfl dL_law_1214 rfl k) ?_
                                                              refine y_lf (fun _ _ _ _ k => y_iconst (v := 1) (pc2 := 1216) rfl dL_law_1215 (by decide) k) ?_
                                                              refine y_lf (fun _ _ _ _ k => y_iadd (pc2 := 1217) rfl dL_law_1216 k) ?_
                                                              obtain ⟨g414, hf⟩ := y_g hf
                                                              refine y_lf (fun _ _ _ _ k => y_ialdR (pc2 := 1218) rfl dL_law_1217 g414.1 (y_ix_in g414.2) k) ?_
                                                              refine y_lf (fun _ _ _ _ k => y_aload_n (x := v0_18) (pc2 := 1219) rfl dL_law_1218 rfl k) ?_
                                                              refine y_lf (fun _ _ _ _ k => y_iload_n (pc2 := 1220) rfl dL_law_1219 rfl k) ?_
                                                              refine y_lf (fun _ _ _ _ k => y_iconst (v := 2) (pc2 := 1221) rfl dL_law_1220 (by decide) k) ?_
                                                              refine y_lf (fun _ _ _ _ k => y_iadd (pc2 := 1222) rfl dL_law_1221 k) ?_
                                                              obtain ⟨g413, hf⟩ := y_g hf
                                                              refine y_lf (fun _ _ _ _ k => y_ialdR (pc2 := 1223) rfl dL_law_1222 g413.1 (y_ix_in g413.2) k) ?_
                                                              obtain ⟨g412, hf⟩ := y_g hf
                                                              obtain ⟨r402, h403, c404, hf⟩ := y_clE hf
                                                              refine y_UcV0 (As := [.int (y_I h13 v0_18 (Int32.toNatClampNeg (v3_18 + 1))), .int (y_I h13 v0_18 (Int32.toNatClampNeg (v3_18 + 2)))]) (rm := rm_X11_sum) (pc2 := 1226) rfl dL_law_1223 n_X11_sum l_BoxYardLaw_122 i_X11_sum e_X11_sum (ci := 11) rfl rfl (by decide) g412 rfl rfl (by decide) (by decide) rfl rfl (k_X11_sum c404) ?_
                                                              refine y_lf (fun _ _ _ _ k => y_aload_n (x := v2_18) (pc2 := 1227) rfl dL_law_1226 rfl k) ?_
                                                              refine y_lf (fun _ _ _ _ k => y_aload_n (x := v0_18) (pc2 := 1228) rfl dL_law_1227 rfl k) ?_
                                                              refine y_lf (fun _ _ _ _ k => y_iload_n (pc2 := 1229) rfl dL_law_1228 rfl k) ?_
                                                              refine y_lf (fun _ _ _ _ k => y_iconst (v := 1) (pc2 := 1230) rfl dL_law_1229 (by decide) k) ?_
                                                              refine y_lf (fun _ _ _ _ k => y_iadd (pc2 := 1231) rfl dL_law_1230 k) ?_
                                                              obtain ⟨g411, hf⟩ := y_g hf
                                                              refine y_lf (fun _ _ _ _ k => y_ialdR (pc2 := 1232) rfl dL_law_1231 g411.1 (y_ix_in g411.2) k) ?_
                                                              refine y_lf (fun _ _ _ _ k => y_aload_n (x := v0_18) (pc2 := 1233) rfl dL_law_1232 rfl k) ?_
                                                              refine y_lf (fun _ _ _ _ k => y_iload_n (pc2 := 1234) rfl dL_law_1233 rfl k) ?_
                                                              refine y_lf (fun _ _ _ _ k => y_iconst (v := 2) (pc2 := 1235) rfl dL_law_1234 (by decide) k) ?_
                                                              refine y_lf (fun _ _ _ _ k => y_iadd (pc2 := 1236) rfl dL_law_1235 k) ?_
                                                              obtain ⟨g410, hf⟩ := y_g hf
                                                              refine y_lf (fun _ _ _ _ k => y_ialdR (pc2 := 1237) rfl dL_law_1236 g410.1 (y_ix_in g410.2) k) ?_
                                                              obtain ⟨g409, hf⟩ := y_g hf
                                                              obtain ⟨r405, h406, c407, hf⟩ := y_clE hf
                                                              refine y_UcV0 (As := [.int (y_I h403 v0_18 (Int32.toNatClampNeg (v3_18 + 1))), .int (y_I h403 v0_18 (Int32.toNatClampNeg (v3_18 + 2)))]) (rm := rm_X12_sum) (pc2 := 1240) rfl dL_law_1237 n_X12_sum l_BoxYardLaw_125 i_X12_sum e_X12_sum (ci := 12) rfl rfl (by decide) g409 rfl rfl (by decide) (by simp [y_ci, y_cj, y_p_cat]) rfl rfl (k_X12_sum c407) ?_
                                                              refine y_lf2 (Classical.em _) (fun _ _ k1 k2 => y_icmp_eq (tgt := 1753) (pc2 := 1243) rfl dL_law_1240 (by decide) k1 k2) (fun c408 => ?_) (fun c408 => ?_)
                                                              · replace hf := y_it c408 hf
                                                                exact y_lf (fun _ _ _ _ k => y_pk [0, 1, 2, 3] rfl k) (hj1753 _ _ _ _ _ _ _ hf)
                                                              · replace hf := y_ie c408 hf
                                                                refine y_lf (fun _ _ _ _ k => y_iconst (v := 0) (pc2 := 1244) rfl dL_law_1243 (by decide) k) ?_
                                                                exact y_zretU (x := false) hf dL_law_1244 rfl
                                                            · replace hf := y_ie c401 hf
                                                              by_cases c415 : ((y_I h13 v0_18 (Int32.toNatClampNeg v3_18)) &&& 63) = 27
                                                              · replace hf := y_it c415 hf
                                                                refine y_lf (fun _ _ _ _ k => y_table (off := 1212) (tgt := 1245) dL_law_33 (by (rw [c415]) <;> decide) (by decide) k) ?_
                                                                refine y_lf (fun _ _ _ _ k => y_aload_n (x := v1_18) (pc2 := 1246) rfl dL_law_1245 rfl k) ?_
                                                                refine y_lf (fun _ _ _ _ k => y_aload_n (x := v0_18) (pc2 := 1247) rfl dL_law_1246 rfl k) ?_
                                                                refine y_lf (fun _ _ _ _ k => y_iload_n (pc2 := 1248) rfl dL_law_1247 rfl k) ?_
                                                                refine y_lf (fun _ _ _ _ k => y_iconst (v := 1) (pc2 := 1249) rfl dL_law_1248 (by decide) k) ?_
                                                                refine y_lf (fun _ _ _ _ k => y_iadd (pc2 := 1250) rfl dL_law_1249 k) ?_
                                                                obtain ⟨g426, hf⟩ := y_g hf
                                                                refine y_lf (fun _ _ _ _ k => y_ialdR (pc2 := 1251) rfl dL_law_1250 g426.1 (y_ix_in g426.2) k) ?_
                                                                obtain ⟨g425, hf⟩ := y_g hf
                                                                obtain ⟨r416, h417, c418, hf⟩ := y_clE hf
                                                                refine y_UcV0 (As := [.int (y_I h13 v0_18 (Int32.toNatClampNeg (v3_18 + 1)))]) (rm := rm_X11_mean) (pc2 := 1254) rfl dL_law_1251 n_X11_mean l_BoxYardLaw_126 i_X11_mean e_X11_mean (ci := 11) rfl rfl (by decide) g425 rfl rfl (by decide) (by decide) rfl rfl (k_X11_mean c418) ?_
                                                                refine y_lf (fun _ _ _ _ k => y_aload_n (x := v2_18) (pc2 := 1255) rfl dL_law_1254 rfl k) ?_
                                                                refine y_lf (fun _ _ _ _ k => y_aload_n (x := v0_18) (pc2 := 1256) rfl dL_law_1255 rfl k) ?_
                                                                refine y_lf (fun _ _ _ _ k => y_iload_n (pc2 := 1257) rfl dL_law_1256 rfl k) ?_
                                                                refine y_lf (fun _ _ _ _ k => y_iconst (v := 1) (pc2 := 1258) rfl dL_law_1257 (by decide) k) ?_
                                                                refine y_lf (fun _ _ _ _ k => y_iadd (pc2 := 1259) rfl dL_law_1258 k) ?_
                                                                obtain ⟨g424, hf⟩ := y_g hf
                                                                refine y_lf (fun _ _ _ _ k => y_ialdR (pc2 := 1260) rfl dL_law_1259 g424.1 (y_ix_in g424.2) k) ?_
                                                                obtain ⟨g423, hf⟩ := y_g hf
                                                                obtain ⟨r419, h420, c421, hf⟩ := y_clE hf
                                                                refine y_UcV0 (As := [.int (y_I h417 v0_18 (Int32.toNatClampNeg (v3_18 + 1)))]) (rm := rm_X12_mean) (pc2 := 1263) rfl dL_law_1260 n_X12_mean l_BoxYardLaw_129 i_X12_mean e_X12_mean (ci := 12) rfl rfl (by decide) g423 rfl rfl (by decide) (by simp [y_ci, y_cj, y_p_cat]) rfl rfl (k_X12_mean c421) ?_
                                                                refine y_lf2 (Classical.em _) (fun _ _ k1 k2 => y_icmp_eq (tgt := 1753) (pc2 := 1266) rfl dL_law_1263 (by decide) k1 k2) (fun c422 => ?_) (fun c422 => ?_)
                                                                · replace hf := y_it c422 hf
                                                                  exact y_lf (fun _ _ _ _ k => y_pk [0, 1, 2, 3] rfl k) (hj1753 _ _ _ _ _ _ _ hf)
                                                                · replace hf := y_ie c422 hf
                                                                  refine y_lf (fun _ _ _ _ k => y_iconst (v := 0) (pc2 := 1267) rfl dL_law_1266 (by decide) k) ?_
                                                                  exact y_zretU (x := false) hf dL_law_1267 rfl
                                                              · replace hf := y_ie c415 hf
                                                                by_cases c427 : ((y_I h13 v0_18 (Int32.toNatClampNeg v3_18)) &&& 63) = 28
                                                                · replace hf := y_it c427 hf
                                                                  refine y_lf (fun _ _ _ _ k => y_table (off := 1235) (tgt := 1268) dL_law_33 (by (rw [c427]) <;> decide) (by decide) k) ?_
                                                                  refine y_lf (fun _ _ _ _ k => y_aload_n (x := v1_18) (pc2 := 1269) rfl dL_law_1268 rfl k) ?_
                                                                  refine y_lf (fun _ _ _ _ k => y_aload_n (x := v0_18) (pc2 := 1270) rfl dL_law_1269 rfl k) ?_
                                                                  refine y_lf (fun _ _ _ _ k => y_iload_n (pc2 := 1271) rfl dL_law_1270 rfl k) ?_
                                                                  refine y_lf (fun _ _ _ _ k => y_iconst (v := 1) (pc2 := 1272) rfl dL_law_1271 (by decide) k) ?_
                                                                  refine y_lf (fun _ _ _ _ k => y_iadd (pc2 := 1273) rfl dL_law_1272 k) ?_
                                                                  obtain ⟨g438, hf⟩ := y_g hf
                                                                  refine y_lf (fun _ _ _ _ k => y_ialdR (pc2 := 1274) rfl dL_law_1273 g438.1 (y_ix_in g438.2) k) ?_
                                                                  obtain ⟨g437, hf⟩ := y_g hf
                                                                  obtain ⟨r428, h429, c430, hf⟩ := y_clE hf
                                                                  refine y_UcV0 (As := [.int (y_I h13 v0_18 (Int32.toNatClampNeg (v3_18 + 1)))]) (rm := rm_X11_stable) (pc2 := 1277) rfl dL_law_1274 n_X11_stable l_BoxYardLaw_130 i_X11_stable e_X11_stable (ci := 11) rfl rfl (by decide) g437 rfl rfl (by decide) (by decide) rfl rfl (k_X11_stable c430) ?_
                                                                  refine y_lf (fun _ _ _ _ k => y_aload_n (x := v2_18) (pc2 := 1278) rfl dL_law_1277 rfl k) ?_
                                                                  refine y_lf (fun _ _ _ _ k => y_aload_n (x := v0_18) (pc2 := 1279) rfl dL_law_1278 rfl k) ?_
                                                                  refine y_lf (fun _ _ _ _ k => y_iload_n (pc2 := 1280) rfl dL_law_1279 rfl k) ?_
                                                                  refine y_lf (fun _ _ _ _ k => y_iconst (v := 1) (pc2 := 1281) rfl dL_law_1280 (by decide) k) ?_
                                                                  refine y_lf (fun _ _ _ _ k => y_iadd (pc2 := 1282) rfl dL_law_1281 k) ?_
                                                                  obtain ⟨g436, hf⟩ := y_g hf
                                                                  refine y_lf (fun _ _ _ _ k => y_ialdR (pc2 := 1283) rfl dL_law_1282 g436.1 (y_ix_in g436.2) k) ?_
                                                                  obtain ⟨g435, hf⟩ := y_g hf
                                                                  obtain ⟨r431, h432, c433, hf⟩ := y_clE hf
                                                                  refine y_UcV0 (As := [.int (y_I h429 v0_18 (Int32.toNatClampNeg (v3_18 + 1)))]) (rm := rm_X12_stable) (pc2 := 1286) rfl dL_law_1283 n_X12_stable l_BoxYardLaw_133 i_X12_stable e_X12_stable (ci := 12) rfl rfl (by decide) g435 rfl rfl (by decide) (by simp [y_ci, y_cj, y_p_cat]) rfl rfl (k_X12_stable c433) ?_
                                                                  refine y_lf2 (Classical.em _) (fun _ _ k1 k2 => y_icmp_eq (tgt := 1753) (pc2 := 1289) rfl dL_law_1286 (by decide) k1 k2) (fun c434 => ?_) (fun c434 => ?_)
                                                                  · replace hf := y_it c434 hf
                                                                    exact y_lf (fun _ _ _ _ k => y_pk [0, 1, 2, 3] rfl k) (hj1753 _ _ _ _ _ _ _ hf)
                                                                  · replace hf := y_ie c434 hf
                                                                    refine y_lf (fun _ _ _ _ k => y_iconst (v := 0) (pc2 := 1290) rfl dL_law_1289 (by decide) k) ?_
                                                                    exact y_zretU (x := false) hf dL_law_1290 rfl
                                                                · replace hf := y_ie c427 hf
                                                                  by_cases c439 : ((y_I h13 v0_18 (Int32.toNatClampNeg v3_18)) &&& 63) = 29
                                                                  · replace hf := y_it c439 hf
                                                                    refine y_lf (fun _ _ _ _ k => y_table (off := 1258) (tgt := 1291) dL_law_33 (by (rw [c439]) <;> decide) (by decide) k) ?_
                                                                    refine y_lf (fun _ _ _ _ k => y_aload_n (x := v1_18) (pc2 := 1292) rfl dL_law_1291 rfl k) ?_
                                                                    refine y_lf (fun _ _ _ _ k => y_aload_n (x := v0_18) (pc2 := 1293) rfl dL_law_1292 rfl k) ?_
                                                                    refine y_lf (fun _ _ _ _ k => y_iload_n (pc2 := 1294) rfl dL_law_1293 rfl k) ?_
                                                                    refine y_lf (fun _ _ _ _ k => y_iconst (v := 1) (pc2 := 1295) rfl dL_law_1294 (by decide) k) ?_
                                                                    refine y_lf (fun _ _ _ _ k => y_iadd (pc2 := 1296) rfl dL_law_1295 k) ?_
                                                                    obtain ⟨g450, hf⟩ := y_g hf
                                                                    refine y_lf (fun _ _ _ _ k => y_ialdR (pc2 := 1297) rfl dL_law_1296 g450.1 (y_ix_in g450.2) k) ?_
                                                                    obtain ⟨g449, hf⟩ := y_g hf
                                                                    obtain ⟨r440, h441, c442, hf⟩ := y_clE hf
                                                                    refine y_UcV0 (As := [.int (y_I h13 v0_18 (Int32.toNatClampNeg (v3_18 + 1)))]) (rm := rm_X11_broke) (pc2 := 1300) rfl dL_law_1297 n_X11_broke l_BoxYardLaw_134 i_X11_broke e_X11_broke (ci := 11) rfl rfl (by decide) g449 rfl rfl (by decide) (by decide) rfl rfl (k_X11_broke c442) ?_
                                                                    refine y_lf (fun _ _ _ _ k => y_aload_n (x := v2_18) (pc2 := 1301) rfl dL_law_1300 rfl k) ?_
                                                                    refine y_lf (fun _ _ _ _ k => y_aload_n (x := v0_18) (pc2 := 1302) rfl dL_law_1301 rfl k) ?_
                                                                    refine y_lf (fun _ _ _ _ k => y_iload_n (pc2 := 1303) rfl dL_law_1302 rfl k) ?_
                                                                    refine y_lf (fun _ _ _ _ k => y_iconst (v := 1) (pc2 := 1304) rfl dL_law_1303 (by decide) k) ?_
                                                                    refine y_lf (fun _ _ _ _ k => y_iadd (pc2 := 1305) rfl dL_law_1304 k) ?_
                                                                    obtain ⟨g448, hf⟩ := y_g hf
                                                                    refine y_lf (fun _ _ _ _ k => y_ialdR (pc2 := 1306) rfl dL_law_1305 g448.1 (y_ix_in g448.2) k) ?_
                                                                    obtain ⟨g447, hf⟩ := y_g hf
                                                                    obtain ⟨r443, h444, c445, hf⟩ := y_clE hf
                                                                    refine y_UcV0 (As := [.int (y_I h441 v0_18 (Int32.toNatClampNeg (v3_18 + 1)))]) (rm := rm_X12_broke) (pc2 := 1309) rfl dL_law_1306 n_X12_broke l_BoxYardLaw_137 i_X12_broke e_X12_broke (ci := 12) rfl rfl (by decide) g447 rfl rfl (by decide) (by simp [y_ci, y_cj, y_p_cat]) rfl rfl (k_X12_broke c445) ?_
                                                                    refine y_lf2 (Classical.em _) (fun _ _ k1 k2 => y_icmp_eq (tgt := 1753) (pc2 := 1312) rfl dL_law_1309 (by decide) k1 k2) (fun c446 => ?_) (fun c446 => ?_)
                                                                    · replace hf := y_it c446 hf
                                                                      exact y_lf (fun _ _ _ _ k => y_pk [0, 1, 2, 3] rfl k) (hj1753 _ _ _ _ _ _ _ hf)
                                                                    · replace hf := y_ie c446 hf
                                                                      refine y_lf (fun _ _ _ _ k => y_iconst (v := 0) (pc2 := 1313) rfl dL_law_1312 (by decide) k) ?_
                                                                      exact y_zretU (x := false) hf dL_law_1313 rfl
                                                                  · replace hf := y_ie c439 hf
                                                                    by_cases c451 : ((y_I h13 v0_18 (Int32.toNatClampNeg v3_18)) &&& 63) = 30
                                                                    · replace hf := y_it c451 hf
                                                                      refine y_lf (fun _ _ _ _ k => y_table (off := 1281) (tgt := 1314) dL_law_33 (by (rw [c451]) <;> decide) (by decide) k) ?_
                                                                      refine y_lf (fun _ _ _ _ k => y_aload_n (x := v1_18) (pc2 := 1315) rfl dL_law_1314 rfl k) ?_
                                                                      refine y_lf (fun _ _ _ _ k => y_aload_n (x := v0_18) (pc2 := 1316) rfl dL_law_1315 rfl k) ?_
                                                                      refine y_lf (fun _ _ _ _ k => y_iload_n (pc2 := 1317) rfl dL_law_1316 rfl k) ?_
                                                                      refine y_lf (fun _ _ _ _ k => y_iconst (v := 1) (pc2 := 1318) rfl dL_law_1317 (by decide) k) ?_
                                                                      refine y_lf (fun _ _ _ _ k => y_iadd (pc2 := 1319) rfl dL_law_1318 k) ?_
                                                                      obtain ⟨g462, hf⟩ := y_g hf
                                                                      refine y_lf (fun _ _ _ _ k => y_ialdR (pc2 := 1320) rfl dL_law_1319 g462.1 (y_ix_in g462.2) k) ?_
                                                                      obtain ⟨g461, hf⟩ := y_g hf
                                                                      obtain ⟨r452, h453, c454, hf⟩ := y_clE hf
                                                                      refine y_UcV0 (As := [.int (y_I h13 v0_18 (Int32.toNatClampNeg (v3_18 + 1)))]) (rm := rm_X11_want) (pc2 := 1323) rfl dL_law_1320 n_X11_want l_BoxYardLaw_138 i_X11_want e_X11_want (ci := 11) rfl rfl (by decide) g461 rfl rfl (by decide) (by decide) rfl rfl (k_X11_want c454) ?_
                                                                      refine y_lf (fun _ _ _ _ k => y_aload_n (x := v2_18) (pc2 := 1324) rfl dL_law_1323 rfl k) ?_
                                                                      refine y_lf (fun _ _ _ _ k => y_aload_n (x := v0_18) (pc2 := 1325) rfl dL_law_1324 rfl k) ?_
                                                                      refine y_lf (fun _ _ _ _ k => y_iload_n (pc2 := 1326) rfl dL_law_1325 rfl k) ?_
                                                                      refine y_lf (fun _ _ _ _ k => y_iconst (v := 1) (pc2 := 1327) rfl dL_law_1326 (by decide) k) ?_
                                                                      refine y_lf (fun _ _ _ _ k => y_iadd (pc2 := 1328) rfl dL_law_1327 k) ?_
                                                                      obtain ⟨g460, hf⟩ := y_g hf
                                                                      refine y_lf (fun _ _ _ _ k => y_ialdR (pc2 := 1329) rfl dL_law_1328 g460.1 (y_ix_in g460.2) k) ?_
                                                                      obtain ⟨g459, hf⟩ := y_g hf
                                                                      obtain ⟨r455, h456, c457, hf⟩ := y_clE hf
                                                                      refine y_UcV0 (As := [.int (y_I h453 v0_18 (Int32.toNatClampNeg (v3_18 + 1)))]) (rm := rm_X12_want) (pc2 := 1332) rfl dL_law_1329 n_X12_want l_BoxYardLaw_141 i_X12_want e_X12_want (ci := 12) rfl rfl (by decide) g459 rfl rfl (by decide) (by simp [y_ci, y_cj, y_p_cat]) rfl rfl (k_X12_want c457) ?_
                                                                      refine y_lf2 (Classical.em _) (fun _ _ k1 k2 => y_icmp_eq (tgt := 1753) (pc2 := 1335) rfl dL_law_1332 (by decide) k1 k2) (fun c458 => ?_) (fun c458 => ?_)
                                                                      · replace hf := y_it c458 hf
                                                                        exact y_lf (fun _ _ _ _ k => y_pk [0, 1, 2, 3] rfl k) (hj1753 _ _ _ _ _ _ _ hf)
                                                                      · replace hf := y_ie c458 hf
                                                                        refine y_lf (fun _ _ _ _ k => y_iconst (v := 0) (pc2 := 1336) rfl dL_law_1335 (by decide) k) ?_
                                                                        exact y_zretU (x := false) hf dL_law_1336 rfl
                                                                    · replace hf := y_ie c451 hf
                                                                      by_cases c463 : ((y_I h13 v0_18 (Int32.toNatClampNeg v3_18)) &&& 63) = 31
                                                                      · replace hf := y_it c463 hf
                                                                        refine y_lf (fun _ _ _ _ k => y_table (off := 1304) (tgt := 1337) dL_law_33 (by (rw [c463]) <;> decide) (by decide) k) ?_
                                                                        refine y_lf (fun _ _ _ _ k => y_aload_n (x := v1_18) (pc2 := 1338) rfl dL_law_1337 rfl k) ?_
                                                                        obtain ⟨g472, hf⟩ := y_g hf
                                                                        obtain ⟨r464, h465, c466, hf⟩ := y_clE hf
                                                                        refine y_UcV0 (As := []) (rm := rm_X11_forget) (pc2 := 1341) rfl dL_law_1338 n_X11_forget l_BoxYardLaw_142 i_X11_forget e_X11_forget (ci := 11) rfl rfl (by decide) g472 rfl rfl (by decide) (by decide) rfl rfl (k_X11_forget c466) ?_
                                                                        refine y_lf (fun _ _ _ _ k => y_aload_n (x := v2_18) (pc2 := 1342) rfl dL_law_1341 rfl k) ?_
                                                                        obtain ⟨g471, hf⟩ := y_g hf
                                                                        obtain ⟨r467, h468, c469, hf⟩ := y_clE hf
                                                                        refine y_UcV0 (As := []) (rm := rm_X12_forget) (pc2 := 1345) rfl dL_law_1342 n_X12_forget l_BoxYardLaw_146 i_X12_forget e_X12_forget (ci := 12) rfl rfl (by decide) g471 rfl rfl (by decide) (by simp [y_ci, y_cj, y_p_cat]) rfl rfl (k_X12_forget c469) ?_
                                                                        refine y_lf2 (Classical.em _) (fun _ _ k1 k2 => y_icmp_eq (tgt := 1753) (pc2 := 1348) rfl dL_law_1345 (by decide) k1 k2) (fun c470 => ?_) (fun c470 => ?_)
                                                                        · replace hf := y_it c470 hf
                                                                          exact y_lf (fun _ _ _ _ k => y_pk [0, 1, 2, 3] rfl k) (hj1753 _ _ _ _ _ _ _ hf)
                                                                        · replace hf := y_ie c470 hf
                                                                          refine y_lf (fun _ _ _ _ k => y_iconst (v := 0) (pc2 := 1349) rfl dL_law_1348 (by decide) k) ?_
                                                                          exact y_zretU (x := false) hf dL_law_1349 rfl
                                                                      · replace hf := y_ie c463 hf
                                                                        by_cases c473 : ((y_I h13 v0_18 (Int32.toNatClampNeg v3_18)) &&& 63) = 32
                                                                        · replace hf := y_it c473 hf
                                                                          refine y_lf (fun _ _ _ _ k => y_table (off := 1317) (tgt := 1350) dL_law_33 (by (rw [c473]) <;> decide) (by decide) k) ?_
                                                                          refine y_lf (fun _ _ _ _ k => y_aload_n (x := v1_18) (pc2 := 1351) rfl dL_law_1350 rfl k) ?_
                                                                          refine y_lf (fun _ _ _ _ k => y_aload_n (x := v0_18) (pc2 := 1352) rfl dL_law_1351 rfl k) ?_
                                                                          refine y_lf (fun _ _ _ _ k => y_iload_n (pc2 := 1353) rfl dL_law_1352 rfl k) ?_
                                                                          refine y_lf (fun _ _ _ _ k => y_iconst (v := 1) (pc2 := 1354) rfl dL_law_1353 (by decide) k) ?_
                                                                          refine y_lf (fun _ _ _ _ k => y_iadd (pc2 := 1355) rfl dL_law_1354 k) ?_
                                                                          obtain ⟨g484, hf⟩ := y_g hf
                                                                          refine y_lf (fun _ _ _ _ k => y_ialdR (pc2 := 1356) rfl dL_law_1355 g484.1 (y_ix_in g484.2) k) ?_
                                                                          obtain ⟨g483, hf⟩ := y_g hf
                                                                          obtain ⟨r474, h475, c476, hf⟩ := y_clE hf
                                                                          refine y_UcallV (As := [.int (y_I h13 v0_18 (Int32.toNatClampNeg (v3_18 + 1)))]) (pc2 := 1359) rfl dL_law_1356 n_X11_least l_BoxYardLaw_147 i_X11_least e_X11_least (ci := 11) rfl rfl (by decide) g483 rfl rfl (by decide) (by decide) (k_X11_least c476) ?_
                                                                          refine y_lf (fun _ _ _ _ k => y_aload_n (x := v2_18) (pc2 := 1360) rfl dL_law_1359 rfl k) ?_
                                                                          refine y_lf (fun _ _ _ _ k => y_aload_n (x := v0_18) (pc2 := 1361) rfl dL_law_1360 rfl k) ?_
                                                                          refine y_lf (fun _ _ _ _ k => y_iload_n (pc2 := 1362) rfl dL_law_1361 rfl k) ?_
                                                                          refine y_lf (fun _ _ _ _ k => y_iconst (v := 1) (pc2 := 1363) rfl dL_law_1362 (by decide) k) ?_
                                                                          refine y_lf (fun _ _ _ _ k => y_iadd (pc2 := 1364) rfl dL_law_1363 k) ?_
                                                                          obtain ⟨g482, hf⟩ := y_g hf
                                                                          refine y_lf (fun _ _ _ _ k => y_ialdR (pc2 := 1365) rfl dL_law_1364 g482.1 (y_ix_in g482.2) k) ?_
                                                                          obtain ⟨g481, hf⟩ := y_g hf
                                                                          obtain ⟨r477, h478, c479, hf⟩ := y_clE hf
                                                                          refine y_UcV0 (As := [.int (y_I h475 v0_18 (Int32.toNatClampNeg (v3_18 + 1)))]) (rm := rm_X12_least) (pc2 := 1368) rfl dL_law_1365 n_X12_least l_BoxYardLaw_150 i_X12_least e_X12_least (ci := 12) rfl rfl (by decide) g481 rfl rfl (by decide) (by simp [y_ci, y_cj, y_p_cat]) rfl rfl (k_X12_least c479) ?_
                                                                          refine y_lf2 (Classical.em _) (fun _ _ k1 k2 => y_icmp_eq (tgt := 1753) (pc2 := 1371) rfl dL_law_1368 (by decide) k1 k2) (fun c480 => ?_) (fun c480 => ?_)
                                                                          · replace hf := y_it c480 hf
                                                                            exact y_lf (fun _ _ _ _ k => y_pk [0, 1, 2, 3] rfl k) (hj1753 _ _ _ _ _ _ _ hf)
                                                                          · replace hf := y_ie c480 hf
                                                                            refine y_lf (fun _ _ _ _ k => y_iconst (v := 0) (pc2 := 1372) rfl dL_law_1371 (by decide) k) ?_
                                                                            exact y_zretU (x := false) hf dL_law_1372 rfl
                                                                        · replace hf := y_ie c473 hf
                                                                          by_cases c485 : ((y_I h13 v0_18 (Int32.toNatClampNeg v3_18)) &&& 63) = 33
                                                                          · replace hf := y_it c485 hf
                                                                            refine y_lf (fun _ _ _ _ k => y_table (off := 1340) (tgt := 1373) dL_law_33 (by (rw [c485]) <;> decide) (by decide) k) ?_
                                                                            refine y_lf (fun _ _ _ _ k => y_aload_n (x := v1_18) (pc2 := 1374) rfl dL_law_1373 rfl k) ?_
                                                                            refine y_lf (fun _ _ _ _ k => y_aload_n (x := v0_18) (pc2 := 1375) rfl dL_law_1374 rfl k) ?_
                                                                            refine y_lf (fun _ _ _ _ k => y_iload_n (pc2 := 1376) rfl dL_law_1375 rfl k) ?_
                                                                            refine y_lf (fun _ _ _ _ k => y_iconst (v := 1) (pc2 := 1377) rfl dL_law_1376 (by decide) k) ?_
                                                                            refine y_lf (fun _ _ _ _ k => y_iadd (pc2 := 1378) rfl dL_law_1377 k) ?_
                                                                            obtain ⟨g498, hf⟩ := y_g hf
                                                                            refine y_lf (fun _ _ _ _ k => y_ialdR (pc2 := 1379) rfl dL_law_1378 g498.1 (y_ix_in g498.2) k) ?_
                                                                            refine y_lf (fun _ _ _ _ k => y_aload_n (x := v0_18) (pc2 := 1380) rfl dL_law_1379 rfl k) ?_
                                                                            refine y_lf (fun _ _ _ _ k => y_iload_n (pc2 := 1381) rfl dL_law_1380 rfl k) ?_
                                                                            refine y_lf (fun _ _ _ _ k => y_iconst (v := 2) (pc2 := 1382) rfl dL_law_1381 (by decide) k) ?_
                                                                            refine y_lf (fun _ _ _ _ k => y_iadd (pc2 := 1383) rfl dL_law_1382 k) ?_
                                                                            obtain ⟨g497, hf⟩ := y_g hf
                                                                            refine y_lf (fun _ _ _ _ k => y_ialdR (pc2 := 1384) rfl dL_law_1383 g497.1 (y_ix_in g497.2) k) ?_
                                                                            obtain ⟨g496, hf⟩ := y_g hf
                                                                            obtain ⟨r486, h487, c488, hf⟩ := y_clE hf
                                                                            refine y_UcV0 (As := [.int (y_I h13 v0_18 (Int32.toNatClampNeg (v3_18 + 1))), .int (y_I h13 v0_18 (Int32.toNatClampNeg (v3_18 + 2)))]) (rm := rm_X11_row) (pc2 := 1387) rfl dL_law_1384 n_X11_row l_BoxYardLaw_151 i_X11_row e_X11_row (ci := 11) rfl rfl (by decide) g496 rfl rfl (by decide) (by decide) rfl rfl (k_X11_row c488) ?_
                                                                            refine y_lf (fun _ _ _ _ k => y_aload_n (x := v2_18) (pc2 := 1388) rfl dL_law_1387 rfl k) ?_
                                                                            refine y_lf (fun _ _ _ _ k => y_aload_n (x := v0_18) (pc2 := 1389) rfl dL_law_1388 rfl k) ?_
                                                                            refine y_lf (fun _ _ _ _ k => y_iload_n (pc2 := 1390) rfl dL_law_1389 rfl k) ?_
                                                                            refine y_lf (fun _ _ _ _ k => y_iconst (v := 1) (pc2 := 1391) rfl dL_law_1390 (by decide) k) ?_
                                                                            refine y_lf (fun _ _ _ _ k => y_iadd (pc2 := 1392) rfl dL_law_1391 k) ?_
                                                                            obtain ⟨g495, hf⟩ := y_g hf
                                                                            refine y_lf (fun _ _ _ _ k => y_ialdR (pc2 := 1393) rfl dL_law_1392 g495.1 (y_ix_in g495.2) k) ?_
                                                                            refine y_lf (fun _ _ _ _ k => y_aload_n (x := v0_18) (pc2 := 1394) rfl dL_law_1393 rfl k) ?_
                                                                            refine y_lf (fun _ _ _ _ k => y_iload_n (pc2 := 1395) rfl dL_law_1394 rfl k) ?_
                                                                            refine y_lf (fun _ _ _ _ k => y_iconst (v := 2) (pc2 := 1396) rfl dL_law_1395 (by decide) k) ?_
                                                                            refine y_lf (fun _ _ _ _ k => y_iadd (pc2 := 1397) rfl dL_law_1396 k) ?_
                                                                            obtain ⟨g494, hf⟩ := y_g hf
                                                                            refine y_lf (fun _ _ _ _ k => y_ialdR (pc2 := 1398) rfl dL_law_1397 g494.1 (y_ix_in g494.2) k) ?_
                                                                            obtain ⟨g493, hf⟩ := y_g hf
                                                                            obtain ⟨r489, h490, c491, hf⟩ := y_clE hf
                                                                            refine y_UcV0 (As := [.int (y_I h487 v0_18 (Int32.toNatClampNeg (v3_18 + 1))), .int (y_I h487 v0_18 (Int32.toNatClampNeg (v3_18 + 2)))]) (rm := rm_X12_row) (pc2 := 1401) rfl dL_law_1398 n_X12_row l_BoxYardLaw_154 i_X12_row e_X12_row (ci := 12) rfl rfl (by decide) g493 rfl rfl (by decide) (by simp [y_ci, y_cj, y_p_cat]) rfl rfl (k_X12_row c491) ?_
                                                                            refine y_lf2 (Classical.em _) (fun _ _ k1 k2 => y_icmp_eq (tgt := 1753) (pc2 := 1404) rfl dL_law_1401 (by decide) k1 k2) (fun c492 => ?_) (fun c492 => ?_)
                                                                            · replace hf := y_it c492 hf
                                                                              exact y_lf (fun _ _ _ _ k => y_pk [0, 1, 2, 3] rfl k) (hj1753 _ _ _ _ _ _ _ hf)
                                                                            · replace hf := y_ie c492 hf
                                                                              refine y_lf (fun _ _ _ _ k => y_iconst (v := 0) (pc2 := 1405) rfl dL_law_1404 (by decide) k) ?_
                                                                              exact y_zretU (x := false) hf dL_law_1405 rfl
                                                                          · replace hf := y_ie c485 hf
                                                                            by_cases c499 : ((y_I h13 v0_18 (Int32.toNatClampNeg v3_18)) &&& 63) = 34
                                                                            · replace hf := y_it c499 hf
                                                                              refine y_lf (fun _ _ _ _ k => y_table (off := 1373) (tgt := 1406) dL_law_33 (by (rw [c499]) <;> decide) (by decide) k) ?_
                                                                              refine y_lf (fun _ _ _ _ k => y_aload_n (x := v1_18) (pc2 := 1407) rfl dL_law_1406 rfl k) ?_
                                                                              refine y_lf (fun _ _ _ _ k => y_aload_n (x := v0_18) (pc2 := 1408) rfl dL_law_1407 rfl k) ?_
                                                                              refine y_lf (fun _ _ _ _ k => y_iload_n (pc2 := 1409) rfl dL_law_1408 rfl k) ?_
                                                                              refine y_lf (fun _ _ _ _ k => y_iconst (v := 1) (pc2 := 1410) rfl dL_law_1409 (by decide) k) ?_
                                                                              refine y_lf (fun _ _ _ _ k => y_iadd (pc2 := 1411) rfl dL_law_1410 k) ?_
                                                                              obtain ⟨g514, hf⟩ := y_g hf
                                                                              refine y_lf (fun _ _ _ _ k => y_ialdR (pc2 := 1412) rfl dL_law_1411 g514.1 (y_ix_in g514.2) k) ?_
                                                                              refine y_lf (fun _ _ _ _ k => y_aload_n (x := v0_18) (pc2 := 1413) rfl dL_law_1412 rfl k) ?_
                                                                              refine y_lf (fun _ _ _ _ k => y_iload_n (pc2 := 1414) rfl dL_law_1413 rfl k) ?_
                                                                              refine y_lf (fun _ _ _ _ k => y_iconst (v := 2) (pc2 := 1415) rfl dL_law_1414 (by decide) k) ?_
                                                                              refine y_lf (fun _ _ _ _ k => y_iadd (pc2 := 1416) rfl dL_law_1415 k) ?_
                                                                              obtain ⟨g513, hf⟩ := y_g hf
                                                                              refine y_lf (fun _ _ _ _ k => y_ialdR (pc2 := 1417) rfl dL_law_1416 g513.1 (y_ix_in g513.2) k) ?_
                                                                              refine y_lf (fun _ _ _ _ k => y_aload_n (x := v0_18) (pc2 := 1418) rfl dL_law_1417 rfl k) ?_
                                                                              refine y_lf (fun _ _ _ _ k => y_iload_n (pc2 := 1419) rfl dL_law_1418 rfl k) ?_
                                                                              refine y_lf (fun _ _ _ _ k => y_iconst (v := 3) (pc2 := 1420) rfl dL_law_1419 (by decide) k) ?_
                                                                              refine y_lf (fun _ _ _ _ k => y_iadd (pc2 := 1421) rfl dL_law_1420 k) ?_
                                                                              obtain ⟨g512, hf⟩ := y_g hf
                                                                              refine y_lf (fun _ _ _ _ k => y_ialdR (pc2 := 1422) rfl dL_law_1421 g512.1 (y_ix_in g512.2) k) ?_
                                                                              obtain ⟨g511, hf⟩ := y_g hf
                                                                              obtain ⟨r500, h501, c502, hf⟩ := y_clE hf
                                                                              refine y_UcV0 (As := [.int (y_I h13 v0_18 (Int32.toNatClampNeg (v3_18 + 1))), .int (y_I h13 v0_18 (Int32.toNatClampNeg (v3_18 + 2))), .int (y_I h13 v0_18 (Int32.toNatClampNeg (v3_18 + 3)))]) (rm := rm_X11_alter) (pc2 := 1425) rfl dL_law_1422 n_X11_alter l_BoxYardLaw_155 i_X11_alter e_X11_alter (ci := 11) rfl rfl (by decide) g511 rfl rfl (by decide) (by decide) rfl rfl (k_X11_alter c502) ?_
                                                                              refine y_lf (fun _ _ _ _ k => y_aload_n (x := v2_18) (pc2 := 1426) rfl dL_law_1425 rfl k) ?_
                                                                              refine y_lf (fun _ _ _ _ k => y_aload_n (x := v0_18) (pc2 := 1427) rfl dL_law_1426 rfl k) ?_
                                                                              refine y_lf (fun _ _ _ _ k => y_iload_n (pc2 := 1428) rfl dL_law_1427 rfl k) ?_
                                                                              refine y_lf (fun _ _ _ _ k => y_iconst (v := 1) (pc2 := 1429) rfl dL_law_1428 (by decide) k) ?_
                                                                              refine y_lf (fun _ _ _ _ k => y_iadd (pc2 := 1430) rfl dL_law_1429 k) ?_
                                                                              obtain ⟨g510, hf⟩ := y_g hf
                                                                              refine y_lf (fun _ _ _ _ k => y_ialdR (pc2 := 1431) rfl dL_law_1430 g510.1 (y_ix_in g510.2) k) ?_
                                                                              refine y_lf (fun _ _ _ _ k => y_aload_n (x := v0_18) (pc2 := 1432) rfl dL_law_1431 rfl k) ?_
                                                                              refine y_lf (fun _ _ _ _ k => y_iload_n (pc2 := 1433) rfl dL_law_1432 rfl k) ?_
                                                                              refine y_lf (fun _ _ _ _ k => y_iconst (v := 2) (pc2 := 1434) rfl dL_law_1433 (by decide) k) ?_
                                                                              refine y_lf (fun _ _ _ _ k => y_iadd (pc2 := 1435) rfl dL_law_1434 k) ?_
                                                                              obtain ⟨g509, hf⟩ := y_g hf
                                                                              refine y_lf (fun _ _ _ _ k => y_ialdR (pc2 := 1436) rfl dL_law_1435 g509.1 (y_ix_in g509.2) k) ?_
                                                                              refine y_lf (fun _ _ _ _ k => y_aload_n (x := v0_18) (pc2 := 1437) rfl dL_law_1436 rfl k) ?_
                                                                              refine y_lf (fun _ _ _ _ k => y_iload_n (pc2 := 1438) rfl dL_law_1437 rfl k) ?_
                                                                              refine y_lf (fun _ _ _ _ k => y_iconst (v := 3) (pc2 := 1439) rfl dL_law_1438 (by decide) k) ?_
                                                                              refine y_lf (fun _ _ _ _ k => y_iadd (pc2 := 1440) rfl dL_law_1439 k) ?_
                                                                              obtain ⟨g508, hf⟩ := y_g hf
                                                                              refine y_lf (fun _ _ _ _ k => y_ialdR (pc2 := 1441) rfl dL_law_1440 g508.1 (y_ix_in g508.2) k) ?_
                                                                              obtain ⟨g507, hf⟩ := y_g hf
                                                                              obtain ⟨r503, h504, c505, hf⟩ := y_clE hf
                                                                              refine y_UcV0 (As := [.int (y_I h501 v0_18 (Int32.toNatClampNeg (v3_18 + 1))), .int (y_I h501 v0_18 (Int32.toNatClampNeg (v3_18 + 2))), .int (y_I h501 v0_18 (Int32.toNatClampNeg (v3_18 + 3)))]) (rm := rm_X12_alter) (pc2 := 1444) rfl dL_law_1441 n_X12_alter l_BoxYardLaw_158 i_X12_alter e_X12_alter (ci := 12) rfl rfl (by decide) g507 rfl rfl (by decide) (by simp [y_ci, y_cj, y_p_cat]) rfl rfl (k_X12_alter c505) ?_
                                                                              refine y_lf2 (Classical.em _) (fun _ _ k1 k2 => y_icmp_eq (tgt := 1753) (pc2 := 1447) rfl dL_law_1444 (by decide) k1 k2) (fun c506 => ?_) (fun c506 => ?_)
                                                                              · replace hf := y_it c506 hf
                                                                                exact y_lf (fun _ _ _ _ k => y_pk [0, 1, 2, 3] rfl k) (hj1753 _ _ _ _ _ _ _ hf)
                                                                              · replace hf := y_ie c506 hf
                                                                                refine y_lf (fun _ _ _ _ k => y_iconst (v := 0) (pc2 := 1448) rfl dL_law_1447 (by decide) k) ?_
                                                                                exact y_zretU (x := false) hf dL_law_1448 rfl
                                                                            · replace hf := y_ie c499 hf
                                                                              by_cases c515 : ((y_I h13 v0_18 (Int32.toNatClampNeg v3_18)) &&& 63) = 35
                                                                              · replace hf := y_it c515 hf
                                                                                refine y_lf (fun _ _ _ _ k => y_table (off := 1416) (tgt := 1449) dL_law_33 (by (rw [c515]) <;> decide) (by decide) k) ?_
                                                                                refine y_lf (fun _ _ _ _ k => y_aload_n (x := v1_18) (pc2 := 1450) rfl dL_law_1449 rfl k) ?_
                                                                                obtain ⟨g524, hf⟩ := y_g hf
                                                                                obtain ⟨r516, h517, c518, hf⟩ := y_clE hf
                                                                                refine y_UcV0 (As := []) (rm := rm_X11_holds) (pc2 := 1453) rfl dL_law_1450 n_X11_holds l_BoxYardLaw_159 i_X11_holds e_X11_holds (ci := 11) rfl rfl (by decide) g524 rfl rfl (by decide) (by decide) rfl rfl (k_X11_holds c518) ?_
                                                                                refine y_lf (fun _ _ _ _ k => y_aload_n (x := v2_18) (pc2 := 1454) rfl dL_law_1453 rfl k) ?_
                                                                                obtain ⟨g523, hf⟩ := y_g hf
                                                                                obtain ⟨r519, h520, c521, hf⟩ := y_clE hf
                                                                                refine y_UcV0 (As := []) (rm := rm_X12_holds) (pc2 := 1457) rfl dL_law_1454 n_X12_holds l_BoxYardLaw_162 i_X12_holds e_X12_holds (ci := 12) rfl rfl (by decide) g523 rfl rfl (by decide) (by simp [y_ci, y_cj, y_p_cat]) rfl rfl (k_X12_holds c521) ?_
                                                                                refine y_lf2 (Classical.em _) (fun _ _ k1 k2 => y_icmp_eq (tgt := 1753) (pc2 := 1460) rfl dL_law_1457 (by decide) k1 k2) (fun c522 => ?_) (fun c522 => ?_)
                                                                                · replace hf := y_it c522 hf
                                                                                  exact y_lf (fun _ _ _ _ k => y_pk [0, 1, 2, 3] rfl k) (hj1753 _ _ _ _ _ _ _ hf)
                                                                                · replace hf := y_ie c522 hf
                                                                                  refine y_lf (fun _ _ _ _ k => y_iconst (v := 0) (pc2 := 1461) rfl dL_law_1460 (by decide) k) ?_
                                                                                  exact y_zretU (x := false) hf dL_law_1461 rfl
                                                                              · replace hf := y_ie c515 hf
                                                                                by_cases c525 : ((y_I h13 v0_18 (Int32.toNatClampNeg v3_18)) &&& 63) = 36
                                                                                · replace hf := y_it c525 hf
                                                                                  refine y_lf (fun _ _ _ _ k => y_table (off := 1429) (tgt := 1462) dL_law_33 (by (rw [c525]) <;> decide) (by decide) k) ?_
                                                                                  refine y_lf (fun _ _ _ _ k => y_aload_n (x := v1_18) (pc2 := 1463) rfl dL_law_1462 rfl k) ?_
                                                                                  obtain ⟨g534, hf⟩ := y_g hf
                                                                                  obtain ⟨r526, h527, c528, hf⟩ := y_clE hf
                                                                                  refine y_UcV0 (As := []) (rm := rm_X11_task) (pc2 := 1466) rfl dL_law_1463 n_X11_task l_BoxYardLaw_163 i_X11_task e_X11_task (ci := 11) rfl rfl (by decide) g534 rfl rfl (by decide) (by decide) rfl rfl (k_X11_task c528) ?_
                                                                                  refine y_lf (fun _ _ _ _ k => y_aload_n (x := v2_18) (pc2 := 1467) rfl dL_law_1466 rfl k) ?_
                                                                                  obtain ⟨g533, hf⟩ := y_g hf
                                                                                  obtain ⟨r529, h530, c531, hf⟩ := y_clE hf
                                                                                  refine y_UcV0 (As := []) (rm := rm_X12_task) (pc2 := 1470) rfl dL_law_1467 n_X12_task l_BoxYardLaw_166 i_X12_task e_X12_task (ci := 12) rfl rfl (by decide) g533 rfl rfl (by decide) (by simp [y_ci, y_cj, y_p_cat]) rfl rfl (k_X12_task c531) ?_
                                                                                  refine y_lf2 (Classical.em _) (fun _ _ k1 k2 => y_icmp_eq (tgt := 1753) (pc2 := 1473) rfl dL_law_1470 (by decide) k1 k2) (fun c532 => ?_) (fun c532 => ?_)
                                                                                  · replace hf := y_it c532 hf
                                                                                    exact y_lf (fun _ _ _ _ k => y_pk [0, 1, 2, 3] rfl k) (hj1753 _ _ _ _ _ _ _ hf)
                                                                                  · replace hf := y_ie c532 hf
                                                                                    refine y_lf (fun _ _ _ _ k => y_iconst (v := 0) (pc2 := 1474) rfl dL_law_1473 (by decide) k) ?_
                                                                                    exact y_zretU (x := false) hf dL_law_1474 rfl
                                                                                · replace hf := y_ie c525 hf
                                                                                  by_cases c535 : ((y_I h13 v0_18 (Int32.toNatClampNeg v3_18)) &&& 63) = 37
                                                                                  · replace hf := y_it c535 hf
                                                                                    refine y_lf (fun _ _ _ _ k => y_table (off := 1442) (tgt := 1475) dL_law_33 (by (rw [c535]) <;> decide) (by decide) k) ?_
                                                                                    refine y_lf (fun _ _ _ _ k => y_aload_n (x := v1_18) (pc2 := 1476) rfl dL_law_1475 rfl k) ?_
                                                                                    refine y_lf (fun _ _ _ _ k => y_aload_n (x := v0_18) (pc2 := 1477) rfl dL_law_1476 rfl k) ?_
                                                                                    refine y_lf (fun _ _ _ _ k => y_iload_n (pc2 := 1478) rfl dL_law_1477 rfl k) ?_
                                                                                    refine y_lf (fun _ _ _ _ k => y_iconst (v := 1) (pc2 := 1479) rfl dL_law_1478 (by decide) k) ?_
                                                                                    refine y_lf (fun _ _ _ _ k => y_iadd (pc2 := 1480) rfl dL_law_1479 k) ?_
                                                                                    obtain ⟨g552, hf⟩ := y_g hf
                                                                                    refine y_lf (fun _ _ _ _ k => y_ialdR (pc2 := 1481) rfl dL_law_1480 g552.1 (y_ix_in g552.2) k) ?_
                                                                                    refine y_lf (fun _ _ _ _ k => y_aload_n (x := v0_18) (pc2 := 1482) rfl dL_law_1481 rfl k) ?_
                                                                                    refine y_lf (fun _ _ _ _ k => y_iload_n (pc2 := 1483) rfl dL_law_1482 rfl k) ?_
                                                                                    refine y_lf (fun _ _ _ _ k => y_iconst (v := 2) (pc2 := 1484) rfl dL_law_1483 (by decide) k) ?_
                                                                                    refine y_lf (fun _ _ _ _ k => y_iadd (pc2 := 1485) rfl dL_law_1484 k) ?_
                                                                                    obtain ⟨g551, hf⟩ := y_g hf
                                                                                    refine y_lf (fun _ _ _ _ k => y_ialdR (pc2 := 1486) rfl dL_law_1485 g551.1 (y_ix_in g551.2) k) ?_
                                                                                    refine y_lf (fun _ _ _ _ k => y_aload_n (x := v0_18) (pc2 := 1487) rfl dL_law_1486 rfl k) ?_
                                                                                    refine y_lf (fun _ _ _ _ k => y_iload_n (pc2 := 1488) rfl dL_law_1487 rfl k) ?_
                                                                                    refine y_lf (fun _ _ _ _ k => y_iconst (v := 3) (pc2 := 1489) rfl dL_law_1488 (by decide) k) ?_
                                                                                    refine y_lf (fun _ _ _ _ k => y_iadd (pc2 := 1490) rfl dL_law_1489 k) ?_
                                                                                    obtain ⟨g550, hf⟩ := y_g hf
                                                                                    refine y_lf (fun _ _ _ _ k => y_ialdR (pc2 := 1491) rfl dL_law_1490 g550.1 (y_ix_in g550.2) k) ?_
                                                                                    refine y_lf (fun _ _ _ _ k => y_aload_n (x := v0_18) (pc2 := 1492) rfl dL_law_1491 rfl k) ?_
                                                                                    refine y_lf (fun _ _ _ _ k => y_iload_n (pc2 := 1493) rfl dL_law_1492 rfl k) ?_
                                                                                    refine y_lf (fun _ _ _ _ k => y_iconst (v := 4) (pc2 := 1494) rfl dL_law_1493 (by decide) k) ?_
                                                                                    refine y_lf (fun _ _ _ _ k => y_iadd (pc2 := 1495) rfl dL_law_1494 k) ?_
                                                                                    obtain ⟨g549, hf⟩ := y_g hf
                                                                                    refine y_lf (fun _ _ _ _ k => y_ialdR (pc2 := 1496) rfl dL_law_1495 g549.1 (y_ix_in g549.2) k) ?_
                                                                                    obtain ⟨g548, hf⟩ := y_g hf
                                                                                    obtain ⟨r536, h537, c538, hf⟩ := y_clE hf
                                                                                    refine y_UcV0 (As := [.int (y_I h13 v0_18 (Int32.toNatClampNeg (v3_18 + 1))), .int (y_I h13 v0_18 (Int32.toNatClampNeg (v3_18 + 2))), .int (y_I h13 v0_18 (Int32.toNatClampNeg (v3_18 + 3))), .int (y_I h13 v0_18 (Int32.toNatClampNeg (v3_18 + 4)))]) (rm := rm_X11_op) (pc2 := 1499) rfl dL_law_1496 n_X11_op l_BoxYardLaw_167 i_X11_op e_X11_op (ci := 11) rfl rfl (by decide) g548 rfl rfl (by decide) (by decide) rfl rfl (k_X11_op c538) ?_
                                                                                    refine y_lf (fun _ _ _ _ k => y_aload_n (x := v2_18) (pc2 := 1500) rfl dL_law_1499 rfl k) ?_
                                                                                    refine y_lf (fun _ _ _ _ k => y_aload_n (x := v0_18) (pc2 := 1501) rfl dL_law_1500 rfl k) ?_
                                                                                    refine y_lf (fun _ _ _ _ k => y_iload_n (pc2 := 1502) rfl dL_law_1501 rfl k) ?_
                                                                                    refine y_lf (fun _ _ _ _ k => y_iconst (v := 1) (pc2 := 1503) rfl dL_law_1502 (by decide) k) ?_
                                                                                    refine y_lf (fun _ _ _ _ k => y_iadd (pc2 := 1504) rfl dL_law_1503 k) ?_
                                                                                    obtain ⟨g547, hf⟩ := y_g hf
                                                                                    refine y_lf (fun _ _ _ _ k => y_ialdR (pc2 := 1505) rfl dL_law_1504 g547.1 (y_ix_in g547.2) k) ?_
                                                                                    refine y_lf (fun _ _ _ _ k => y_aload_n (x := v0_18) (pc2 := 1506) rfl dL_law_1505 rfl k) ?_
                                                                                    refine y_lf (fun _ _ _ _ k => y_iload_n (pc2 := 1507) rfl dL_law_1506 rfl k) ?_
                                                                                    refine y_lf (fun _ _ _ _ k => y_iconst (v := 2) (pc2 := 1508) rfl dL_law_1507 (by decide) k) ?_
                                                                                    refine y_lf (fun _ _ _ _ k => y_iadd (pc2 := 1509) rfl dL_law_1508 k) ?_
                                                                                    obtain ⟨g546, hf⟩ := y_g hf
                                                                                    refine y_lf (fun _ _ _ _ k => y_ialdR (pc2 := 1510) rfl dL_law_1509 g546.1 (y_ix_in g546.2) k) ?_
                                                                                    refine y_lf (fun _ _ _ _ k => y_aload_n (x := v0_18) (pc2 := 1511) rfl dL_law_1510 rfl k) ?_
                                                                                    refine y_lf (fun _ _ _ _ k => y_iload_n (pc2 := 1512) rfl dL_law_1511 rfl k) ?_
                                                                                    refine y_lf (fun _ _ _ _ k => y_iconst (v := 3) (pc2 := 1513) rfl dL_law_1512 (by decide) k) ?_
                                                                                    refine y_lf (fun _ _ _ _ k => y_iadd (pc2 := 1514) rfl dL_law_1513 k) ?_
                                                                                    obtain ⟨g545, hf⟩ := y_g hf
                                                                                    refine y_lf (fun _ _ _ _ k => y_ialdR (pc2 := 1515) rfl dL_law_1514 g545.1 (y_ix_in g545.2) k) ?_
                                                                                    refine y_lf (fun _ _ _ _ k => y_aload_n (x := v0_18) (pc2 := 1516) rfl dL_law_1515 rfl k) ?_
                                                                                    refine y_lf (fun _ _ _ _ k => y_iload_n (pc2 := 1517) rfl dL_law_1516 rfl k) ?_
                                                                                    refine y_lf (fun _ _ _ _ k => y_iconst (v := 4) (pc2 := 1518) rfl dL_law_1517 (by decide) k) ?_
                                                                                    refine y_lf (fun _ _ _ _ k => y_iadd (pc2 := 1519) rfl dL_law_1518 k) ?_
                                                                                    obtain ⟨g544, hf⟩ := y_g hf
                                                                                    refine y_lf (fun _ _ _ _ k => y_ialdR (pc2 := 1520) rfl dL_law_1519 g544.1 (y_ix_in g544.2) k) ?_
                                                                                    obtain ⟨g543, hf⟩ := y_g hf
                                                                                    obtain ⟨r539, h540, c541, hf⟩ := y_clE hf
                                                                                    refine y_UcV0 (As := [.int (y_I h537 v0_18 (Int32.toNatClampNeg (v3_18 + 1))), .int (y_I h537 v0_18 (Int32.toNatClampNeg (v3_18 + 2))), .int (y_I h537 v0_18 (Int32.toNatClampNeg (v3_18 + 3))), .int (y_I h537 v0_18 (Int32.toNatClampNeg (v3_18 + 4)))]) (rm := rm_X12_op) (pc2 := 1523) rfl dL_law_1520 n_X12_op l_BoxYardLaw_170 i_X12_op e_X12_op (ci := 12) rfl rfl (by decide) g543 rfl rfl (by decide) (by simp [y_ci, y_cj, y_p_cat]) rfl rfl (k_X12_op c541) ?_
                                                                                    refine y_lf2 (Classical.em _) (fun _ _ k1 k2 => y_icmp_eq (tgt := 1753) (pc2 := 1526) rfl dL_law_1523 (by decide) k1 k2) (fun c542 => ?_) (fun c542 => ?_)
                                                                                    · replace hf := y_it c542 hf
                                                                                      exact y_lf (fun _ _ _ _ k => y_pk [0, 1, 2, 3] rfl k) (hj1753 _ _ _ _ _ _ _ hf)
                                                                                    · replace hf := y_ie c542 hf
                                                                                      refine y_lf (fun _ _ _ _ k => y_iconst (v := 0) (pc2 := 1527) rfl dL_law_1526 (by decide) k) ?_
                                                                                      exact y_zretU (x := false) hf dL_law_1527 rfl
                                                                                  · replace hf := y_ie c535 hf
                                                                                    by_cases c553 : ((y_I h13 v0_18 (Int32.toNatClampNeg v3_18)) &&& 63) = 38
                                                                                    · replace hf := y_it c553 hf
                                                                                      refine y_lf (fun _ _ _ _ k => y_table (off := 1495) (tgt := 1528) dL_law_33 (by (rw [c553]) <;> decide) (by decide) k) ?_
                                                                                      refine y_lf (fun _ _ _ _ k => y_aload_n (x := v1_18) (pc2 := 1529) rfl dL_law_1528 rfl k) ?_
                                                                                      refine y_lf (fun _ _ _ _ k => y_aload_n (x := v0_18) (pc2 := 1530) rfl dL_law_1529 rfl k) ?_
                                                                                      refine y_lf (fun _ _ _ _ k => y_iload_n (pc2 := 1531) rfl dL_law_1530 rfl k) ?_
                                                                                      refine y_lf (fun _ _ _ _ k => y_iconst (v := 1) (pc2 := 1532) rfl dL_law_1531 (by decide) k) ?_
                                                                                      refine y_lf (fun _ _ _ _ k => y_iadd (pc2 := 1533) rfl dL_law_1532 k) ?_
                                                                                      obtain ⟨g564, hf⟩ := y_g hf
                                                                                      refine y_lf (fun _ _ _ _ k => y_ialdR (pc2 := 1534) rfl dL_law_1533 g564.1 (y_ix_in g564.2) k) ?_
                                                                                      obtain ⟨g563, hf⟩ := y_g hf
                                                                                      obtain ⟨r554, h555, c556, hf⟩ := y_clE hf
                                                                                      refine y_UcallV (As := [.int (y_I h13 v0_18 (Int32.toNatClampNeg (v3_18 + 1)))]) (pc2 := 1537) rfl dL_law_1534 n_X11_run l_BoxYardLaw_171 i_X11_run e_X11_run (ci := 11) rfl rfl (by decide) g563 rfl rfl (by decide) (by decide) (k_X11_run c556) ?_
                                                                                      refine y_lf (fun _ _ _ _ k => y_aload_n (x := v2_18) (pc2 := 1538) rfl dL_law_1537 rfl k) ?_
                                                                                      refine y_lf (fun _ _ _ _ k => y_aload_n (x := v0_18) (pc2 := 1539) rfl dL_law_1538 rfl k) ?_
                                                                                      refine y_lf (fun _ _ _ _ k => y_iload_n (pc2 := 1540) rfl dL_law_1539 rfl k) ?_
                                                                                      refine y_lf (fun _ _ _ _ k => y_iconst (v := 1) (pc2 := 1541) rfl dL_law_1540 (by decide) k) ?_
                                                                                      refine y_lf (fun _ _ _ _ k => y_iadd (pc2 := 1542) rfl dL_law_1541 k) ?_
                                                                                      obtain ⟨g562, hf⟩ := y_g hf
                                                                                      refine y_lf (fun _ _ _ _ k => y_ialdR (pc2 := 1543) rfl dL_law_1542 g562.1 (y_ix_in g562.2) k) ?_
                                                                                      obtain ⟨g561, hf⟩ := y_g hf
                                                                                      obtain ⟨r557, h558, c559, hf⟩ := y_clE hf
                                                                                      refine y_UcV0 (As := [.int (y_I h555 v0_18 (Int32.toNatClampNeg (v3_18 + 1)))]) (rm := rm_X12_run) (pc2 := 1546) rfl dL_law_1543 n_X12_run l_BoxYardLaw_174 i_X12_run e_X12_run (ci := 12) rfl rfl (by decide) g561 rfl rfl (by decide) (by simp [y_ci, y_cj, y_p_cat]) rfl rfl (k_X12_run c559) ?_
                                                                                      refine y_lf2 (Classical.em _) (fun _ _ k1 k2 => y_icmp_eq (tgt := 1753) (pc2 := 1549) rfl dL_law_1546 (by decide) k1 k2) (fun c560 => ?_) (fun c560 => ?_)
                                                                                      · replace hf := y_it c560 hf
                                                                                        exact y_lf (fun _ _ _ _ k => y_pk [0, 1, 2, 3] rfl k) (hj1753 _ _ _ _ _ _ _ hf)
                                                                                      · replace hf := y_ie c560 hf
                                                                                        refine y_lf (fun _ _ _ _ k => y_iconst (v := 0) (pc2 := 1550) rfl dL_law_1549 (by decide) k) ?_
                                                                                        exact y_zretU (x := false) hf dL_law_1550 rfl
                                                                                    · replace hf := y_ie c553 hf
                                                                                      by_cases c565 : ((y_I h13 v0_18 (Int32.toNatClampNeg v3_18)) &&& 63) = 39
                                                                                      · replace hf := y_it c565 hf
                                                                                        refine y_lf (fun _ _ _ _ k => y_table (off := 1518) (tgt := 1551) dL_law_33 (by (rw [c565]) <;> decide) (by decide) k) ?_
                                                                                        refine y_lf (fun _ _ _ _ k => y_aload_n (x := v1_18) (pc2 := 1552) rfl dL_law_1551 rfl k) ?_
                                                                                        obtain ⟨g574, hf⟩ := y_g hf
                                                                                        obtain ⟨r566, h567, c568, hf⟩ := y_clE hf
                                                                                        refine y_UcV0 (As := []) (rm := rm_X11_number) (pc2 := 1555) rfl dL_law_1552 n_X11_number l_BoxYardLaw_175 i_X11_number e_X11_number (ci := 11) rfl rfl (by decide) g574 rfl rfl (by decide) (by decide) rfl rfl (k_X11_number c568) ?_
                                                                                        refine y_lf (fun _ _ _ _ k => y_aload_n (x := v2_18) (pc2 := 1556) rfl dL_law_1555 rfl k) ?_
                                                                                        obtain ⟨g573, hf⟩ := y_g hf
                                                                                        obtain ⟨r569, h570, c571, hf⟩ := y_clE hf
                                                                                        refine y_UcV0 (As := []) (rm := rm_X12_number) (pc2 := 1559) rfl dL_law_1556 n_X12_number l_BoxYardLaw_179 i_X12_number e_X12_number (ci := 12) rfl rfl (by decide) g573 rfl rfl (by decide) (by simp [y_ci, y_cj, y_p_cat]) rfl rfl (k_X12_number c571) ?_
                                                                                        refine y_lf (fun _ _ _ _ k => y_lcmp (pc2 := 1560) rfl dL_law_1559 k) ?_
                                                                                        refine y_lf2 (Classical.em _) (fun _ _ k1 k2 => y_if_eq (tgt := 1753) (pc2 := 1563) rfl dL_law_1560 (by decide) k1 k2) (fun c572 => ?_) (fun c572 => ?_)
                                                                                        · replace hf := y_it c572 hf
                                                                                          exact y_lf (fun _ _ _ _ k => y_pk [0, 1, 2, 3] rfl k) (hj1753 _ _ _ _ _ _ _ hf)
                                                                                        · replace hf := y_ie c572 hf
                                                                                          refine y_lf (fun _ _ _ _ k => y_iconst (v := 0) (pc2 := 1564) rfl dL_law_1563 (by decide) k) ?_
                                                                                          exact y_zretU (x := false) hf dL_law_1564 rfl
                                                                                      · replace hf := y_ie c565 hf
                                                                                        by_cases c575 : ((y_I h13 v0_18 (Int32.toNatClampNeg v3_18)) &&& 63) = 40
                                                                                        · replace hf := y_it c575 hf
                                                                                          refine y_lf (fun _ _ _ _ k => y_table (off := 1532) (tgt := 1565) dL_law_33 (by (rw [c575]) <;> decide) (by decide) k) ?_
                                                                                          refine y_lf (fun _ _ _ _ k => y_aload_n (x := v1_18) (pc2 := 1566) rfl dL_law_1565 rfl k) ?_
                                                                                          refine y_lf (fun _ _ _ _ k => y_aload_n (x := v0_18) (pc2 := 1567) rfl dL_law_1566 rfl k) ?_
                                                                                          refine y_lf (fun _ _ _ _ k => y_iload_n (pc2 := 1568) rfl dL_law_1567 rfl k) ?_
                                                                                          refine y_lf (fun _ _ _ _ k => y_iconst (v := 1) (pc2 := 1569) rfl dL_law_1568 (by decide) k) ?_
                                                                                          refine y_lf (fun _ _ _ _ k => y_iadd (pc2 := 1570) rfl dL_law_1569 k) ?_
                                                                                          obtain ⟨g586, hf⟩ := y_g hf
                                                                                          refine y_lf (fun _ _ _ _ k => y_ialdR (pc2 := 1571) rfl dL_law_1570 g586.1 (y_ix_in g586.2) k) ?_
                                                                                          obtain ⟨g585, hf⟩ := y_g hf
                                                                                          obtain ⟨r576, h577, c578, hf⟩ := y_clE hf
                                                                                          refine y_UcV0 (As := [.int (y_I h13 v0_18 (Int32.toNatClampNeg (v3_18 + 1)))]) (rm := rm_X11_ran) (pc2 := 1574) rfl dL_law_1571 n_X11_ran l_BoxYardLaw_180 i_X11_ran e_X11_ran (ci := 11) rfl rfl (by decide) g585 rfl rfl (by decide) (by decide) rfl rfl (k_X11_ran c578) ?_
                                                                                          refine y_lf (fun _ _ _ _ k => y_aload_n (x := v2_18) (pc2 := 1575) rfl dL_law_1574 rfl k) ?_
                                                                                          refine y_lf (fun _ _ _ _ k => y_aload_n (x := v0_18) (pc2 := 1576) rfl dL_law_1575 rfl k) ?_
                                                                                          refine y_lf (fun _ _ _ _ k => y_iload_n (pc2 := 1577) rfl dL_law_1576 rfl k) ?_
                                                                                          refine y_lf (fun _ _ _ _ k => y_iconst (v := 1) (pc2 := 1578) rfl dL_law_1577 (by decide) k) ?_
                                                                                          refine y_lf (fun _ _ _ _ k => y_iadd (pc2 := 1579) rfl dL_law_1578 k) ?_
                                                                                          obtain ⟨g584, hf⟩ := y_g hf
                                                                                          refine y_lf (fun _ _ _ _ k => y_ialdR (pc2 := 1580) rfl dL_law_1579 g584.1 (y_ix_in g584.2) k) ?_
                                                                                          obtain ⟨g583, hf⟩ := y_g hf
                                                                                          obtain ⟨r579, h580, c581, hf⟩ := y_clE hf
                                                                                          refine y_UcV0 (As := [.int (y_I h577 v0_18 (Int32.toNatClampNeg (v3_18 + 1)))]) (rm := rm_X12_ran) (pc2 := 1583) rfl dL_law_1580 n_X12_ran l_BoxYardLaw_183 i_X12_ran e_X12_ran (ci := 12) rfl rfl (by decide) g583 rfl rfl (by decide) (by simp [y_ci, y_cj, y_p_cat]) rfl rfl (k_X12_ran c581) ?_
                                                                                          refine y_lf2 (Classical.em _) (fun _ _ k1 k2 => y_icmp_eq (tgt := 1753) (pc2 := 1586) rfl dL_law_1583 (by decide) k1 k2) (fun c582 => ?_) (fun c582 => ?_)
                                                                                          · replace hf := y_it c582 hf
                                                                                            exact y_lf (fun _ _ _ _ k => y_pk [0, 1, 2, 3] rfl k) (hj1753 _ _ _ _ _ _ _ hf)
                                                                                          · replace hf := y_ie c582 hf
                                                                                            refine y_lf (fun _ _ _ _ k => y_iconst (v := 0) (pc2 := 1587) rfl dL_law_1586 (by decide) k) ?_
                                                                                            exact y_zretU (x := false) hf dL_law_1587 rfl
                                                                                        · replace hf := y_ie c575 hf
                                                                                          by_cases c587 : ((y_I h13 v0_18 (Int32.toNatClampNeg v3_18)) &&& 63) = 41
                                                                                          · replace hf := y_it c587 hf
                                                                                            refine y_lf (fun _ _ _ _ k => y_table (off := 1555) (tgt := 1588) dL_law_33 (by (rw [c587]) <;> decide) (by decide) k) ?_
                                                                                            refine y_lf (fun _ _ _ _ k => y_aload_n (x := v1_18) (pc2 := 1589) rfl dL_law_1588 rfl k) ?_
                                                                                            refine y_lf (fun _ _ _ _ k => y_aload_n (x := v0_18) (pc2 := 1590) rfl dL_law_1589 rfl k) ?_
                                                                                            refine y_lf (fun _ _ _ _ k => y_iload_n (pc2 := 1591) rfl dL_law_1590 rfl k) ?_
                                                                                            refine y_lf (fun _ _ _ _ k => y_iconst (v := 1) (pc2 := 1592) rfl dL_law_1591 (by decide) k) ?_
                                                                                            refine y_lf (fun _ _ _ _ k => y_iadd (pc2 := 1593) rfl dL_law_1592 k) ?_
                                                                                            obtain ⟨g600, hf⟩ := y_g hf
                                                                                            refine y_lf (fun _ _ _ _ k => y_ialdR (pc2 := 1594) rfl dL_law_1593 g600.1 (y_ix_in g600.2) k) ?_
                                                                                            refine y_lf (fun _ _ _ _ k => y_aload_n (x := v0_18) (pc2 := 1595) rfl dL_law_1594 rfl k) ?_
                                                                                            refine y_lf (fun _ _ _ _ k => y_iload_n (pc2 := 1596) rfl dL_law_1595 rfl k) ?_
                                                                                            refine y_lf (fun _ _ _ _ k => y_iconst (v := 2) (pc2 := 1597) rfl dL_law_1596 (by decide) k) ?_
                                                                                            refine y_lf (fun _ _ _ _ k => y_iadd (pc2 := 1598) rfl dL_law_1597 k) ?_
                                                                                            obtain ⟨g599, hf⟩ := y_g hf
                                                                                            refine y_lf (fun _ _ _ _ k => y_ialdR (pc2 := 1599) rfl dL_law_1598 g599.1 (y_ix_in g599.2) k) ?_
                                                                                            obtain ⟨g598, hf⟩ := y_g hf
                                                                                            obtain ⟨r588, h589, c590, hf⟩ := y_clE hf
                                                                                            refine y_UcV0 (As := [.int (y_I h13 v0_18 (Int32.toNatClampNeg (v3_18 + 1))), .int (y_I h13 v0_18 (Int32.toNatClampNeg (v3_18 + 2)))]) (rm := rm_X11_shelf) (pc2 := 1602) rfl dL_law_1599 n_X11_shelf l_BoxYardLaw_184 i_X11_shelf e_X11_shelf (ci := 11) rfl rfl (by decide) g598 rfl rfl (by decide) (by decide) rfl rfl (k_X11_shelf c590) ?_
                                                                                            refine y_lf (fun _ _ _ _ k => y_aload_n (x := v2_18) (pc2 := 1603) rfl dL_law_1602 rfl k) ?_
                                                                                            refine y_lf (fun _ _ _ _ k => y_aload_n (x := v0_18) (pc2 := 1604) rfl dL_law_1603 rfl k) ?_
                                                                                            refine y_lf (fun _ _ _ _ k => y_iload_n (pc2 := 1605) rfl dL_law_1604 rfl k) ?_
                                                                                            refine y_lf (fun _ _ _ _ k => y_iconst (v := 1) (pc2 := 1606) rfl dL_law_1605 (by decide) k) ?_
                                                                                            refine y_lf (fun _ _ _ _ k => y_iadd (pc2 := 1607) rfl dL_law_1606 k) ?_
                                                                                            obtain ⟨g597, hf⟩ := y_g hf
                                                                                            refine y_lf (fun _ _ _ _ k => y_ialdR (pc2 := 1608) rfl dL_law_1607 g597.1 (y_ix_in g597.2) k) ?_
                                                                                            refine y_lf (fun _ _ _ _ k => y_aload_n (x := v0_18) (pc2 := 1609) rfl dL_law_1608 rfl k) ?_
                                                                                            refine y_lf (fun _ _ _ _ k => y_iload_n (pc2 := 1610) rfl dL_law_1609 rfl k) ?_
                                                                                            refine y_lf (fun _ _ _ _ k => y_iconst (v := 2) (pc2 := 1611) rfl dL_law_1610 (by decide) k) ?_
                                                                                            refine y_lf (fun _ _ _ _ k => y_iadd (pc2 := 1612) rfl dL_law_1611 k) ?_
                                                                                            obtain ⟨g596, hf⟩ := y_g hf
                                                                                            refine y_lf (fun _ _ _ _ k => y_ialdR (pc2 := 1613) rfl dL_law_1612 g596.1 (y_ix_in g596.2) k) ?_
                                                                                            obtain ⟨g595, hf⟩ := y_g hf
                                                                                            obtain ⟨r591, h592, c593, hf⟩ := y_clE hf
                                                                                            refine y_UcV0 (As := [.int (y_I h589 v0_18 (Int32.toNatClampNeg (v3_18 + 1))), .int (y_I h589 v0_18 (Int32.toNatClampNeg (v3_18 + 2)))]) (rm := rm_X12_shelf) (pc2 := 1616) rfl dL_law_1613 n_X12_shelf l_BoxYardLaw_187 i_X12_shelf e_X12_shelf (ci := 12) rfl rfl (by decide) g595 rfl rfl (by decide) (by simp [y_ci, y_cj, y_p_cat]) rfl rfl (k_X12_shelf c593) ?_
                                                                                            refine y_lf2 (Classical.em _) (fun _ _ k1 k2 => y_icmp_eq (tgt := 1753) (pc2 := 1619) rfl dL_law_1616 (by decide) k1 k2) (fun c594 => ?_) (fun c594 => ?_)
                                                                                            · replace hf := y_it c594 hf
                                                                                              exact y_lf (fun _ _ _ _ k => y_pk [0, 1, 2, 3] rfl k) (hj1753 _ _ _ _ _ _ _ hf)
                                                                                            · replace hf := y_ie c594 hf
                                                                                              refine y_lf (fun _ _ _ _ k => y_iconst (v := 0) (pc2 := 1620) rfl dL_law_1619 (by decide) k) ?_
                                                                                              exact y_zretU (x := false) hf dL_law_1620 rfl
                                                                                          · replace hf := y_ie c587 hf
                                                                                            by_cases c601 : ((y_I h13 v0_18 (Int32.toNatClampNeg v3_18)) &&& 63) = 42
                                                                                            · replace hf := y_it c601 hf
                                                                                              refine y_lf (fun _ _ _ _ k => y_table (off := 1588) (tgt := 1621) dL_law_33 (by (rw [c601]) <;> decide) (by decide) k) ?_
                                                                                              refine y_lf (fun _ _ _ _ k => y_aload_n (x := v1_18) (pc2 := 1622) rfl dL_law_1621 rfl k) ?_
                                                                                              obtain ⟨g610, hf⟩ := y_g hf
                                                                                              obtain ⟨r602, h603, c604, hf⟩ := y_clE hf
                                                                                              refine y_UcV0 (As := []) (rm := rm_X11_status) (pc2 := 1625) rfl dL_law_1622 n_X11_status l_BoxYardLaw_188 i_X11_status e_X11_status (ci := 11) rfl rfl (by decide) g610 rfl rfl (by decide) (by decide) rfl rfl (k_X11_status c604) ?_
                                                                                              refine y_lf (fun _ _ _ _ k => y_aload_n (x := v2_18) (pc2 := 1626) rfl dL_law_1625 rfl k) ?_
                                                                                              obtain ⟨g609, hf⟩ := y_g hf
                                                                                              obtain ⟨r605, h606, c607, hf⟩ := y_clE hf
                                                                                              refine y_UcV0 (As := []) (rm := rm_X12_status) (pc2 := 1629) rfl dL_law_1626 n_X12_status l_BoxYardLaw_191 i_X12_status e_X12_status (ci := 12) rfl rfl (by decide) g609 rfl rfl (by decide) (by simp [y_ci, y_cj, y_p_cat]) rfl rfl (k_X12_status c607) ?_
                                                                                              refine y_lf2 (Classical.em _) (fun _ _ k1 k2 => y_icmp_eq (tgt := 1753) (pc2 := 1632) rfl dL_law_1629 (by decide) k1 k2) (fun c608 => ?_) (fun c608 => ?_)
                                                                                              · replace hf := y_it c608 hf
                                                                                                exact y_lf (fun _ _ _ _ k => y_pk [0, 1, 2, 3] rfl k) (hj1753 _ _ _ _ _ _ _ hf)
                                                                                              · replace hf := y_ie c608 hf
                                                                                                refine y_lf (fun _ _ _ _ k => y_iconst (v := 0) (pc2 := 1633) rfl dL_law_1632 (by decide) k) ?_
                                                                                                exact y_zretU (x := false) hf dL_law_1633 rfl
                                                                                            · replace hf := y_ie c601 hf
                                                                                              by_cases c611 : ((y_I h13 v0_18 (Int32.toNatClampNeg v3_18)) &&& 63) = 43
                                                                                              · replace hf := y_it c611 hf
                                                                                                refine y_lf (fun _ _ _ _ k => y_table (off := 1601) (tgt := 1634) dL_law_33 (by (rw [c611]) <;> decide) (by decide) k) ?_
                                                                                                refine y_lf (fun _ _ _ _ k => y_aload_n (x := v1_18) (pc2 := 1635) rfl dL_law_1634 rfl k) ?_
                                                                                                refine y_lf (fun _ _ _ _ k => y_aload_n (x := v0_18) (pc2 := 1636) rfl dL_law_1635 rfl k) ?_
                                                                                                refine y_lf (fun _ _ _ _ k => y_iload_n (pc2 := 1637) rfl dL_law_1636 rfl k) ?_
                                                                                                refine y_lf (fun _ _ _ _ k => y_iconst (v := 1) (pc2 := 1638) rfl dL_law_1637 (by decide) k) ?_
                                                                                                refine y_lf (fun _ _ _ _ k => y_iadd (pc2 := 1639) rfl dL_law_1638 k) ?_
                                                                                                obtain ⟨g622, hf⟩ := y_g hf
                                                                                                refine y_lf (fun _ _ _ _ k => y_ialdR (pc2 := 1640) rfl dL_law_1639 g622.1 (y_ix_in g622.2) k) ?_
                                                                                                obtain ⟨g621, hf⟩ := y_g hf
                                                                                                obtain ⟨r612, h613, c614, hf⟩ := y_clE hf
                                                                                                refine y_UcV0 (As := [.int (y_I h13 v0_18 (Int32.toNatClampNeg (v3_18 + 1)))]) (rm := rm_X11_found) (pc2 := 1643) rfl dL_law_1640 n_X11_found l_BoxYardLaw_192 i_X11_found e_X11_found (ci := 11) rfl rfl (by decide) g621 rfl rfl (by decide) (by decide) rfl rfl (k_X11_found c614) ?_
                                                                                                refine y_lf (fun _ _ _ _ k => y_aload_n (x := v2_18) (pc2 := 1644) rfl dL_law_1643 rfl k) ?_
                                                                                                refine y_lf (fun _ _ _ _ k => y_aload_n (x := v0_18) (pc2 := 1645) rfl dL_law_1644 rfl k) ?_
                                                                                                refine y_lf (fun _ _ _ _ k => y_iload_n (pc2 := 1646) rfl dL_law_1645 rfl k) ?_
                                                                                                refine y_lf (fun _ _ _ _ k => y_iconst (v := 1) (pc2 := 1647) rfl dL_law_1646 (by decide) k) ?_
                                                                                                refine y_lf (fun _ _ _ _ k => y_iadd (pc2 := 1648) rfl dL_law_1647 k) ?_
                                                                                                obtain ⟨g620, hf⟩ := y_g hf
                                                                                                refine y_lf (fun _ _ _ _ k => y_ialdR (pc2 := 1649) rfl dL_law_1648 g620.1 (y_ix_in g620.2) k) ?_
                                                                                                obtain ⟨g619, hf⟩ := y_g hf
                                                                                                obtain ⟨r615, h616, c617, hf⟩ := y_clE hf
                                                                                                refine y_UcV0 (As := [.int (y_I h613 v0_18 (Int32.toNatClampNeg (v3_18 + 1)))]) (rm := rm_X12_found) (pc2 := 1652) rfl dL_law_1649 n_X12_found l_BoxYardLaw_195 i_X12_found e_X12_found (ci := 12) rfl rfl (by decide) g619 rfl rfl (by decide) (by simp [y_ci, y_cj, y_p_cat]) rfl rfl (k_X12_found c617) ?_
                                                                                                refine y_lf2 (Classical.em _) (fun _ _ k1 k2 => y_icmp_eq (tgt := 1753) (pc2 := 1655) rfl dL_law_1652 (by decide) k1 k2) (fun c618 => ?_) (fun c618 => ?_)
                                                                                                · replace hf := y_it c618 hf
                                                                                                  exact y_lf (fun _ _ _ _ k => y_pk [0, 1, 2, 3] rfl k) (hj1753 _ _ _ _ _ _ _ hf)
                                                                                                · replace hf := y_ie c618 hf
                                                                                                  refine y_lf (fun _ _ _ _ k => y_iconst (v := 0) (pc2 := 1656) rfl dL_law_1655 (by decide) k) ?_
                                                                                                  exact y_zretU (x := false) hf dL_law_1656 rfl
                                                                                              · replace hf := y_ie c611 hf
                                                                                                by_cases c623 : ((y_I h13 v0_18 (Int32.toNatClampNeg v3_18)) &&& 63) = 44
                                                                                                · replace hf := y_it c623 hf
                                                                                                  refine y_lf (fun _ _ _ _ k => y_table (off := 1624) (tgt := 1657) dL_law_33 (by (rw [c623]) <;> decide) (by decide) k) ?_
                                                                                                  refine y_lf (fun _ _ _ _ k => y_aload_n (x := v1_18) (pc2 := 1658) rfl dL_law_1657 rfl k) ?_
                                                                                                  refine y_lf (fun _ _ _ _ k => y_aload_n (x := v0_18) (pc2 := 1659) rfl dL_law_1658 rfl k) ?_
                                                                                                  refine y_lf (fun _ _ _ _ k => y_iload_n (pc2 := 1660) rfl dL_law_1659 rfl k) ?_
                                                                                                  refine y_lf (fun _ _ _ _ k => y_iconst (v := 1) (pc2 := 1661) rfl dL_law_1660 (by decide) k) ?_
                                                                                                  refine y_lf (fun _ _ _ _ k => y_iadd (pc2 := 1662) rfl dL_law_1661 k) ?_
                                                                                                  obtain ⟨g634, hf⟩ := y_g hf
                                                                                                  refine y_lf (fun _ _ _ _ k => y_ialdR (pc2 := 1663) rfl dL_law_1662 g634.1 (y_ix_in g634.2) k) ?_
                                                                                                  obtain ⟨g633, hf⟩ := y_g hf
                                                                                                  obtain ⟨r624, h625, c626, hf⟩ := y_clE hf
                                                                                                  refine y_UcV0 (As := [.int (y_I h13 v0_18 (Int32.toNatClampNeg (v3_18 + 1)))]) (rm := rm_X11_trace) (pc2 := 1666) rfl dL_law_1663 n_X11_trace l_BoxYardLaw_196 i_X11_trace e_X11_trace (ci := 11) rfl rfl (by decide) g633 rfl rfl (by decide) (by decide) rfl rfl (k_X11_trace c626) ?_
                                                                                                  refine y_lf (fun _ _ _ _ k => y_aload_n (x := v2_18) (pc2 := 1667) rfl dL_law_1666 rfl k) ?_
                                                                                                  refine y_lf (fun _ _ _ _ k => y_aload_n (x := v0_18) (pc2 := 1668) rfl dL_law_1667 rfl k) ?_
                                                                                                  refine y_lf (fun _ _ _ _ k => y_iload_n (pc2 := 1669) rfl dL_law_1668 rfl k) ?_
                                                                                                  refine y_lf (fun _ _ _ _ k => y_iconst (v := 1) (pc2 := 1670) rfl dL_law_1669 (by decide) k) ?_
                                                                                                  refine y_lf (fun _ _ _ _ k => y_iadd (pc2 := 1671) rfl dL_law_1670 k) ?_
                                                                                                  obtain ⟨g632, hf⟩ := y_g hf
                                                                                                  refine y_lf (fun _ _ _ _ k => y_ialdR (pc2 := 1672) rfl dL_law_1671 g632.1 (y_ix_in g632.2) k) ?_
                                                                                                  obtain ⟨g631, hf⟩ := y_g hf
                                                                                                  obtain ⟨r627, h628, c629, hf⟩ := y_clE hf
                                                                                                  refine y_UcV0 (As := [.int (y_I h625 v0_18 (Int32.toNatClampNeg (v3_18 + 1)))]) (rm := rm_X12_trace) (pc2 := 1675) rfl dL_law_1672 n_X12_trace l_BoxYardLaw_199 i_X12_trace e_X12_trace (ci := 12) rfl rfl (by decide) g631 rfl rfl (by decide) (by simp [y_ci, y_cj, y_p_cat]) rfl rfl (k_X12_trace c629) ?_
                                                                                                  refine y_lf2 (Classical.em _) (fun _ _ k1 k2 => y_icmp_eq (tgt := 1753) (pc2 := 1678) rfl dL_law_1675 (by decide) k1 k2) (fun c630 => ?_) (fun c630 => ?_)
                                                                                                  · replace hf := y_it c630 hf
                                                                                                    exact y_lf (fun _ _ _ _ k => y_pk [0, 1, 2, 3] rfl k) (hj1753 _ _ _ _ _ _ _ hf)
                                                                                                  · replace hf := y_ie c630 hf
                                                                                                    refine y_lf (fun _ _ _ _ k => y_iconst (v := 0) (pc2 := 1679) rfl dL_law_1678 (by decide) k) ?_
                                                                                                    exact y_zretU (x := false) hf dL_law_1679 rfl
                                                                                                · replace hf := y_ie c623 hf
                                                                                                  by_cases c635 : ((y_I h13 v0_18 (Int32.toNatClampNeg v3_18)) &&& 63) = 45
                                                                                                  · replace hf := y_it c635 hf
                                                                                                    refine y_lf (fun _ _ _ _ k => y_table (off := 1647) (tgt := 1680) dL_law_33 (by (rw [c635]) <;> decide) (by decide) k) ?_
                                                                                                    refine y_lf (fun _ _ _ _ k => y_aload_n (x := v1_18) (pc2 := 1681) rfl dL_law_1680 rfl k) ?_
                                                                                                    obtain ⟨g644, hf⟩ := y_g hf
                                                                                                    obtain ⟨r636, h637, c638, hf⟩ := y_clE hf
                                                                                                    refine y_UcV0 (As := []) (rm := rm_X11_undo) (pc2 := 1684) rfl dL_law_1681 n_X11_undo l_BoxYardLaw_200 i_X11_undo e_X11_undo (ci := 11) rfl rfl (by decide) g644 rfl rfl (by decide) (by decide) rfl rfl (k_X11_undo c638) ?_
                                                                                                    refine y_lf (fun _ _ _ _ k => y_aload_n (x := v2_18) (pc2 := 1685) rfl dL_law_1684 rfl k) ?_
                                                                                                    obtain ⟨g643, hf⟩ := y_g hf
                                                                                                    obtain ⟨r639, h640, c641, hf⟩ := y_clE hf
                                                                                                    refine y_UcV0 (As := []) (rm := rm_X12_undo) (pc2 := 1688) rfl dL_law_1685 n_X12_undo l_BoxYardLaw_203 i_X12_undo e_X12_undo (ci := 12) rfl rfl (by decide) g643 rfl rfl (by decide) (by simp [y_ci, y_cj, y_p_cat]) rfl rfl (k_X12_undo c641) ?_
                                                                                                    refine y_lf2 (Classical.em _) (fun _ _ k1 k2 => y_icmp_eq (tgt := 1753) (pc2 := 1691) rfl dL_law_1688 (by decide) k1 k2) (fun c642 => ?_) (fun c642 => ?_)
                                                                                                    · replace hf := y_it c642 hf
                                                                                                      exact y_lf (fun _ _ _ _ k => y_pk [0, 1, 2, 3] rfl k) (hj1753 _ _ _ _ _ _ _ hf)
                                                                                                    · replace hf := y_ie c642 hf
                                                                                                      refine y_lf (fun _ _ _ _ k => y_iconst (v := 0) (pc2 := 1692) rfl dL_law_1691 (by decide) k) ?_
                                                                                                      exact y_zretU (x := false) hf dL_law_1692 rfl
                                                                                                  · replace hf := y_ie c635 hf
                                                                                                    by_cases c645 : ((y_I h13 v0_18 (Int32.toNatClampNeg v3_18)) &&& 63) = 46
                                                                                                    · replace hf := y_it c645 hf
                                                                                                      refine y_lf (fun _ _ _ _ k => y_table (off := 1660) (tgt := 1693) dL_law_33 (by (rw [c645]) <;> decide) (by decide) k) ?_
                                                                                                      refine y_lf (fun _ _ _ _ k => y_aload_n (x := v1_18) (pc2 := 1694) rfl dL_law_1693 rfl k) ?_
                                                                                                      refine y_lf (fun _ _ _ _ k => y_aload_n (x := v0_18) (pc2 := 1695) rfl dL_law_1694 rfl k) ?_
                                                                                                      refine y_lf (fun _ _ _ _ k => y_iload_n (pc2 := 1696) rfl dL_law_1695 rfl k) ?_
                                                                                                      refine y_lf (fun _ _ _ _ k => y_iconst (v := 1) (pc2 := 1697) rfl dL_law_1696 (by decide) k) ?_
                                                                                                      refine y_lf (fun _ _ _ _ k => y_iadd (pc2 := 1698) rfl dL_law_1697 k) ?_
                                                                                                      obtain ⟨g656, hf⟩ := y_g hf
                                                                                                      refine y_lf (fun _ _ _ _ k => y_ialdR (pc2 := 1699) rfl dL_law_1698 g656.1 (y_ix_in g656.2) k) ?_
                                                                                                      obtain ⟨g655, hf⟩ := y_g hf
                                                                                                      obtain ⟨r646, h647, c648, hf⟩ := y_clE hf
                                                                                                      refine y_UcV0 (As := [.int (y_I h13 v0_18 (Int32.toNatClampNeg (v3_18 + 1)))]) (rm := rm_X11_back) (pc2 := 1702) rfl dL_law_1699 n_X11_back l_BoxYardLaw_204 i_X11_back e_X11_back (ci := 11) rfl rfl (by decide) g655 rfl rfl (by decide) (by decide) rfl rfl (k_X11_back c648) ?_
                                                                                                      refine y_lf (fun _ _ _ _ k => y_aload_n (x := v2_18) (pc2 := 1703) rfl dL_law_1702 rfl k) ?_
                                                                                                      refine y_lf (fun _ _ _ _ k => y_aload_n (x := v0_18) (pc2 := 1704) rfl dL_law_1703 rfl k) ?_
                                                                                                      refine y_lf (fun _ _ _ _ k => y_iload_n (pc2 := 1705) rfl dL_law_1704 rfl k) ?_
                                                                                                      refine y_lf (fun _ _ _ _ k => y_iconst (v := 1) (pc2 := 1706) rfl dL_law_1705 (by decide) k) ?_
                                                                                                      refine y_lf (fun _ _ _ _ k => y_iadd (pc2 := 1707) rfl dL_law_1706 k) ?_
                                                                                                      obtain ⟨g654, hf⟩ := y_g hf
                                                                                                      refine y_lf (fun _ _ _ _ k => y_ialdR (pc2 := 1708) rfl dL_law_1707 g654.1 (y_ix_in g654.2) k) ?_
                                                                                                      obtain ⟨g653, hf⟩ := y_g hf
                                                                                                      obtain ⟨r649, h650, c651, hf⟩ := y_clE hf
                                                                                                      refine y_UcV0 (As := [.int (y_I h647 v0_18 (Int32.toNatClampNeg (v3_18 + 1)))]) (rm := rm_X12_back) (pc2 := 1711) rfl dL_law_1708 n_X12_back l_BoxYardLaw_208 i_X12_back e_X12_back (ci := 12) rfl rfl (by decide) g653 rfl rfl (by decide) (by simp [y_ci, y_cj, y_p_cat]) rfl rfl (k_X12_back c651) ?_
                                                                                                      refine y_lf (fun _ _ _ _ k => y_lcmp (pc2 := 1712) rfl dL_law_1711 k) ?_
                                                                                                      refine y_lf2 (Classical.em _) (fun _ _ k1 k2 => y_if_eq (tgt := 1753) (pc2 := 1715) rfl dL_law_1712 (by decide) k1 k2) (fun c652 => ?_) (fun c652 => ?_)
                                                                                                      · replace hf := y_it c652 hf
                                                                                                        exact y_lf (fun _ _ _ _ k => y_pk [0, 1, 2, 3] rfl k) (hj1753 _ _ _ _ _ _ _ hf)
                                                                                                      · replace hf := y_ie c652 hf
                                                                                                        refine y_lf (fun _ _ _ _ k => y_iconst (v := 0) (pc2 := 1716) rfl dL_law_1715 (by decide) k) ?_
                                                                                                        exact y_zretU (x := false) hf dL_law_1716 rfl
                                                                                                    · replace hf := y_ie c645 hf
                                                                                                      by_cases c657 : ((y_I h13 v0_18 (Int32.toNatClampNeg v3_18)) &&& 63) = 47
                                                                                                      · replace hf := y_it c657 hf
                                                                                                        refine y_lf (fun _ _ _ _ k => y_table (off := 1684) (tgt := 1717) dL_law_33 (by (rw [c657]) <;> decide) (by decide) k) ?_
                                                                                                        refine y_lf (fun _ _ _ _ k => y_aload_n (x := v1_18) (pc2 := 1718) rfl dL_law_1717 rfl k) ?_
                                                                                                        refine y_lf (fun _ _ _ _ k => y_aload_n (x := v0_18) (pc2 := 1719) rfl dL_law_1718 rfl k) ?_
                                                                                                        refine y_lf (fun _ _ _ _ k => y_iload_n (pc2 := 1720) rfl dL_law_1719 rfl k) ?_
                                                                                                        refine y_lf (fun _ _ _ _ k => y_iconst (v := 1) (pc2 := 1721) rfl dL_law_1720 (by decide) k) ?_
                                                                                                        refine y_lf (fun _ _ _ _ k => y_iadd (pc2 := 1722) rfl dL_law_1721 k) ?_
                                                                                                        obtain ⟨g668, hf⟩ := y_g hf
                                                                                                        refine y_lf (fun _ _ _ _ k => y_ialdR (pc2 := 1723) rfl dL_law_1722 g668.1 (y_ix_in g668.2) k) ?_
                                                                                                        obtain ⟨g667, hf⟩ := y_g hf
                                                                                                        obtain ⟨r658, h659, c660, hf⟩ := y_clE hf
                                                                                                        refine y_UcV0 (As := [.int (y_I h13 v0_18 (Int32.toNatClampNeg (v3_18 + 1)))]) (rm := rm_X11_count) (pc2 := 1726) rfl dL_law_1723 n_X11_count l_BoxYardLaw_209 i_X11_count e_X11_count (ci := 11) rfl rfl (by decide) g667 rfl rfl (by decide) (by decide) rfl rfl (k_X11_count c660) ?_
                                                                                                        refine y_lf (fun _ _ _ _ k => y_aload_n (x := v2_18) (pc2 := 1727) rfl dL_law_1726 rfl k) ?_
                                                                                                        refine y_lf (fun _ _ _ _ k => y_aload_n (x := v0_18) (pc2 := 1728) rfl dL_law_1727 rfl k) ?_
                                                                                                        refine y_lf (fun _ _ _ _ k => y_iload_n (pc2 := 1729) rfl dL_law_1728 rfl k) ?_
                                                                                                        refine y_lf (fun _ _ _ _ k => y_iconst (v := 1) (pc2 := 1730) rfl dL_law_1729 (by decide) k) ?_
                                                                                                        refine y_lf (fun _ _ _ _ k => y_iadd (pc2 := 1731) rfl dL_law_1730 k) ?_
                                                                                                        obtain ⟨g666, hf⟩ := y_g hf
                                                                                                        refine y_lf (fun _ _ _ _ k => y_ialdR (pc2 := 1732) rfl dL_law_1731 g666.1 (y_ix_in g666.2) k) ?_
                                                                                                        obtain ⟨g665, hf⟩ := y_g hf
                                                                                                        obtain ⟨r661, h662, c663, hf⟩ := y_clE hf
                                                                                                        refine y_UcV0 (As := [.int (y_I h659 v0_18 (Int32.toNatClampNeg (v3_18 + 1)))]) (rm := rm_X12_count) (pc2 := 1735) rfl dL_law_1732 n_X12_count l_BoxYardLaw_212 i_X12_count e_X12_count (ci := 12) rfl rfl (by decide) g665 rfl rfl (by decide) (by simp [y_ci, y_cj, y_p_cat]) rfl rfl (k_X12_count c663) ?_
                                                                                                        refine y_lf2 (Classical.em _) (fun _ _ k1 k2 => y_icmp_eq (tgt := 1753) (pc2 := 1738) rfl dL_law_1735 (by decide) k1 k2) (fun c664 => ?_) (fun c664 => ?_)
                                                                                                        · replace hf := y_it c664 hf
                                                                                                          exact y_lf (fun _ _ _ _ k => y_pk [0, 1, 2, 3] rfl k) (hj1753 _ _ _ _ _ _ _ hf)
                                                                                                        · replace hf := y_ie c664 hf
                                                                                                          refine y_lf (fun _ _ _ _ k => y_iconst (v := 0) (pc2 := 1739) rfl dL_law_1738 (by decide) k) ?_
                                                                                                          exact y_zretU (x := false) hf dL_law_1739 rfl
                                                                                                      · replace hf := y_ie c657 hf
                                                                                                        by_cases c669 : ((y_I h13 v0_18 (Int32.toNatClampNeg v3_18)) &&& 63) = 48
                                                                                                        · replace hf := y_it c669 hf
                                                                                                          refine y_lf (fun _ _ _ _ k => y_table (off := 1707) (tgt := 1740) dL_law_33 (by (rw [c669]) <;> decide) (by decide) k) ?_
                                                                                                          refine y_lf (fun _ _ _ _ k => y_aload_n (x := v1_18) (pc2 := 1741) rfl dL_law_1740 rfl k) ?_
                                                                                                          obtain ⟨g678, hf⟩ := y_g hf
                                                                                                          obtain ⟨r670, h671, c672, hf⟩ := y_clE hf
                                                                                                          refine y_UcV0 (As := []) (rm := rm_X11_clear) (pc2 := 1744) rfl dL_law_1741 n_X11_clear l_BoxYardLaw_213 i_X11_clear e_X11_clear (ci := 11) rfl rfl (by decide) g678 rfl rfl (by decide) (by decide) rfl rfl (k_X11_clear c672) ?_
                                                                                                          refine y_lf (fun _ _ _ _ k => y_aload_n (x := v2_18) (pc2 := 1745) rfl dL_law_1744 rfl k) ?_
                                                                                                          obtain ⟨g677, hf⟩ := y_g hf
                                                                                                          obtain ⟨r673, h674, c675, hf⟩ := y_clE hf
                                                                                                          refine y_UcV0 (As := []) (rm := rm_X12_clear) (pc2 := 1748) rfl dL_law_1745 n_X12_clear l_BoxYardLaw_216 i_X12_clear e_X12_clear (ci := 12) rfl rfl (by decide) g677 rfl rfl (by decide) (by simp [y_ci, y_cj, y_p_cat]) rfl rfl (k_X12_clear c675) ?_
                                                                                                          refine y_lf2 (Classical.em _) (fun _ _ k1 k2 => y_icmp_eq (tgt := 1753) (pc2 := 1751) rfl dL_law_1748 (by decide) k1 k2) (fun c676 => ?_) (fun c676 => ?_)
                                                                                                          · replace hf := y_it c676 hf
                                                                                                            exact y_lf (fun _ _ _ _ k => y_pk [0, 1, 2, 3] rfl k) (hj1753 _ _ _ _ _ _ _ hf)
                                                                                                          · replace hf := y_ie c676 hf
                                                                                                            refine y_lf (fun _ _ _ _ k => y_iconst (v := 0) (pc2 := 1752) rfl dL_law_1751 (by decide) k) ?_
                                                                                                            exact y_zretU (x := false) hf dL_law_1752 rfl
                                                                                                        · replace hf := y_ie c669 hf
                                                                                                          refine y_lf (fun _ _ _ _ k => y_table (off := 1720) (tgt := 1753) dL_law_33 ((if_pos (by have q0 := lv_neT c15 (a := 0) (by decide); have q1 := lv_neT c35 (a := 1) (by decide); have q2 := lv_neT c49 (a := 2) (by decide); have q3 := lv_neT c63 (a := 3) (by decide); have q4 := lv_neT c79 (a := 4) (by decide); have q5 := lv_neT c95 (a := 5) (by decide); have q6 := lv_neT c111 (a := 6) (by decide); have q7 := lv_neT c127 (a := 7) (by decide); have q8 := lv_neT c139 (a := 8) (by decide); have q9 := lv_neT c153 (a := 9) (by decide); have q10 := lv_neT c169 (a := 10) (by decide); have q11 := lv_neT c181 (a := 11) (by decide); have q12 := lv_neT c195 (a := 12) (by decide); have q13 := lv_neT c209 (a := 13) (by decide); have q14 := lv_neT c223 (a := 14) (by decide); have q15 := lv_neT c237 (a := 15) (by decide); have q16 := lv_neT c251 (a := 16) (by decide); have q17 := lv_neT c265 (a := 17) (by decide); have q18 := lv_neT c279 (a := 18) (by decide); have q19 := lv_neT c291 (a := 19) (by decide); have q20 := lv_neT c303 (a := 20) (by decide); have q21 := lv_neT c321 (a := 21) (by decide); have q22 := lv_neT c333 (a := 22) (by decide); have q23 := lv_neT c351 (a := 23) (by decide); have q24 := lv_neT c367 (a := 24) (by decide); have q25 := lv_neT c381 (a := 25) (by decide); have q26 := lv_neT c401 (a := 26) (by decide); have q27 := lv_neT c415 (a := 27) (by decide); have q28 := lv_neT c427 (a := 28) (by decide); have q29 := lv_neT c439 (a := 29) (by decide); have q30 := lv_neT c451 (a := 30) (by decide); have q31 := lv_neT c463 (a := 31) (by decide); have q32 := lv_neT c473 (a := 32) (by decide); have q33 := lv_neT c485 (a := 33) (by decide); have q34 := lv_neT c499 (a := 34) (by decide); have q35 := lv_neT c515 (a := 35) (by decide); have q36 := lv_neT c525 (a := 36) (by decide); have q37 := lv_neT c535 (a := 37) (by decide); have q38 := lv_neT c553 (a := 38) (by decide); have q39 := lv_neT c565 (a := 39) (by decide); have q40 := lv_neT c575 (a := 40) (by decide); have q41 := lv_neT c587 (a := 41) (by decide); have q42 := lv_neT c601 (a := 42) (by decide); have q43 := lv_neT c611 (a := 43) (by decide); have q44 := lv_neT c623 (a := 44) (by decide); have q45 := lv_neT c635 (a := 45) (by decide); have q46 := lv_neT c645 (a := 46) (by decide); have q47 := lv_neT c657 (a := 47) (by decide); have q48 := lv_neT c669 (a := 48) (by decide); omega))) (by decide) k) ?_
                                                                                                          exact y_lf (fun _ _ _ _ k => y_pk [0, 1, 2, 3] rfl k) (hj1753 _ _ _ _ _ _ _ hf)
  · refine y_lf (fun _ _ _ _ k => y_istore_n (lv' := [(3, .int 0), (2, y_p 11), (1, y_p 10), (0, y_p p0)]) (pc2 := 18) rfl dL_law_17 (by decide) (by show y_st1 _ 3 _ = _; simp [y_st1, y_p_cat, y_ci, y_cj]) k) ?_
    exact y_lf (fun _ _ _ _ k => y_pk [3, 2, 1, 0] rfl k) (hj18 _ _ _ _ _ _ _ hf)
