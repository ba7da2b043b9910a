theorem d_W_law_0 : decode code 0 = .ok (.new 7, 3) := by decide +kernel
theorem d_W_law_3 : decode code 3 = .ok (.dup, 1) := by decide +kernel
theorem d_W_law_4 : decode code 4 = .ok (.invokespecial 9, 3) := by decide +kernel
theorem d_W_law_7 : decode code 7 = .ok (.astore_n 1, 1) := by decide +kernel
theorem d_W_law_8 : decode code 8 = .ok (.new 10, 3) := by decide +kernel
theorem d_W_law_11 : decode code 11 = .ok (.dup, 1) := by decide +kernel
theorem d_W_law_12 : decode code 12 = .ok (.invokespecial 12, 3) := by decide +kernel
theorem d_W_law_15 : decode code 15 = .ok (.astore_n 2, 1) := by decide +kernel
theorem d_W_law_16 : decode code 16 = .ok (.iconst 0, 1) := by decide +kernel
theorem d_W_law_17 : decode code 17 = .ok (.istore_n 3, 1) := by decide +kernel
theorem d_W_law_18 : decode code 18 = .ok (.iload_n 3, 1) := by decide +kernel
theorem d_W_law_19 : decode code 19 = .ok (.aload_n 0, 1) := by decide +kernel
theorem d_W_law_20 : decode code 20 = .ok (.arraylength, 1) := by decide +kernel
theorem d_W_law_21 : decode code 21 = .ok (.bipush 6, 2) := by decide +kernel
theorem d_W_law_23 : decode code 23 = .ok (.isub, 1) := by decide +kernel
theorem d_W_law_24 : decode code 24 = .ok (.if_icmp .gt 1575, 3) := by decide +kernel
theorem d_W_law_27 : decode code 27 = .ok (.aload_n 0, 1) := by decide +kernel
theorem d_W_law_28 : decode code 28 = .ok (.iload_n 3, 1) := by decide +kernel
theorem d_W_law_29 : decode code 29 = .ok (.iaload, 1) := by decide +kernel
theorem d_W_law_30 : decode code 30 = .ok (.bipush 63, 2) := by decide +kernel
theorem d_W_law_32 : decode code 32 = .ok (.iand, 1) := by decide +kernel
theorem d_W_law_33 : decode code 33 = .ok (.tableswitch 1560 0 47 #[207, 230, 293, 316, 329, 352, 375, 408, 441, 464, 487, 510, 543, 556, 589, 622, 645, 678, 711, 744, 777, 810, 833, 856, 879, 912, 935, 968, 1001, 1060, 1109, 1152, 1185, 1209, 1258, 1271, 1294, 1307, 1340, 1373, 1406, 1449, 1462, 1475, 1488, 1511, 1524, 1537], 207) := by decide +kernel
theorem d_W_law_240 : decode code 240 = .ok (.aload_n 1, 1) := by decide +kernel
theorem d_W_law_241 : decode code 241 = .ok (.aload_n 0, 1) := by decide +kernel
theorem d_W_law_242 : decode code 242 = .ok (.iload_n 3, 1) := by decide +kernel
theorem d_W_law_243 : decode code 243 = .ok (.iconst 1, 1) := by decide +kernel
theorem d_W_law_244 : decode code 244 = .ok (.iadd, 1) := by decide +kernel
theorem d_W_law_245 : decode code 245 = .ok (.iaload, 1) := by decide +kernel
theorem d_W_law_246 : decode code 246 = .ok (.invokevirtual 13, 3) := by decide +kernel
theorem d_W_law_249 : decode code 249 = .ok (.aload_n 2, 1) := by decide +kernel
theorem d_W_law_250 : decode code 250 = .ok (.aload_n 0, 1) := by decide +kernel
theorem d_W_law_251 : decode code 251 = .ok (.iload_n 3, 1) := by decide +kernel
theorem d_W_law_252 : decode code 252 = .ok (.iconst 1, 1) := by decide +kernel
theorem d_W_law_253 : decode code 253 = .ok (.iadd, 1) := by decide +kernel
theorem d_W_law_254 : decode code 254 = .ok (.iaload, 1) := by decide +kernel
theorem d_W_law_255 : decode code 255 = .ok (.invokevirtual 17, 3) := by decide +kernel
theorem d_W_law_258 : decode code 258 = .ok (.if_icmp .eq 1335, 3) := by decide +kernel
theorem d_W_law_261 : decode code 261 = .ok (.iconst 0, 1) := by decide +kernel
theorem d_W_law_262 : decode code 262 = .ok (.ireturn, 1) := by decide +kernel
theorem d_W_law_263 : decode code 263 = .ok (.aload_n 1, 1) := by decide +kernel
theorem d_W_law_264 : decode code 264 = .ok (.aload_n 0, 1) := by decide +kernel
theorem d_W_law_265 : decode code 265 = .ok (.iload_n 3, 1) := by decide +kernel
theorem d_W_law_266 : decode code 266 = .ok (.iconst 1, 1) := by decide +kernel
theorem d_W_law_267 : decode code 267 = .ok (.iadd, 1) := by decide +kernel
theorem d_W_law_268 : decode code 268 = .ok (.iaload, 1) := by decide +kernel
theorem d_W_law_269 : decode code 269 = .ok (.aload_n 0, 1) := by decide +kernel
theorem d_W_law_270 : decode code 270 = .ok (.iload_n 3, 1) := by decide +kernel
theorem d_W_law_271 : decode code 271 = .ok (.iconst 2, 1) := by decide +kernel
theorem d_W_law_272 : decode code 272 = .ok (.iadd, 1) := by decide +kernel
theorem d_W_law_273 : decode code 273 = .ok (.iaload, 1) := by decide +kernel
theorem d_W_law_274 : decode code 274 = .ok (.aload_n 0, 1) := by decide +kernel
theorem d_W_law_275 : decode code 275 = .ok (.iload_n 3, 1) := by decide +kernel
theorem d_W_law_276 : decode code 276 = .ok (.iconst 3, 1) := by decide +kernel
theorem d_W_law_277 : decode code 277 = .ok (.iadd, 1) := by decide +kernel
theorem d_W_law_278 : decode code 278 = .ok (.iaload, 1) := by decide +kernel
theorem d_W_law_279 : decode code 279 = .ok (.aload_n 0, 1) := by decide +kernel
theorem d_W_law_280 : decode code 280 = .ok (.iload_n 3, 1) := by decide +kernel
theorem d_W_law_281 : decode code 281 = .ok (.iconst 4, 1) := by decide +kernel
theorem d_W_law_282 : decode code 282 = .ok (.iadd, 1) := by decide +kernel
theorem d_W_law_283 : decode code 283 = .ok (.iaload, 1) := by decide +kernel
theorem d_W_law_284 : decode code 284 = .ok (.aload_n 0, 1) := by decide +kernel
theorem d_W_law_285 : decode code 285 = .ok (.iload_n 3, 1) := by decide +kernel
theorem d_W_law_286 : decode code 286 = .ok (.iconst 5, 1) := by decide +kernel
theorem d_W_law_287 : decode code 287 = .ok (.iadd, 1) := by decide +kernel
theorem d_W_law_288 : decode code 288 = .ok (.iaload, 1) := by decide +kernel
theorem d_W_law_289 : decode code 289 = .ok (.invokevirtual 18, 3) := by decide +kernel
theorem d_W_law_292 : decode code 292 = .ok (.aload_n 2, 1) := by decide +kernel
theorem d_W_law_293 : decode code 293 = .ok (.aload_n 0, 1) := by decide +kernel
theorem d_W_law_294 : decode code 294 = .ok (.iload_n 3, 1) := by decide +kernel
theorem d_W_law_295 : decode code 295 = .ok (.iconst 1, 1) := by decide +kernel
theorem d_W_law_296 : decode code 296 = .ok (.iadd, 1) := by decide +kernel
theorem d_W_law_297 : decode code 297 = .ok (.iaload, 1) := by decide +kernel
theorem d_W_law_298 : decode code 298 = .ok (.aload_n 0, 1) := by decide +kernel
theorem d_W_law_299 : decode code 299 = .ok (.iload_n 3, 1) := by decide +kernel
theorem d_W_law_300 : decode code 300 = .ok (.iconst 2, 1) := by decide +kernel
theorem d_W_law_301 : decode code 301 = .ok (.iadd, 1) := by decide +kernel
theorem d_W_law_302 : decode code 302 = .ok (.iaload, 1) := by decide +kernel
theorem d_W_law_303 : decode code 303 = .ok (.aload_n 0, 1) := by decide +kernel
theorem d_W_law_304 : decode code 304 = .ok (.iload_n 3, 1) := by decide +kernel
theorem d_W_law_305 : decode code 305 = .ok (.iconst 3, 1) := by decide +kernel
theorem d_W_law_306 : decode code 306 = .ok (.iadd, 1) := by decide +kernel
theorem d_W_law_307 : decode code 307 = .ok (.iaload, 1) := by decide +kernel
theorem d_W_law_308 : decode code 308 = .ok (.aload_n 0, 1) := by decide +kernel
theorem d_W_law_309 : decode code 309 = .ok (.iload_n 3, 1) := by decide +kernel
theorem d_W_law_310 : decode code 310 = .ok (.iconst 4, 1) := by decide +kernel
theorem d_W_law_311 : decode code 311 = .ok (.iadd, 1) := by decide +kernel
theorem d_W_law_312 : decode code 312 = .ok (.iaload, 1) := by decide +kernel
theorem d_W_law_313 : decode code 313 = .ok (.aload_n 0, 1) := by decide +kernel
theorem d_W_law_314 : decode code 314 = .ok (.iload_n 3, 1) := by decide +kernel
theorem d_W_law_315 : decode code 315 = .ok (.iconst 5, 1) := by decide +kernel
theorem d_W_law_316 : decode code 316 = .ok (.iadd, 1) := by decide +kernel
theorem d_W_law_317 : decode code 317 = .ok (.iaload, 1) := by decide +kernel
theorem d_W_law_318 : decode code 318 = .ok (.invokevirtual 22, 3) := by decide +kernel
theorem d_W_law_321 : decode code 321 = .ok (.if_icmp .eq 1272, 3) := by decide +kernel
theorem d_W_law_324 : decode code 324 = .ok (.iconst 0, 1) := by decide +kernel
theorem d_W_law_325 : decode code 325 = .ok (.ireturn, 1) := by decide +kernel
theorem d_W_law_326 : decode code 326 = .ok (.aload_n 1, 1) := by decide +kernel
theorem d_W_law_327 : decode code 327 = .ok (.aload_n 0, 1) := by decide +kernel
theorem d_W_law_328 : decode code 328 = .ok (.iload_n 3, 1) := by decide +kernel
theorem d_W_law_329 : decode code 329 = .ok (.iconst 1, 1) := by decide +kernel
theorem d_W_law_330 : decode code 330 = .ok (.iadd, 1) := by decide +kernel
theorem d_W_law_331 : decode code 331 = .ok (.iaload, 1) := by decide +kernel
theorem d_W_law_332 : decode code 332 = .ok (.invokevirtual 23, 3) := by decide +kernel
theorem d_W_law_335 : decode code 335 = .ok (.aload_n 2, 1) := by decide +kernel
theorem d_W_law_336 : decode code 336 = .ok (.aload_n 0, 1) := by decide +kernel
theorem d_W_law_337 : decode code 337 = .ok (.iload_n 3, 1) := by decide +kernel
theorem d_W_law_338 : decode code 338 = .ok (.iconst 1, 1) := by decide +kernel
theorem d_W_law_339 : decode code 339 = .ok (.iadd, 1) := by decide +kernel
theorem d_W_law_340 : decode code 340 = .ok (.iaload, 1) := by decide +kernel
theorem d_W_law_341 : decode code 341 = .ok (.invokevirtual 26, 3) := by decide +kernel
theorem d_W_law_344 : decode code 344 = .ok (.if_icmp .eq 1249, 3) := by decide +kernel
theorem d_W_law_347 : decode code 347 = .ok (.iconst 0, 1) := by decide +kernel
theorem d_W_law_348 : decode code 348 = .ok (.ireturn, 1) := by decide +kernel
theorem d_W_law_349 : decode code 349 = .ok (.aload_n 1, 1) := by decide +kernel
theorem d_W_law_350 : decode code 350 = .ok (.invokevirtual 27, 3) := by decide +kernel
theorem d_W_law_353 : decode code 353 = .ok (.aload_n 2, 1) := by decide +kernel
theorem d_W_law_354 : decode code 354 = .ok (.invokevirtual 31, 3) := by decide +kernel
theorem d_W_law_357 : decode code 357 = .ok (.if_icmp .eq 1236, 3) := by decide +kernel
theorem d_W_law_360 : decode code 360 = .ok (.iconst 0, 1) := by decide +kernel
theorem d_W_law_361 : decode code 361 = .ok (.ireturn, 1) := by decide +kernel
theorem d_W_law_362 : decode code 362 = .ok (.aload_n 1, 1) := by decide +kernel
theorem d_W_law_363 : decode code 363 = .ok (.aload_n 0, 1) := by decide +kernel
theorem d_W_law_364 : decode code 364 = .ok (.iload_n 3, 1) := by decide +kernel
theorem d_W_law_365 : decode code 365 = .ok (.iconst 1, 1) := by decide +kernel
theorem d_W_law_366 : decode code 366 = .ok (.iadd, 1) := by decide +kernel
theorem d_W_law_367 : decode code 367 = .ok (.iaload, 1) := by decide +kernel
theorem d_W_law_368 : decode code 368 = .ok (.invokevirtual 32, 3) := by decide +kernel
theorem d_W_law_371 : decode code 371 = .ok (.aload_n 2, 1) := by decide +kernel
theorem d_W_law_372 : decode code 372 = .ok (.aload_n 0, 1) := by decide +kernel
theorem d_W_law_373 : decode code 373 = .ok (.iload_n 3, 1) := by decide +kernel
theorem d_W_law_374 : decode code 374 = .ok (.iconst 1, 1) := by decide +kernel
theorem d_W_law_375 : decode code 375 = .ok (.iadd, 1) := by decide +kernel
theorem d_W_law_376 : decode code 376 = .ok (.iaload, 1) := by decide +kernel
theorem d_W_law_377 : decode code 377 = .ok (.invokevirtual 35, 3) := by decide +kernel
theorem d_W_law_380 : decode code 380 = .ok (.if_icmp .eq 1213, 3) := by decide +kernel
theorem d_W_law_383 : decode code 383 = .ok (.iconst 0, 1) := by decide +kernel
theorem d_W_law_384 : decode code 384 = .ok (.ireturn, 1) := by decide +kernel
theorem d_W_law_385 : decode code 385 = .ok (.aload_n 1, 1) := by decide +kernel
theorem d_W_law_386 : decode code 386 = .ok (.aload_n 0, 1) := by decide +kernel
theorem d_W_law_387 : decode code 387 = .ok (.iload_n 3, 1) := by decide +kernel
theorem d_W_law_388 : decode code 388 = .ok (.iconst 1, 1) := by decide +kernel
theorem d_W_law_389 : decode code 389 = .ok (.iadd, 1) := by decide +kernel
theorem d_W_law_390 : decode code 390 = .ok (.iaload, 1) := by decide +kernel
theorem d_W_law_391 : decode code 391 = .ok (.invokevirtual 36, 3) := by decide +kernel
theorem d_W_law_394 : decode code 394 = .ok (.aload_n 2, 1) := by decide +kernel
theorem d_W_law_395 : decode code 395 = .ok (.aload_n 0, 1) := by decide +kernel
theorem d_W_law_396 : decode code 396 = .ok (.iload_n 3, 1) := by decide +kernel
theorem d_W_law_397 : decode code 397 = .ok (.iconst 1, 1) := by decide +kernel
theorem d_W_law_398 : decode code 398 = .ok (.iadd, 1) := by decide +kernel
theorem d_W_law_399 : decode code 399 = .ok (.iaload, 1) := by decide +kernel
theorem d_W_law_400 : decode code 400 = .ok (.invokevirtual 40, 3) := by decide +kernel
theorem d_W_law_403 : decode code 403 = .ok (.if_icmp .eq 1190, 3) := by decide +kernel
theorem d_W_law_406 : decode code 406 = .ok (.iconst 0, 1) := by decide +kernel
theorem d_W_law_407 : decode code 407 = .ok (.ireturn, 1) := by decide +kernel
theorem d_W_law_408 : decode code 408 = .ok (.aload_n 1, 1) := by decide +kernel
theorem d_W_law_409 : decode code 409 = .ok (.aload_n 0, 1) := by decide +kernel
theorem d_W_law_410 : decode code 410 = .ok (.iload_n 3, 1) := by decide +kernel
theorem d_W_law_411 : decode code 411 = .ok (.iconst 1, 1) := by decide +kernel
theorem d_W_law_412 : decode code 412 = .ok (.iadd, 1) := by decide +kernel
theorem d_W_law_413 : decode code 413 = .ok (.iaload, 1) := by decide +kernel
theorem d_W_law_414 : decode code 414 = .ok (.aload_n 0, 1) := by decide +kernel
theorem d_W_law_415 : decode code 415 = .ok (.iload_n 3, 1) := by decide +kernel
theorem d_W_law_416 : decode code 416 = .ok (.iconst 2, 1) := by decide +kernel
theorem d_W_law_417 : decode code 417 = .ok (.iadd, 1) := by decide +kernel
theorem d_W_law_418 : decode code 418 = .ok (.iaload, 1) := by decide +kernel
theorem d_W_law_419 : decode code 419 = .ok (.invokevirtual 41, 3) := by decide +kernel
theorem d_W_law_422 : decode code 422 = .ok (.aload_n 2, 1) := by decide +kernel
theorem d_W_law_423 : decode code 423 = .ok (.aload_n 0, 1) := by decide +kernel
theorem d_W_law_424 : decode code 424 = .ok (.iload_n 3, 1) := by decide +kernel
theorem d_W_law_425 : decode code 425 = .ok (.iconst 1, 1) := by decide +kernel
theorem d_W_law_426 : decode code 426 = .ok (.iadd, 1) := by decide +kernel
theorem d_W_law_427 : decode code 427 = .ok (.iaload, 1) := by decide +kernel
theorem d_W_law_428 : decode code 428 = .ok (.aload_n 0, 1) := by decide +kernel
theorem d_W_law_429 : decode code 429 = .ok (.iload_n 3, 1) := by decide +kernel
theorem d_W_law_430 : decode code 430 = .ok (.iconst 2, 1) := by decide +kernel
theorem d_W_law_431 : decode code 431 = .ok (.iadd, 1) := by decide +kernel
theorem d_W_law_432 : decode code 432 = .ok (.iaload, 1) := by decide +kernel
theorem d_W_law_433 : decode code 433 = .ok (.invokevirtual 45, 3) := by decide +kernel
theorem d_W_law_436 : decode code 436 = .ok (.if_icmp .eq 1157, 3) := by decide +kernel
theorem d_W_law_439 : decode code 439 = .ok (.iconst 0, 1) := by decide +kernel
theorem d_W_law_440 : decode code 440 = .ok (.ireturn, 1) := by decide +kernel
theorem d_W_law_441 : decode code 441 = .ok (.aload_n 1, 1) := by decide +kernel
theorem d_W_law_442 : decode code 442 = .ok (.aload_n 0, 1) := by decide +kernel
theorem d_W_law_443 : decode code 443 = .ok (.iload_n 3, 1) := by decide +kernel
theorem d_W_law_444 : decode code 444 = .ok (.iconst 1, 1) := by decide +kernel
theorem d_W_law_445 : decode code 445 = .ok (.iadd, 1) := by decide +kernel
theorem d_W_law_446 : decode code 446 = .ok (.iaload, 1) := by decide +kernel
theorem d_W_law_447 : decode code 447 = .ok (.aload_n 0, 1) := by decide +kernel
theorem d_W_law_448 : decode code 448 = .ok (.iload_n 3, 1) := by decide +kernel
theorem d_W_law_449 : decode code 449 = .ok (.iconst 2, 1) := by decide +kernel
theorem d_W_law_450 : decode code 450 = .ok (.iadd, 1) := by decide +kernel
theorem d_W_law_451 : decode code 451 = .ok (.iaload, 1) := by decide +kernel
theorem d_W_law_452 : decode code 452 = .ok (.invokevirtual 46, 3) := by decide +kernel
theorem d_W_law_455 : decode code 455 = .ok (.aload_n 2, 1) := by decide +kernel
theorem d_W_law_456 : decode code 456 = .ok (.aload_n 0, 1) := by decide +kernel
theorem d_W_law_457 : decode code 457 = .ok (.iload_n 3, 1) := by decide +kernel
theorem d_W_law_458 : decode code 458 = .ok (.iconst 1, 1) := by decide +kernel
theorem d_W_law_459 : decode code 459 = .ok (.iadd, 1) := by decide +kernel
theorem d_W_law_460 : decode code 460 = .ok (.iaload, 1) := by decide +kernel
theorem d_W_law_461 : decode code 461 = .ok (.aload_n 0, 1) := by decide +kernel
theorem d_W_law_462 : decode code 462 = .ok (.iload_n 3, 1) := by decide +kernel
theorem d_W_law_463 : decode code 463 = .ok (.iconst 2, 1) := by decide +kernel
theorem d_W_law_464 : decode code 464 = .ok (.iadd, 1) := by decide +kernel
theorem d_W_law_465 : decode code 465 = .ok (.iaload, 1) := by decide +kernel
theorem d_W_law_466 : decode code 466 = .ok (.invokevirtual 49, 3) := by decide +kernel
theorem d_W_law_469 : decode code 469 = .ok (.if_icmp .eq 1124, 3) := by decide +kernel
theorem d_W_law_472 : decode code 472 = .ok (.iconst 0, 1) := by decide +kernel
theorem d_W_law_473 : decode code 473 = .ok (.ireturn, 1) := by decide +kernel
theorem d_W_law_474 : decode code 474 = .ok (.aload_n 1, 1) := by decide +kernel
theorem d_W_law_475 : decode code 475 = .ok (.aload_n 0, 1) := by decide +kernel
theorem d_W_law_476 : decode code 476 = .ok (.iload_n 3, 1) := by decide +kernel
theorem d_W_law_477 : decode code 477 = .ok (.iconst 1, 1) := by decide +kernel
theorem d_W_law_478 : decode code 478 = .ok (.iadd, 1) := by decide +kernel
theorem d_W_law_479 : decode code 479 = .ok (.iaload, 1) := by decide +kernel
theorem d_W_law_480 : decode code 480 = .ok (.invokevirtual 50, 3) := by decide +kernel
theorem d_W_law_483 : decode code 483 = .ok (.aload_n 2, 1) := by decide +kernel
theorem d_W_law_484 : decode code 484 = .ok (.aload_n 0, 1) := by decide +kernel
theorem d_W_law_485 : decode code 485 = .ok (.iload_n 3, 1) := by decide +kernel
theorem d_W_law_486 : decode code 486 = .ok (.iconst 1, 1) := by decide +kernel
theorem d_W_law_487 : decode code 487 = .ok (.iadd, 1) := by decide +kernel
theorem d_W_law_488 : decode code 488 = .ok (.iaload, 1) := by decide +kernel
theorem d_W_law_489 : decode code 489 = .ok (.invokevirtual 53, 3) := by decide +kernel
theorem d_W_law_492 : decode code 492 = .ok (.if_icmp .eq 1101, 3) := by decide +kernel
theorem d_W_law_495 : decode code 495 = .ok (.iconst 0, 1) := by decide +kernel
theorem d_W_law_496 : decode code 496 = .ok (.ireturn, 1) := by decide +kernel
theorem d_W_law_497 : decode code 497 = .ok (.aload_n 1, 1) := by decide +kernel
theorem d_W_law_498 : decode code 498 = .ok (.aload_n 0, 1) := by decide +kernel
theorem d_W_law_499 : decode code 499 = .ok (.iload_n 3, 1) := by decide +kernel
theorem d_W_law_500 : decode code 500 = .ok (.iconst 1, 1) := by decide +kernel
theorem d_W_law_501 : decode code 501 = .ok (.iadd, 1) := by decide +kernel
theorem d_W_law_502 : decode code 502 = .ok (.iaload, 1) := by decide +kernel
theorem d_W_law_503 : decode code 503 = .ok (.invokevirtual 54, 3) := by decide +kernel
theorem d_W_law_506 : decode code 506 = .ok (.aload_n 2, 1) := by decide +kernel
theorem d_W_law_507 : decode code 507 = .ok (.aload_n 0, 1) := by decide +kernel
theorem d_W_law_508 : decode code 508 = .ok (.iload_n 3, 1) := by decide +kernel
theorem d_W_law_509 : decode code 509 = .ok (.iconst 1, 1) := by decide +kernel
theorem d_W_law_510 : decode code 510 = .ok (.iadd, 1) := by decide +kernel
theorem d_W_law_511 : decode code 511 = .ok (.iaload, 1) := by decide +kernel
theorem d_W_law_512 : decode code 512 = .ok (.invokevirtual 57, 3) := by decide +kernel
theorem d_W_law_515 : decode code 515 = .ok (.if_icmp .eq 1078, 3) := by decide +kernel
theorem d_W_law_518 : decode code 518 = .ok (.iconst 0, 1) := by decide +kernel
theorem d_W_law_519 : decode code 519 = .ok (.ireturn, 1) := by decide +kernel
theorem d_W_law_520 : decode code 520 = .ok (.aload_n 1, 1) := by decide +kernel
theorem d_W_law_521 : decode code 521 = .ok (.aload_n 0, 1) := by decide +kernel
theorem d_W_law_522 : decode code 522 = .ok (.iload_n 3, 1) := by decide +kernel
theorem d_W_law_523 : decode code 523 = .ok (.iconst 1, 1) := by decide +kernel
theorem d_W_law_524 : decode code 524 = .ok (.iadd, 1) := by decide +kernel
theorem d_W_law_525 : decode code 525 = .ok (.iaload, 1) := by decide +kernel
theorem d_W_law_526 : decode code 526 = .ok (.invokevirtual 58, 3) := by decide +kernel
theorem d_W_law_529 : decode code 529 = .ok (.aload_n 2, 1) := by decide +kernel
theorem d_W_law_530 : decode code 530 = .ok (.aload_n 0, 1) := by decide +kernel
theorem d_W_law_531 : decode code 531 = .ok (.iload_n 3, 1) := by decide +kernel
theorem d_W_law_532 : decode code 532 = .ok (.iconst 1, 1) := by decide +kernel
theorem d_W_law_533 : decode code 533 = .ok (.iadd, 1) := by decide +kernel
theorem d_W_law_534 : decode code 534 = .ok (.iaload, 1) := by decide +kernel
theorem d_W_law_535 : decode code 535 = .ok (.invokevirtual 61, 3) := by decide +kernel
theorem d_W_law_538 : decode code 538 = .ok (.if_icmp .eq 1055, 3) := by decide +kernel
theorem d_W_law_541 : decode code 541 = .ok (.iconst 0, 1) := by decide +kernel
theorem d_W_law_542 : decode code 542 = .ok (.ireturn, 1) := by decide +kernel
theorem d_W_law_543 : decode code 543 = .ok (.aload_n 1, 1) := by decide +kernel
theorem d_W_law_544 : decode code 544 = .ok (.aload_n 0, 1) := by decide +kernel
theorem d_W_law_545 : decode code 545 = .ok (.iload_n 3, 1) := by decide +kernel
theorem d_W_law_546 : decode code 546 = .ok (.iconst 1, 1) := by decide +kernel
theorem d_W_law_547 : decode code 547 = .ok (.iadd, 1) := by decide +kernel
theorem d_W_law_548 : decode code 548 = .ok (.iaload, 1) := by decide +kernel
theorem d_W_law_549 : decode code 549 = .ok (.aload_n 0, 1) := by decide +kernel
theorem d_W_law_550 : decode code 550 = .ok (.iload_n 3, 1) := by decide +kernel
theorem d_W_law_551 : decode code 551 = .ok (.iconst 2, 1) := by decide +kernel
theorem d_W_law_552 : decode code 552 = .ok (.iadd, 1) := by decide +kernel
theorem d_W_law_553 : decode code 553 = .ok (.iaload, 1) := by decide +kernel
theorem d_W_law_554 : decode code 554 = .ok (.invokevirtual 62, 3) := by decide +kernel
theorem d_W_law_557 : decode code 557 = .ok (.aload_n 2, 1) := by decide +kernel
theorem d_W_law_558 : decode code 558 = .ok (.aload_n 0, 1) := by decide +kernel
theorem d_W_law_559 : decode code 559 = .ok (.iload_n 3, 1) := by decide +kernel
theorem d_W_law_560 : decode code 560 = .ok (.iconst 1, 1) := by decide +kernel
theorem d_W_law_561 : decode code 561 = .ok (.iadd, 1) := by decide +kernel
theorem d_W_law_562 : decode code 562 = .ok (.iaload, 1) := by decide +kernel
theorem d_W_law_563 : decode code 563 = .ok (.aload_n 0, 1) := by decide +kernel
theorem d_W_law_564 : decode code 564 = .ok (.iload_n 3, 1) := by decide +kernel
theorem d_W_law_565 : decode code 565 = .ok (.iconst 2, 1) := by decide +kernel
theorem d_W_law_566 : decode code 566 = .ok (.iadd, 1) := by decide +kernel
theorem d_W_law_567 : decode code 567 = .ok (.iaload, 1) := by decide +kernel
theorem d_W_law_568 : decode code 568 = .ok (.invokevirtual 66, 3) := by decide +kernel
theorem d_W_law_571 : decode code 571 = .ok (.if_icmp .eq 1022, 3) := by decide +kernel
theorem d_W_law_574 : decode code 574 = .ok (.iconst 0, 1) := by decide +kernel
theorem d_W_law_575 : decode code 575 = .ok (.ireturn, 1) := by decide +kernel
theorem d_W_law_576 : decode code 576 = .ok (.aload_n 1, 1) := by decide +kernel
theorem d_W_law_577 : decode code 577 = .ok (.invokevirtual 67, 3) := by decide +kernel
theorem d_W_law_580 : decode code 580 = .ok (.aload_n 2, 1) := by decide +kernel
theorem d_W_law_581 : decode code 581 = .ok (.invokevirtual 70, 3) := by decide +kernel
theorem d_W_law_584 : decode code 584 = .ok (.if_icmp .eq 1009, 3) := by decide +kernel
theorem d_W_law_587 : decode code 587 = .ok (.iconst 0, 1) := by decide +kernel
theorem d_W_law_588 : decode code 588 = .ok (.ireturn, 1) := by decide +kernel
theorem d_W_law_589 : decode code 589 = .ok (.aload_n 1, 1) := by decide +kernel
theorem d_W_law_590 : decode code 590 = .ok (.aload_n 0, 1) := by decide +kernel
theorem d_W_law_591 : decode code 591 = .ok (.iload_n 3, 1) := by decide +kernel
theorem d_W_law_592 : decode code 592 = .ok (.iconst 1, 1) := by decide +kernel
theorem d_W_law_593 : decode code 593 = .ok (.iadd, 1) := by decide +kernel
theorem d_W_law_594 : decode code 594 = .ok (.iaload, 1) := by decide +kernel
theorem d_W_law_595 : decode code 595 = .ok (.aload_n 0, 1) := by decide +kernel
theorem d_W_law_596 : decode code 596 = .ok (.iload_n 3, 1) := by decide +kernel
theorem d_W_law_597 : decode code 597 = .ok (.iconst 2, 1) := by decide +kernel
theorem d_W_law_598 : decode code 598 = .ok (.iadd, 1) := by decide +kernel
theorem d_W_law_599 : decode code 599 = .ok (.iaload, 1) := by decide +kernel
theorem d_W_law_600 : decode code 600 = .ok (.invokevirtual 71, 3) := by decide +kernel
theorem d_W_law_603 : decode code 603 = .ok (.aload_n 2, 1) := by decide +kernel
theorem d_W_law_604 : decode code 604 = .ok (.aload_n 0, 1) := by decide +kernel
theorem d_W_law_605 : decode code 605 = .ok (.iload_n 3, 1) := by decide +kernel
theorem d_W_law_606 : decode code 606 = .ok (.iconst 1, 1) := by decide +kernel
theorem d_W_law_607 : decode code 607 = .ok (.iadd, 1) := by decide +kernel
theorem d_W_law_608 : decode code 608 = .ok (.iaload, 1) := by decide +kernel
theorem d_W_law_609 : decode code 609 = .ok (.aload_n 0, 1) := by decide +kernel
theorem d_W_law_610 : decode code 610 = .ok (.iload_n 3, 1) := by decide +kernel
theorem d_W_law_611 : decode code 611 = .ok (.iconst 2, 1) := by decide +kernel
theorem d_W_law_612 : decode code 612 = .ok (.iadd, 1) := by decide +kernel
theorem d_W_law_613 : decode code 613 = .ok (.iaload, 1) := by decide +kernel
theorem d_W_law_614 : decode code 614 = .ok (.invokevirtual 74, 3) := by decide +kernel
theorem d_W_law_617 : decode code 617 = .ok (.if_icmp .eq 976, 3) := by decide +kernel
theorem d_W_law_620 : decode code 620 = .ok (.iconst 0, 1) := by decide +kernel
theorem d_W_law_621 : decode code 621 = .ok (.ireturn, 1) := by decide +kernel
theorem d_W_law_622 : decode code 622 = .ok (.aload_n 1, 1) := by decide +kernel
theorem d_W_law_623 : decode code 623 = .ok (.aload_n 0, 1) := by decide +kernel
theorem d_W_law_624 : decode code 624 = .ok (.iload_n 3, 1) := by decide +kernel
theorem d_W_law_625 : decode code 625 = .ok (.iconst 1, 1) := by decide +kernel
theorem d_W_law_626 : decode code 626 = .ok (.iadd, 1) := by decide +kernel
theorem d_W_law_627 : decode code 627 = .ok (.iaload, 1) := by decide +kernel
theorem d_W_law_628 : decode code 628 = .ok (.aload_n 0, 1) := by decide +kernel
theorem d_W_law_629 : decode code 629 = .ok (.iload_n 3, 1) := by decide +kernel
theorem d_W_law_630 : decode code 630 = .ok (.iconst 2, 1) := by decide +kernel
theorem d_W_law_631 : decode code 631 = .ok (.iadd, 1) := by decide +kernel
theorem d_W_law_632 : decode code 632 = .ok (.iaload, 1) := by decide +kernel
theorem d_W_law_633 : decode code 633 = .ok (.invokevirtual 75, 3) := by decide +kernel
theorem d_W_law_636 : decode code 636 = .ok (.aload_n 2, 1) := by decide +kernel
theorem d_W_law_637 : decode code 637 = .ok (.aload_n 0, 1) := by decide +kernel
theorem d_W_law_638 : decode code 638 = .ok (.iload_n 3, 1) := by decide +kernel
theorem d_W_law_639 : decode code 639 = .ok (.iconst 1, 1) := by decide +kernel
theorem d_W_law_640 : decode code 640 = .ok (.iadd, 1) := by decide +kernel
theorem d_W_law_641 : decode code 641 = .ok (.iaload, 1) := by decide +kernel
theorem d_W_law_642 : decode code 642 = .ok (.aload_n 0, 1) := by decide +kernel
theorem d_W_law_643 : decode code 643 = .ok (.iload_n 3, 1) := by decide +kernel
theorem d_W_law_644 : decode code 644 = .ok (.iconst 2, 1) := by decide +kernel
theorem d_W_law_645 : decode code 645 = .ok (.iadd, 1) := by decide +kernel
theorem d_W_law_646 : decode code 646 = .ok (.iaload, 1) := by decide +kernel
theorem d_W_law_647 : decode code 647 = .ok (.invokevirtual 78, 3) := by decide +kernel
theorem d_W_law_650 : decode code 650 = .ok (.if_icmp .eq 943, 3) := by decide +kernel
theorem d_W_law_653 : decode code 653 = .ok (.iconst 0, 1) := by decide +kernel
theorem d_W_law_654 : decode code 654 = .ok (.ireturn, 1) := by decide +kernel
theorem d_W_law_655 : decode code 655 = .ok (.aload_n 1, 1) := by decide +kernel
theorem d_W_law_656 : decode code 656 = .ok (.aload_n 0, 1) := by decide +kernel
theorem d_W_law_657 : decode code 657 = .ok (.iload_n 3, 1) := by decide +kernel
theorem d_W_law_658 : decode code 658 = .ok (.iconst 1, 1) := by decide +kernel
theorem d_W_law_659 : decode code 659 = .ok (.iadd, 1) := by decide +kernel
theorem d_W_law_660 : decode code 660 = .ok (.iaload, 1) := by decide +kernel
theorem d_W_law_661 : decode code 661 = .ok (.invokevirtual 79, 3) := by decide +kernel
theorem d_W_law_664 : decode code 664 = .ok (.aload_n 2, 1) := by decide +kernel
theorem d_W_law_665 : decode code 665 = .ok (.aload_n 0, 1) := by decide +kernel
theorem d_W_law_666 : decode code 666 = .ok (.iload_n 3, 1) := by decide +kernel
theorem d_W_law_667 : decode code 667 = .ok (.iconst 1, 1) := by decide +kernel
theorem d_W_law_668 : decode code 668 = .ok (.iadd, 1) := by decide +kernel
theorem d_W_law_669 : decode code 669 = .ok (.iaload, 1) := by decide +kernel
theorem d_W_law_670 : decode code 670 = .ok (.invokevirtual 82, 3) := by decide +kernel
theorem d_W_law_673 : decode code 673 = .ok (.if_icmp .eq 920, 3) := by decide +kernel
theorem d_W_law_676 : decode code 676 = .ok (.iconst 0, 1) := by decide +kernel
theorem d_W_law_677 : decode code 677 = .ok (.ireturn, 1) := by decide +kernel
theorem d_W_law_678 : decode code 678 = .ok (.aload_n 1, 1) := by decide +kernel
theorem d_W_law_679 : decode code 679 = .ok (.aload_n 0, 1) := by decide +kernel
theorem d_W_law_680 : decode code 680 = .ok (.iload_n 3, 1) := by decide +kernel
theorem d_W_law_681 : decode code 681 = .ok (.iconst 1, 1) := by decide +kernel
theorem d_W_law_682 : decode code 682 = .ok (.iadd, 1) := by decide +kernel
theorem d_W_law_683 : decode code 683 = .ok (.iaload, 1) := by decide +kernel
theorem d_W_law_684 : decode code 684 = .ok (.aload_n 0, 1) := by decide +kernel
theorem d_W_law_685 : decode code 685 = .ok (.iload_n 3, 1) := by decide +kernel
theorem d_W_law_686 : decode code 686 = .ok (.iconst 2, 1) := by decide +kernel
theorem d_W_law_687 : decode code 687 = .ok (.iadd, 1) := by decide +kernel
theorem d_W_law_688 : decode code 688 = .ok (.iaload, 1) := by decide +kernel
theorem d_W_law_689 : decode code 689 = .ok (.invokevirtual 83, 3) := by decide +kernel
theorem d_W_law_692 : decode code 692 = .ok (.aload_n 2, 1) := by decide +kernel
theorem d_W_law_693 : decode code 693 = .ok (.aload_n 0, 1) := by decide +kernel
theorem d_W_law_694 : decode code 694 = .ok (.iload_n 3, 1) := by decide +kernel
theorem d_W_law_695 : decode code 695 = .ok (.iconst 1, 1) := by decide +kernel
theorem d_W_law_696 : decode code 696 = .ok (.iadd, 1) := by decide +kernel
theorem d_W_law_697 : decode code 697 = .ok (.iaload, 1) := by decide +kernel
theorem d_W_law_698 : decode code 698 = .ok (.aload_n 0, 1) := by decide +kernel
theorem d_W_law_699 : decode code 699 = .ok (.iload_n 3, 1) := by decide +kernel
theorem d_W_law_700 : decode code 700 = .ok (.iconst 2, 1) := by decide +kernel
theorem d_W_law_701 : decode code 701 = .ok (.iadd, 1) := by decide +kernel
theorem d_W_law_702 : decode code 702 = .ok (.iaload, 1) := by decide +kernel
theorem d_W_law_703 : decode code 703 = .ok (.invokevirtual 86, 3) := by decide +kernel
theorem d_W_law_706 : decode code 706 = .ok (.if_icmp .eq 887, 3) := by decide +kernel
theorem d_W_law_709 : decode code 709 = .ok (.iconst 0, 1) := by decide +kernel
theorem d_W_law_710 : decode code 710 = .ok (.ireturn, 1) := by decide +kernel
theorem d_W_law_711 : decode code 711 = .ok (.aload_n 1, 1) := by decide +kernel
theorem d_W_law_712 : decode code 712 = .ok (.aload_n 0, 1) := by decide +kernel
theorem d_W_law_713 : decode code 713 = .ok (.iload_n 3, 1) := by decide +kernel
theorem d_W_law_714 : decode code 714 = .ok (.iconst 1, 1) := by decide +kernel
theorem d_W_law_715 : decode code 715 = .ok (.iadd, 1) := by decide +kernel
theorem d_W_law_716 : decode code 716 = .ok (.iaload, 1) := by decide +kernel
theorem d_W_law_717 : decode code 717 = .ok (.aload_n 0, 1) := by decide +kernel
theorem d_W_law_718 : decode code 718 = .ok (.iload_n 3, 1) := by decide +kernel
theorem d_W_law_719 : decode code 719 = .ok (.iconst 2, 1) := by decide +kernel
theorem d_W_law_720 : decode code 720 = .ok (.iadd, 1) := by decide +kernel
theorem d_W_law_721 : decode code 721 = .ok (.iaload, 1) := by decide +kernel
theorem d_W_law_722 : decode code 722 = .ok (.invokevirtual 87, 3) := by decide +kernel
theorem d_W_law_725 : decode code 725 = .ok (.aload_n 2, 1) := by decide +kernel
theorem d_W_law_726 : decode code 726 = .ok (.aload_n 0, 1) := by decide +kernel
theorem d_W_law_727 : decode code 727 = .ok (.iload_n 3, 1) := by decide +kernel
theorem d_W_law_728 : decode code 728 = .ok (.iconst 1, 1) := by decide +kernel
theorem d_W_law_729 : decode code 729 = .ok (.iadd, 1) := by decide +kernel
theorem d_W_law_730 : decode code 730 = .ok (.iaload, 1) := by decide +kernel
theorem d_W_law_731 : decode code 731 = .ok (.aload_n 0, 1) := by decide +kernel
theorem d_W_law_732 : decode code 732 = .ok (.iload_n 3, 1) := by decide +kernel
theorem d_W_law_733 : decode code 733 = .ok (.iconst 2, 1) := by decide +kernel
theorem d_W_law_734 : decode code 734 = .ok (.iadd, 1) := by decide +kernel
theorem d_W_law_735 : decode code 735 = .ok (.iaload, 1) := by decide +kernel
theorem d_W_law_736 : decode code 736 = .ok (.invokevirtual 90, 3) := by decide +kernel
theorem d_W_law_739 : decode code 739 = .ok (.if_icmp .eq 854, 3) := by decide +kernel
theorem d_W_law_742 : decode code 742 = .ok (.iconst 0, 1) := by decide +kernel
theorem d_W_law_743 : decode code 743 = .ok (.ireturn, 1) := by decide +kernel
theorem d_W_law_744 : decode code 744 = .ok (.aload_n 1, 1) := by decide +kernel
theorem d_W_law_745 : decode code 745 = .ok (.aload_n 0, 1) := by decide +kernel
theorem d_W_law_746 : decode code 746 = .ok (.iload_n 3, 1) := by decide +kernel
theorem d_W_law_747 : decode code 747 = .ok (.iconst 1, 1) := by decide +kernel
theorem d_W_law_748 : decode code 748 = .ok (.iadd, 1) := by decide +kernel
theorem d_W_law_749 : decode code 749 = .ok (.iaload, 1) := by decide +kernel
theorem d_W_law_750 : decode code 750 = .ok (.aload_n 0, 1) := by decide +kernel
theorem d_W_law_751 : decode code 751 = .ok (.iload_n 3, 1) := by decide +kernel
theorem d_W_law_752 : decode code 752 = .ok (.iconst 2, 1) := by decide +kernel
theorem d_W_law_753 : decode code 753 = .ok (.iadd, 1) := by decide +kernel
theorem d_W_law_754 : decode code 754 = .ok (.iaload, 1) := by decide +kernel
theorem d_W_law_755 : decode code 755 = .ok (.invokevirtual 91, 3) := by decide +kernel
theorem d_W_law_758 : decode code 758 = .ok (.aload_n 2, 1) := by decide +kernel
theorem d_W_law_759 : decode code 759 = .ok (.aload_n 0, 1) := by decide +kernel
theorem d_W_law_760 : decode code 760 = .ok (.iload_n 3, 1) := by decide +kernel
theorem d_W_law_761 : decode code 761 = .ok (.iconst 1, 1) := by decide +kernel
theorem d_W_law_762 : decode code 762 = .ok (.iadd, 1) := by decide +kernel
theorem d_W_law_763 : decode code 763 = .ok (.iaload, 1) := by decide +kernel
theorem d_W_law_764 : decode code 764 = .ok (.aload_n 0, 1) := by decide +kernel
theorem d_W_law_765 : decode code 765 = .ok (.iload_n 3, 1) := by decide +kernel
theorem d_W_law_766 : decode code 766 = .ok (.iconst 2, 1) := by decide +kernel
theorem d_W_law_767 : decode code 767 = .ok (.iadd, 1) := by decide +kernel
theorem d_W_law_768 : decode code 768 = .ok (.iaload, 1) := by decide +kernel
theorem d_W_law_769 : decode code 769 = .ok (.invokevirtual 94, 3) := by decide +kernel
theorem d_W_law_772 : decode code 772 = .ok (.if_icmp .eq 821, 3) := by decide +kernel
theorem d_W_law_775 : decode code 775 = .ok (.iconst 0, 1) := by decide +kernel
theorem d_W_law_776 : decode code 776 = .ok (.ireturn, 1) := by decide +kernel
theorem d_W_law_777 : decode code 777 = .ok (.aload_n 1, 1) := by decide +kernel
theorem d_W_law_778 : decode code 778 = .ok (.aload_n 0, 1) := by decide +kernel
theorem d_W_law_779 : decode code 779 = .ok (.iload_n 3, 1) := by decide +kernel
theorem d_W_law_780 : decode code 780 = .ok (.iconst 1, 1) := by decide +kernel
theorem d_W_law_781 : decode code 781 = .ok (.iadd, 1) := by decide +kernel
theorem d_W_law_782 : decode code 782 = .ok (.iaload, 1) := by decide +kernel
theorem d_W_law_783 : decode code 783 = .ok (.aload_n 0, 1) := by decide +kernel
theorem d_W_law_784 : decode code 784 = .ok (.iload_n 3, 1) := by decide +kernel
theorem d_W_law_785 : decode code 785 = .ok (.iconst 2, 1) := by decide +kernel
theorem d_W_law_786 : decode code 786 = .ok (.iadd, 1) := by decide +kernel
theorem d_W_law_787 : decode code 787 = .ok (.iaload, 1) := by decide +kernel
theorem d_W_law_788 : decode code 788 = .ok (.invokevirtual 95, 3) := by decide +kernel
theorem d_W_law_791 : decode code 791 = .ok (.aload_n 2, 1) := by decide +kernel
theorem d_W_law_792 : decode code 792 = .ok (.aload_n 0, 1) := by decide +kernel
theorem d_W_law_793 : decode code 793 = .ok (.iload_n 3, 1) := by decide +kernel
theorem d_W_law_794 : decode code 794 = .ok (.iconst 1, 1) := by decide +kernel
theorem d_W_law_795 : decode code 795 = .ok (.iadd, 1) := by decide +kernel
theorem d_W_law_796 : decode code 796 = .ok (.iaload, 1) := by decide +kernel
theorem d_W_law_797 : decode code 797 = .ok (.aload_n 0, 1) := by decide +kernel
theorem d_W_law_798 : decode code 798 = .ok (.iload_n 3, 1) := by decide +kernel
theorem d_W_law_799 : decode code 799 = .ok (.iconst 2, 1) := by decide +kernel
theorem d_W_law_800 : decode code 800 = .ok (.iadd, 1) := by decide +kernel
theorem d_W_law_801 : decode code 801 = .ok (.iaload, 1) := by decide +kernel
theorem d_W_law_802 : decode code 802 = .ok (.invokevirtual 98, 3) := by decide +kernel
theorem d_W_law_805 : decode code 805 = .ok (.if_icmp .eq 788, 3) := by decide +kernel
theorem d_W_law_808 : decode code 808 = .ok (.iconst 0, 1) := by decide +kernel
theorem d_W_law_809 : decode code 809 = .ok (.ireturn, 1) := by decide +kernel
theorem d_W_law_810 : decode code 810 = .ok (.aload_n 1, 1) := by decide +kernel
theorem d_W_law_811 : decode code 811 = .ok (.aload_n 0, 1) := by decide +kernel
theorem d_W_law_812 : decode code 812 = .ok (.iload_n 3, 1) := by decide +kernel
theorem d_W_law_813 : decode code 813 = .ok (.iconst 1, 1) := by decide +kernel
theorem d_W_law_814 : decode code 814 = .ok (.iadd, 1) := by decide +kernel
theorem d_W_law_815 : decode code 815 = .ok (.iaload, 1) := by decide +kernel
theorem d_W_law_816 : decode code 816 = .ok (.aload_n 0, 1) := by decide +kernel
theorem d_W_law_817 : decode code 817 = .ok (.iload_n 3, 1) := by decide +kernel
theorem d_W_law_818 : decode code 818 = .ok (.iconst 2, 1) := by decide +kernel
theorem d_W_law_819 : decode code 819 = .ok (.iadd, 1) := by decide +kernel
theorem d_W_law_820 : decode code 820 = .ok (.iaload, 1) := by decide +kernel
theorem d_W_law_821 : decode code 821 = .ok (.invokevirtual 99, 3) := by decide +kernel
theorem d_W_law_824 : decode code 824 = .ok (.aload_n 2, 1) := by decide +kernel
theorem d_W_law_825 : decode code 825 = .ok (.aload_n 0, 1) := by decide +kernel
theorem d_W_law_826 : decode code 826 = .ok (.iload_n 3, 1) := by decide +kernel
theorem d_W_law_827 : decode code 827 = .ok (.iconst 1, 1) := by decide +kernel
theorem d_W_law_828 : decode code 828 = .ok (.iadd, 1) := by decide +kernel
theorem d_W_law_829 : decode code 829 = .ok (.iaload, 1) := by decide +kernel
theorem d_W_law_830 : decode code 830 = .ok (.aload_n 0, 1) := by decide +kernel
theorem d_W_law_831 : decode code 831 = .ok (.iload_n 3, 1) := by decide +kernel
theorem d_W_law_832 : decode code 832 = .ok (.iconst 2, 1) := by decide +kernel
theorem d_W_law_833 : decode code 833 = .ok (.iadd, 1) := by decide +kernel
theorem d_W_law_834 : decode code 834 = .ok (.iaload, 1) := by decide +kernel
theorem d_W_law_835 : decode code 835 = .ok (.invokevirtual 102, 3) := by decide +kernel
theorem d_W_law_838 : decode code 838 = .ok (.if_icmp .eq 755, 3) := by decide +kernel
theorem d_W_law_841 : decode code 841 = .ok (.iconst 0, 1) := by decide +kernel
theorem d_W_law_842 : decode code 842 = .ok (.ireturn, 1) := by decide +kernel
theorem d_W_law_843 : decode code 843 = .ok (.aload_n 1, 1) := by decide +kernel
theorem d_W_law_844 : decode code 844 = .ok (.aload_n 0, 1) := by decide +kernel
theorem d_W_law_845 : decode code 845 = .ok (.iload_n 3, 1) := by decide +kernel
theorem d_W_law_846 : decode code 846 = .ok (.iconst 1, 1) := by decide +kernel
theorem d_W_law_847 : decode code 847 = .ok (.iadd, 1) := by decide +kernel
theorem d_W_law_848 : decode code 848 = .ok (.iaload, 1) := by decide +kernel
theorem d_W_law_849 : decode code 849 = .ok (.invokevirtual 103, 3) := by decide +kernel
theorem d_W_law_852 : decode code 852 = .ok (.aload_n 2, 1) := by decide +kernel
theorem d_W_law_853 : decode code 853 = .ok (.aload_n 0, 1) := by decide +kernel
theorem d_W_law_854 : decode code 854 = .ok (.iload_n 3, 1) := by decide +kernel
theorem d_W_law_855 : decode code 855 = .ok (.iconst 1, 1) := by decide +kernel
theorem d_W_law_856 : decode code 856 = .ok (.iadd, 1) := by decide +kernel
theorem d_W_law_857 : decode code 857 = .ok (.iaload, 1) := by decide +kernel
theorem d_W_law_858 : decode code 858 = .ok (.invokevirtual 106, 3) := by decide +kernel
theorem d_W_law_861 : decode code 861 = .ok (.if_icmp .eq 732, 3) := by decide +kernel
theorem d_W_law_864 : decode code 864 = .ok (.iconst 0, 1) := by decide +kernel
theorem d_W_law_865 : decode code 865 = .ok (.ireturn, 1) := by decide +kernel
theorem d_W_law_866 : decode code 866 = .ok (.aload_n 1, 1) := by decide +kernel
theorem d_W_law_867 : decode code 867 = .ok (.aload_n 0, 1) := by decide +kernel
theorem d_W_law_868 : decode code 868 = .ok (.iload_n 3, 1) := by decide +kernel
theorem d_W_law_869 : decode code 869 = .ok (.iconst 1, 1) := by decide +kernel
theorem d_W_law_870 : decode code 870 = .ok (.iadd, 1) := by decide +kernel
theorem d_W_law_871 : decode code 871 = .ok (.iaload, 1) := by decide +kernel
theorem d_W_law_872 : decode code 872 = .ok (.invokevirtual 107, 3) := by decide +kernel
theorem d_W_law_875 : decode code 875 = .ok (.aload_n 2, 1) := by decide +kernel
theorem d_W_law_876 : decode code 876 = .ok (.aload_n 0, 1) := by decide +kernel
theorem d_W_law_877 : decode code 877 = .ok (.iload_n 3, 1) := by decide +kernel
theorem d_W_law_878 : decode code 878 = .ok (.iconst 1, 1) := by decide +kernel
theorem d_W_law_879 : decode code 879 = .ok (.iadd, 1) := by decide +kernel
theorem d_W_law_880 : decode code 880 = .ok (.iaload, 1) := by decide +kernel
theorem d_W_law_881 : decode code 881 = .ok (.invokevirtual 110, 3) := by decide +kernel
theorem d_W_law_884 : decode code 884 = .ok (.if_icmp .eq 709, 3) := by decide +kernel
theorem d_W_law_887 : decode code 887 = .ok (.iconst 0, 1) := by decide +kernel
theorem d_W_law_888 : decode code 888 = .ok (.ireturn, 1) := by decide +kernel
theorem d_W_law_889 : decode code 889 = .ok (.aload_n 1, 1) := by decide +kernel
theorem d_W_law_890 : decode code 890 = .ok (.aload_n 0, 1) := by decide +kernel
theorem d_W_law_891 : decode code 891 = .ok (.iload_n 3, 1) := by decide +kernel
theorem d_W_law_892 : decode code 892 = .ok (.iconst 1, 1) := by decide +kernel
theorem d_W_law_893 : decode code 893 = .ok (.iadd, 1) := by decide +kernel
theorem d_W_law_894 : decode code 894 = .ok (.iaload, 1) := by decide +kernel
theorem d_W_law_895 : decode code 895 = .ok (.invokevirtual 111, 3) := by decide +kernel
theorem d_W_law_898 : decode code 898 = .ok (.aload_n 2, 1) := by decide +kernel
theorem d_W_law_899 : decode code 899 = .ok (.aload_n 0, 1) := by decide +kernel
theorem d_W_law_900 : decode code 900 = .ok (.iload_n 3, 1) := by decide +kernel
theorem d_W_law_901 : decode code 901 = .ok (.iconst 1, 1) := by decide +kernel
theorem d_W_law_902 : decode code 902 = .ok (.iadd, 1) := by decide +kernel
theorem d_W_law_903 : decode code 903 = .ok (.iaload, 1) := by decide +kernel
theorem d_W_law_904 : decode code 904 = .ok (.invokevirtual 114, 3) := by decide +kernel
theorem d_W_law_907 : decode code 907 = .ok (.if_icmp .eq 686, 3) := by decide +kernel
theorem d_W_law_910 : decode code 910 = .ok (.iconst 0, 1) := by decide +kernel
theorem d_W_law_911 : decode code 911 = .ok (.ireturn, 1) := by decide +kernel
theorem d_W_law_912 : decode code 912 = .ok (.aload_n 1, 1) := by decide +kernel
theorem d_W_law_913 : decode code 913 = .ok (.aload_n 0, 1) := by decide +kernel
theorem d_W_law_914 : decode code 914 = .ok (.iload_n 3, 1) := by decide +kernel
theorem d_W_law_915 : decode code 915 = .ok (.iconst 1, 1) := by decide +kernel
theorem d_W_law_916 : decode code 916 = .ok (.iadd, 1) := by decide +kernel
theorem d_W_law_917 : decode code 917 = .ok (.iaload, 1) := by decide +kernel
theorem d_W_law_918 : decode code 918 = .ok (.aload_n 0, 1) := by decide +kernel
theorem d_W_law_919 : decode code 919 = .ok (.iload_n 3, 1) := by decide +kernel
theorem d_W_law_920 : decode code 920 = .ok (.iconst 2, 1) := by decide +kernel
theorem d_W_law_921 : decode code 921 = .ok (.iadd, 1) := by decide +kernel
theorem d_W_law_922 : decode code 922 = .ok (.iaload, 1) := by decide +kernel
theorem d_W_law_923 : decode code 923 = .ok (.invokevirtual 115, 3) := by decide +kernel
theorem d_W_law_926 : decode code 926 = .ok (.aload_n 2, 1) := by decide +kernel
theorem d_W_law_927 : decode code 927 = .ok (.aload_n 0, 1) := by decide +kernel
theorem d_W_law_928 : decode code 928 = .ok (.iload_n 3, 1) := by decide +kernel
theorem d_W_law_929 : decode code 929 = .ok (.iconst 1, 1) := by decide +kernel
theorem d_W_law_930 : decode code 930 = .ok (.iadd, 1) := by decide +kernel
theorem d_W_law_931 : decode code 931 = .ok (.iaload, 1) := by decide +kernel
theorem d_W_law_932 : decode code 932 = .ok (.aload_n 0, 1) := by decide +kernel
theorem d_W_law_933 : decode code 933 = .ok (.iload_n 3, 1) := by decide +kernel
theorem d_W_law_934 : decode code 934 = .ok (.iconst 2, 1) := by decide +kernel
theorem d_W_law_935 : decode code 935 = .ok (.iadd, 1) := by decide +kernel
theorem d_W_law_936 : decode code 936 = .ok (.iaload, 1) := by decide +kernel
theorem d_W_law_937 : decode code 937 = .ok (.invokevirtual 118, 3) := by decide +kernel
theorem d_W_law_940 : decode code 940 = .ok (.if_icmp .eq 653, 3) := by decide +kernel
theorem d_W_law_943 : decode code 943 = .ok (.iconst 0, 1) := by decide +kernel
theorem d_W_law_944 : decode code 944 = .ok (.ireturn, 1) := by decide +kernel
theorem d_W_law_945 : decode code 945 = .ok (.aload_n 1, 1) := by decide +kernel
theorem d_W_law_946 : decode code 946 = .ok (.aload_n 0, 1) := by decide +kernel
theorem d_W_law_947 : decode code 947 = .ok (.iload_n 3, 1) := by decide +kernel
theorem d_W_law_948 : decode code 948 = .ok (.iconst 1, 1) := by decide +kernel
theorem d_W_law_949 : decode code 949 = .ok (.iadd, 1) := by decide +kernel
theorem d_W_law_950 : decode code 950 = .ok (.iaload, 1) := by decide +kernel
theorem d_W_law_951 : decode code 951 = .ok (.invokevirtual 119, 3) := by decide +kernel
theorem d_W_law_954 : decode code 954 = .ok (.aload_n 2, 1) := by decide +kernel
theorem d_W_law_955 : decode code 955 = .ok (.aload_n 0, 1) := by decide +kernel
theorem d_W_law_956 : decode code 956 = .ok (.iload_n 3, 1) := by decide +kernel
theorem d_W_law_957 : decode code 957 = .ok (.iconst 1, 1) := by decide +kernel
theorem d_W_law_958 : decode code 958 = .ok (.iadd, 1) := by decide +kernel
theorem d_W_law_959 : decode code 959 = .ok (.iaload, 1) := by decide +kernel
theorem d_W_law_960 : decode code 960 = .ok (.invokevirtual 122, 3) := by decide +kernel
theorem d_W_law_963 : decode code 963 = .ok (.if_icmp .eq 630, 3) := by decide +kernel
theorem d_W_law_966 : decode code 966 = .ok (.iconst 0, 1) := by decide +kernel
theorem d_W_law_967 : decode code 967 = .ok (.ireturn, 1) := by decide +kernel
theorem d_W_law_968 : decode code 968 = .ok (.aload_n 1, 1) := by decide +kernel
theorem d_W_law_969 : decode code 969 = .ok (.aload_n 0, 1) := by decide +kernel
theorem d_W_law_970 : decode code 970 = .ok (.iload_n 3, 1) := by decide +kernel
theorem d_W_law_971 : decode code 971 = .ok (.iconst 1, 1) := by decide +kernel
theorem d_W_law_972 : decode code 972 = .ok (.iadd, 1) := by decide +kernel
theorem d_W_law_973 : decode code 973 = .ok (.iaload, 1) := by decide +kernel
theorem d_W_law_974 : decode code 974 = .ok (.aload_n 0, 1) := by decide +kernel
theorem d_W_law_975 : decode code 975 = .ok (.iload_n 3, 1) := by decide +kernel
theorem d_W_law_976 : decode code 976 = .ok (.iconst 2, 1) := by decide +kernel
theorem d_W_law_977 : decode code 977 = .ok (.iadd, 1) := by decide +kernel
theorem d_W_law_978 : decode code 978 = .ok (.iaload, 1) := by decide +kernel
theorem d_W_law_979 : decode code 979 = .ok (.invokevirtual 123, 3) := by decide +kernel
theorem d_W_law_982 : decode code 982 = .ok (.aload_n 2, 1) := by decide +kernel
theorem d_W_law_983 : decode code 983 = .ok (.aload_n 0, 1) := by decide +kernel
theorem d_W_law_984 : decode code 984 = .ok (.iload_n 3, 1) := by decide +kernel
theorem d_W_law_985 : decode code 985 = .ok (.iconst 1, 1) := by decide +kernel
theorem d_W_law_986 : decode code 986 = .ok (.iadd, 1) := by decide +kernel
theorem d_W_law_987 : decode code 987 = .ok (.iaload, 1) := by decide +kernel
theorem d_W_law_988 : decode code 988 = .ok (.aload_n 0, 1) := by decide +kernel
theorem d_W_law_989 : decode code 989 = .ok (.iload_n 3, 1) := by decide +kernel
theorem d_W_law_990 : decode code 990 = .ok (.iconst 2, 1) := by decide +kernel
theorem d_W_law_991 : decode code 991 = .ok (.iadd, 1) := by decide +kernel
theorem d_W_law_992 : decode code 992 = .ok (.iaload, 1) := by decide +kernel
theorem d_W_law_993 : decode code 993 = .ok (.invokevirtual 126, 3) := by decide +kernel
theorem d_W_law_996 : decode code 996 = .ok (.if_icmp .eq 597, 3) := by decide +kernel
theorem d_W_law_999 : decode code 999 = .ok (.iconst 0, 1) := by decide +kernel
theorem d_W_law_1000 : decode code 1000 = .ok (.ireturn, 1) := by decide +kernel
theorem d_W_law_1001 : decode code 1001 = .ok (.aload_n 1, 1) := by decide +kernel
theorem d_W_law_1002 : decode code 1002 = .ok (.aload_n 0, 1) := by decide +kernel
theorem d_W_law_1003 : decode code 1003 = .ok (.iload_n 3, 1) := by decide +kernel
theorem d_W_law_1004 : decode code 1004 = .ok (.iconst 1, 1) := by decide +kernel
theorem d_W_law_1005 : decode code 1005 = .ok (.iadd, 1) := by decide +kernel
theorem d_W_law_1006 : decode code 1006 = .ok (.iaload, 1) := by decide +kernel
theorem d_W_law_1007 : decode code 1007 = .ok (.aload_n 0, 1) := by decide +kernel
theorem d_W_law_1008 : decode code 1008 = .ok (.iload_n 3, 1) := by decide +kernel
theorem d_W_law_1009 : decode code 1009 = .ok (.iconst 2, 1) := by decide +kernel
theorem d_W_law_1010 : decode code 1010 = .ok (.iadd, 1) := by decide +kernel
theorem d_W_law_1011 : decode code 1011 = .ok (.iaload, 1) := by decide +kernel
theorem d_W_law_1012 : decode code 1012 = .ok (.invokevirtual 127, 3) := by decide +kernel
theorem d_W_law_1015 : decode code 1015 = .ok (.aload_n 2, 1) := by decide +kernel
theorem d_W_law_1016 : decode code 1016 = .ok (.aload_n 0, 1) := by decide +kernel
theorem d_W_law_1017 : decode code 1017 = .ok (.iload_n 3, 1) := by decide +kernel
theorem d_W_law_1018 : decode code 1018 = .ok (.iconst 1, 1) := by decide +kernel
theorem d_W_law_1019 : decode code 1019 = .ok (.iadd, 1) := by decide +kernel
theorem d_W_law_1020 : decode code 1020 = .ok (.iaload, 1) := by decide +kernel
theorem d_W_law_1021 : decode code 1021 = .ok (.aload_n 0, 1) := by decide +kernel
theorem d_W_law_1022 : decode code 1022 = .ok (.iload_n 3, 1) := by decide +kernel
theorem d_W_law_1023 : decode code 1023 = .ok (.iconst 2, 1) := by decide +kernel
theorem d_W_law_1024 : decode code 1024 = .ok (.iadd, 1) := by decide +kernel
theorem d_W_law_1025 : decode code 1025 = .ok (.iaload, 1) := by decide +kernel
theorem d_W_law_1026 : decode code 1026 = .ok (.invokevirtual 130, 3) := by decide +kernel
theorem d_W_law_1029 : decode code 1029 = .ok (.if_icmp .eq 564, 3) := by decide +kernel
theorem d_W_law_1032 : decode code 1032 = .ok (.iconst 0, 1) := by decide +kernel
theorem d_W_law_1033 : decode code 1033 = .ok (.ireturn, 1) := by decide +kernel
theorem d_W_law_1034 : decode code 1034 = .ok (.aload_n 1, 1) := by decide +kernel
theorem d_W_law_1035 : decode code 1035 = .ok (.aload_n 0, 1) := by decide +kernel
theorem d_W_law_1036 : decode code 1036 = .ok (.iload_n 3, 1) := by decide +kernel
theorem d_W_law_1037 : decode code 1037 = .ok (.iconst 1, 1) := by decide +kernel
theorem d_W_law_1038 : decode code 1038 = .ok (.iadd, 1) := by decide +kernel
theorem d_W_law_1039 : decode code 1039 = .ok (.iaload, 1) := by decide +kernel
theorem d_W_law_1040 : decode code 1040 = .ok (.aload_n 0, 1) := by decide +kernel
theorem d_W_law_1041 : decode code 1041 = .ok (.iload_n 3, 1) := by decide +kernel
theorem d_W_law_1042 : decode code 1042 = .ok (.iconst 2, 1) := by decide +kernel
theorem d_W_law_1043 : decode code 1043 = .ok (.iadd, 1) := by decide +kernel
theorem d_W_law_1044 : decode code 1044 = .ok (.iaload, 1) := by decide +kernel
theorem d_W_law_1045 : decode code 1045 = .ok (.aload_n 0, 1) := by decide +kernel
theorem d_W_law_1046 : decode code 1046 = .ok (.iload_n 3, 1) := by decide +kernel
theorem d_W_law_1047 : decode code 1047 = .ok (.iconst 3, 1) := by decide +kernel
theorem d_W_law_1048 : decode code 1048 = .ok (.iadd, 1) := by decide +kernel
theorem d_W_law_1049 : decode code 1049 = .ok (.iaload, 1) := by decide +kernel
theorem d_W_law_1050 : decode code 1050 = .ok (.ifCond .eq 7, 3) := by decide +kernel
theorem d_W_law_1053 : decode code 1053 = .ok (.iconst 1, 1) := by decide +kernel
theorem d_W_law_1054 : decode code 1054 = .ok (.goto 4, 3) := by decide +kernel
theorem d_W_law_1057 : decode code 1057 = .ok (.iconst 0, 1) := by decide +kernel
theorem d_W_law_1058 : decode code 1058 = .ok (.invokevirtual 131, 3) := by decide +kernel
theorem d_W_law_1061 : decode code 1061 = .ok (.aload_n 2, 1) := by decide +kernel
theorem d_W_law_1062 : decode code 1062 = .ok (.aload_n 0, 1) := by decide +kernel
theorem d_W_law_1063 : decode code 1063 = .ok (.iload_n 3, 1) := by decide +kernel
theorem d_W_law_1064 : decode code 1064 = .ok (.iconst 1, 1) := by decide +kernel
theorem d_W_law_1065 : decode code 1065 = .ok (.iadd, 1) := by decide +kernel
theorem d_W_law_1066 : decode code 1066 = .ok (.iaload, 1) := by decide +kernel
theorem d_W_law_1067 : decode code 1067 = .ok (.aload_n 0, 1) := by decide +kernel
theorem d_W_law_1068 : decode code 1068 = .ok (.iload_n 3, 1) := by decide +kernel
theorem d_W_law_1069 : decode code 1069 = .ok (.iconst 2, 1) := by decide +kernel
theorem d_W_law_1070 : decode code 1070 = .ok (.iadd, 1) := by decide +kernel
theorem d_W_law_1071 : decode code 1071 = .ok (.iaload, 1) := by decide +kernel
theorem d_W_law_1072 : decode code 1072 = .ok (.aload_n 0, 1) := by decide +kernel
theorem d_W_law_1073 : decode code 1073 = .ok (.iload_n 3, 1) := by decide +kernel
theorem d_W_law_1074 : decode code 1074 = .ok (.iconst 3, 1) := by decide +kernel
theorem d_W_law_1075 : decode code 1075 = .ok (.iadd, 1) := by decide +kernel
theorem d_W_law_1076 : decode code 1076 = .ok (.iaload, 1) := by decide +kernel
theorem d_W_law_1077 : decode code 1077 = .ok (.ifCond .eq 7, 3) := by decide +kernel
theorem d_W_law_1080 : decode code 1080 = .ok (.iconst 1, 1) := by decide +kernel
theorem d_W_law_1081 : decode code 1081 = .ok (.goto 4, 3) := by decide +kernel
theorem d_W_law_1084 : decode code 1084 = .ok (.iconst 0, 1) := by decide +kernel
theorem d_W_law_1085 : decode code 1085 = .ok (.invokevirtual 135, 3) := by decide +kernel
theorem d_W_law_1088 : decode code 1088 = .ok (.if_icmp .eq 505, 3) := by decide +kernel
theorem d_W_law_1091 : decode code 1091 = .ok (.iconst 0, 1) := by decide +kernel
theorem d_W_law_1092 : decode code 1092 = .ok (.ireturn, 1) := by decide +kernel
theorem d_W_law_1093 : decode code 1093 = .ok (.aload_n 1, 1) := by decide +kernel
theorem d_W_law_1094 : decode code 1094 = .ok (.aload_n 0, 1) := by decide +kernel
theorem d_W_law_1095 : decode code 1095 = .ok (.iload_n 3, 1) := by decide +kernel
theorem d_W_law_1096 : decode code 1096 = .ok (.iconst 1, 1) := by decide +kernel
theorem d_W_law_1097 : decode code 1097 = .ok (.iadd, 1) := by decide +kernel
theorem d_W_law_1098 : decode code 1098 = .ok (.iaload, 1) := by decide +kernel
theorem d_W_law_1099 : decode code 1099 = .ok (.aload_n 0, 1) := by decide +kernel
theorem d_W_law_1100 : decode code 1100 = .ok (.iload_n 3, 1) := by decide +kernel
theorem d_W_law_1101 : decode code 1101 = .ok (.iconst 2, 1) := by decide +kernel
theorem d_W_law_1102 : decode code 1102 = .ok (.iadd, 1) := by decide +kernel
theorem d_W_law_1103 : decode code 1103 = .ok (.iaload, 1) := by decide +kernel
theorem d_W_law_1104 : decode code 1104 = .ok (.ifCond .eq 7, 3) := by decide +kernel
theorem d_W_law_1107 : decode code 1107 = .ok (.iconst 1, 1) := by decide +kernel
theorem d_W_law_1108 : decode code 1108 = .ok (.goto 4, 3) := by decide +kernel
theorem d_W_law_1111 : decode code 1111 = .ok (.iconst 0, 1) := by decide +kernel
theorem d_W_law_1112 : decode code 1112 = .ok (.invokevirtual 136, 3) := by decide +kernel
theorem d_W_law_1115 : decode code 1115 = .ok (.aload_n 2, 1) := by decide +kernel
theorem d_W_law_1116 : decode code 1116 = .ok (.aload_n 0, 1) := by decide +kernel
theorem d_W_law_1117 : decode code 1117 = .ok (.iload_n 3, 1) := by decide +kernel
theorem d_W_law_1118 : decode code 1118 = .ok (.iconst 1, 1) := by decide +kernel
theorem d_W_law_1119 : decode code 1119 = .ok (.iadd, 1) := by decide +kernel
theorem d_W_law_1120 : decode code 1120 = .ok (.iaload, 1) := by decide +kernel
theorem d_W_law_1121 : decode code 1121 = .ok (.aload_n 0, 1) := by decide +kernel
theorem d_W_law_1122 : decode code 1122 = .ok (.iload_n 3, 1) := by decide +kernel
theorem d_W_law_1123 : decode code 1123 = .ok (.iconst 2, 1) := by decide +kernel
theorem d_W_law_1124 : decode code 1124 = .ok (.iadd, 1) := by decide +kernel
theorem d_W_law_1125 : decode code 1125 = .ok (.iaload, 1) := by decide +kernel
theorem d_W_law_1126 : decode code 1126 = .ok (.ifCond .eq 7, 3) := by decide +kernel
theorem d_W_law_1129 : decode code 1129 = .ok (.iconst 1, 1) := by decide +kernel
theorem d_W_law_1130 : decode code 1130 = .ok (.goto 4, 3) := by decide +kernel
theorem d_W_law_1133 : decode code 1133 = .ok (.iconst 0, 1) := by decide +kernel
theorem d_W_law_1134 : decode code 1134 = .ok (.invokevirtual 140, 3) := by decide +kernel
theorem d_W_law_1137 : decode code 1137 = .ok (.if_icmp .eq 456, 3) := by decide +kernel
theorem d_W_law_1140 : decode code 1140 = .ok (.iconst 0, 1) := by decide +kernel
theorem d_W_law_1141 : decode code 1141 = .ok (.ireturn, 1) := by decide +kernel
theorem d_W_law_1142 : decode code 1142 = .ok (.aload_n 1, 1) := by decide +kernel
theorem d_W_law_1143 : decode code 1143 = .ok (.aload_n 0, 1) := by decide +kernel
theorem d_W_law_1144 : decode code 1144 = .ok (.iload_n 3, 1) := by decide +kernel
theorem d_W_law_1145 : decode code 1145 = .ok (.iconst 1, 1) := by decide +kernel
theorem d_W_law_1146 : decode code 1146 = .ok (.iadd, 1) := by decide +kernel
theorem d_W_law_1147 : decode code 1147 = .ok (.iaload, 1) := by decide +kernel
theorem d_W_law_1148 : decode code 1148 = .ok (.aload_n 0, 1) := by decide +kernel
theorem d_W_law_1149 : decode code 1149 = .ok (.iload_n 3, 1) := by decide +kernel
theorem d_W_law_1150 : decode code 1150 = .ok (.iconst 2, 1) := by decide +kernel
theorem d_W_law_1151 : decode code 1151 = .ok (.iadd, 1) := by decide +kernel
theorem d_W_law_1152 : decode code 1152 = .ok (.iaload, 1) := by decide +kernel
theorem d_W_law_1153 : decode code 1153 = .ok (.aload_n 0, 1) := by decide +kernel
theorem d_W_law_1154 : decode code 1154 = .ok (.iload_n 3, 1) := by decide +kernel
theorem d_W_law_1155 : decode code 1155 = .ok (.iconst 3, 1) := by decide +kernel
theorem d_W_law_1156 : decode code 1156 = .ok (.iadd, 1) := by decide +kernel
theorem d_W_law_1157 : decode code 1157 = .ok (.iaload, 1) := by decide +kernel
theorem d_W_law_1158 : decode code 1158 = .ok (.invokevirtual 141, 3) := by decide +kernel
theorem d_W_law_1161 : decode code 1161 = .ok (.aload_n 2, 1) := by decide +kernel
theorem d_W_law_1162 : decode code 1162 = .ok (.aload_n 0, 1) := by decide +kernel
theorem d_W_law_1163 : decode code 1163 = .ok (.iload_n 3, 1) := by decide +kernel
theorem d_W_law_1164 : decode code 1164 = .ok (.iconst 1, 1) := by decide +kernel
theorem d_W_law_1165 : decode code 1165 = .ok (.iadd, 1) := by decide +kernel
theorem d_W_law_1166 : decode code 1166 = .ok (.iaload, 1) := by decide +kernel
theorem d_W_law_1167 : decode code 1167 = .ok (.aload_n 0, 1) := by decide +kernel
theorem d_W_law_1168 : decode code 1168 = .ok (.iload_n 3, 1) := by decide +kernel
theorem d_W_law_1169 : decode code 1169 = .ok (.iconst 2, 1) := by decide +kernel
theorem d_W_law_1170 : decode code 1170 = .ok (.iadd, 1) := by decide +kernel
theorem d_W_law_1171 : decode code 1171 = .ok (.iaload, 1) := by decide +kernel
theorem d_W_law_1172 : decode code 1172 = .ok (.aload_n 0, 1) := by decide +kernel
theorem d_W_law_1173 : decode code 1173 = .ok (.iload_n 3, 1) := by decide +kernel
theorem d_W_law_1174 : decode code 1174 = .ok (.iconst 3, 1) := by decide +kernel
theorem d_W_law_1175 : decode code 1175 = .ok (.iadd, 1) := by decide +kernel
theorem d_W_law_1176 : decode code 1176 = .ok (.iaload, 1) := by decide +kernel
theorem d_W_law_1177 : decode code 1177 = .ok (.invokevirtual 145, 3) := by decide +kernel
theorem d_W_law_1180 : decode code 1180 = .ok (.if_icmp .eq 413, 3) := by decide +kernel
theorem d_W_law_1183 : decode code 1183 = .ok (.iconst 0, 1) := by decide +kernel
theorem d_W_law_1184 : decode code 1184 = .ok (.ireturn, 1) := by decide +kernel
theorem d_W_law_1185 : decode code 1185 = .ok (.aload_n 1, 1) := by decide +kernel
theorem d_W_law_1186 : decode code 1186 = .ok (.aload_n 0, 1) := by decide +kernel
theorem d_W_law_1187 : decode code 1187 = .ok (.iload_n 3, 1) := by decide +kernel
theorem d_W_law_1188 : decode code 1188 = .ok (.iconst 1, 1) := by decide +kernel
theorem d_W_law_1189 : decode code 1189 = .ok (.iadd, 1) := by decide +kernel
theorem d_W_law_1190 : decode code 1190 = .ok (.iaload, 1) := by decide +kernel
theorem d_W_law_1191 : decode code 1191 = .ok (.aload_n 0, 1) := by decide +kernel
theorem d_W_law_1192 : decode code 1192 = .ok (.iload_n 3, 1) := by decide +kernel
theorem d_W_law_1193 : decode code 1193 = .ok (.iconst 2, 1) := by decide +kernel
theorem d_W_law_1194 : decode code 1194 = .ok (.iadd, 1) := by decide +kernel
theorem d_W_law_1195 : decode code 1195 = .ok (.iaload, 1) := by decide +kernel
theorem d_W_law_1196 : decode code 1196 = .ok (.invokevirtual 146, 3) := by decide +kernel
theorem d_W_law_1199 : decode code 1199 = .ok (.aload_n 2, 1) := by decide +kernel
theorem d_W_law_1200 : decode code 1200 = .ok (.aload_n 0, 1) := by decide +kernel
theorem d_W_law_1201 : decode code 1201 = .ok (.iload_n 3, 1) := by decide +kernel
theorem d_W_law_1202 : decode code 1202 = .ok (.iconst 1, 1) := by decide +kernel
theorem d_W_law_1203 : decode code 1203 = .ok (.iadd, 1) := by decide +kernel
theorem d_W_law_1204 : decode code 1204 = .ok (.iaload, 1) := by decide +kernel
theorem d_W_law_1205 : decode code 1205 = .ok (.aload_n 0, 1) := by decide +kernel
theorem d_W_law_1206 : decode code 1206 = .ok (.iload_n 3, 1) := by decide +kernel
theorem d_W_law_1207 : decode code 1207 = .ok (.iconst 2, 1) := by decide +kernel
theorem d_W_law_1208 : decode code 1208 = .ok (.iadd, 1) := by decide +kernel
theorem d_W_law_1209 : decode code 1209 = .ok (.iaload, 1) := by decide +kernel
theorem d_W_law_1210 : decode code 1210 = .ok (.invokevirtual 149, 3) := by decide +kernel
theorem d_W_law_1213 : decode code 1213 = .ok (.if_icmp .eq 380, 3) := by decide +kernel
theorem d_W_law_1216 : decode code 1216 = .ok (.iconst 0, 1) := by decide +kernel
theorem d_W_law_1217 : decode code 1217 = .ok (.ireturn, 1) := by decide +kernel
theorem d_W_law_1218 : decode code 1218 = .ok (.aload_n 1, 1) := by decide +kernel
theorem d_W_law_1219 : decode code 1219 = .ok (.aload_n 0, 1) := by decide +kernel
theorem d_W_law_1220 : decode code 1220 = .ok (.iload_n 3, 1) := by decide +kernel
theorem d_W_law_1221 : decode code 1221 = .ok (.iconst 1, 1) := by decide +kernel
theorem d_W_law_1222 : decode code 1222 = .ok (.iadd, 1) := by decide +kernel
theorem d_W_law_1223 : decode code 1223 = .ok (.iaload, 1) := by decide +kernel
theorem d_W_law_1224 : decode code 1224 = .ok (.invokevirtual 150, 3) := by decide +kernel
theorem d_W_law_1227 : decode code 1227 = .ok (.aload_n 2, 1) := by decide +kernel
theorem d_W_law_1228 : decode code 1228 = .ok (.aload_n 0, 1) := by decide +kernel
theorem d_W_law_1229 : decode code 1229 = .ok (.iload_n 3, 1) := by decide +kernel
theorem d_W_law_1230 : decode code 1230 = .ok (.iconst 1, 1) := by decide +kernel
theorem d_W_law_1231 : decode code 1231 = .ok (.iadd, 1) := by decide +kernel
theorem d_W_law_1232 : decode code 1232 = .ok (.iaload, 1) := by decide +kernel
theorem d_W_law_1233 : decode code 1233 = .ok (.invokevirtual 154, 3) := by decide +kernel
theorem d_W_law_1236 : decode code 1236 = .ok (.lcmp, 1) := by decide +kernel
theorem d_W_law_1237 : decode code 1237 = .ok (.ifCond .eq 356, 3) := by decide +kernel
theorem d_W_law_1240 : decode code 1240 = .ok (.iconst 0, 1) := by decide +kernel
theorem d_W_law_1241 : decode code 1241 = .ok (.ireturn, 1) := by decide +kernel
theorem d_W_law_1242 : decode code 1242 = .ok (.aload_n 1, 1) := by decide +kernel
theorem d_W_law_1243 : decode code 1243 = .ok (.aload_n 0, 1) := by decide +kernel
theorem d_W_law_1244 : decode code 1244 = .ok (.iload_n 3, 1) := by decide +kernel
theorem d_W_law_1245 : decode code 1245 = .ok (.iconst 1, 1) := by decide +kernel
theorem d_W_law_1246 : decode code 1246 = .ok (.iadd, 1) := by decide +kernel
theorem d_W_law_1247 : decode code 1247 = .ok (.iaload, 1) := by decide +kernel
theorem d_W_law_1248 : decode code 1248 = .ok (.aload_n 0, 1) := by decide +kernel
theorem d_W_law_1249 : decode code 1249 = .ok (.iload_n 3, 1) := by decide +kernel
theorem d_W_law_1250 : decode code 1250 = .ok (.iconst 2, 1) := by decide +kernel
theorem d_W_law_1251 : decode code 1251 = .ok (.iadd, 1) := by decide +kernel
theorem d_W_law_1252 : decode code 1252 = .ok (.iaload, 1) := by decide +kernel
theorem d_W_law_1253 : decode code 1253 = .ok (.ifCond .eq 7, 3) := by decide +kernel
theorem d_W_law_1256 : decode code 1256 = .ok (.iconst 1, 1) := by decide +kernel
theorem d_W_law_1257 : decode code 1257 = .ok (.goto 4, 3) := by decide +kernel
theorem d_W_law_1260 : decode code 1260 = .ok (.iconst 0, 1) := by decide +kernel
theorem d_W_law_1261 : decode code 1261 = .ok (.invokevirtual 155, 3) := by decide +kernel
theorem d_W_law_1264 : decode code 1264 = .ok (.aload_n 2, 1) := by decide +kernel
theorem d_W_law_1265 : decode code 1265 = .ok (.aload_n 0, 1) := by decide +kernel
theorem d_W_law_1266 : decode code 1266 = .ok (.iload_n 3, 1) := by decide +kernel
theorem d_W_law_1267 : decode code 1267 = .ok (.iconst 1, 1) := by decide +kernel
theorem d_W_law_1268 : decode code 1268 = .ok (.iadd, 1) := by decide +kernel
theorem d_W_law_1269 : decode code 1269 = .ok (.iaload, 1) := by decide +kernel
theorem d_W_law_1270 : decode code 1270 = .ok (.aload_n 0, 1) := by decide +kernel
theorem d_W_law_1271 : decode code 1271 = .ok (.iload_n 3, 1) := by decide +kernel
theorem d_W_law_1272 : decode code 1272 = .ok (.iconst 2, 1) := by decide +kernel
theorem d_W_law_1273 : decode code 1273 = .ok (.iadd, 1) := by decide +kernel
theorem d_W_law_1274 : decode code 1274 = .ok (.iaload, 1) := by decide +kernel
theorem d_W_law_1275 : decode code 1275 = .ok (.ifCond .eq 7, 3) := by decide +kernel
theorem d_W_law_1278 : decode code 1278 = .ok (.iconst 1, 1) := by decide +kernel
theorem d_W_law_1279 : decode code 1279 = .ok (.goto 4, 3) := by decide +kernel
theorem d_W_law_1282 : decode code 1282 = .ok (.iconst 0, 1) := by decide +kernel
theorem d_W_law_1283 : decode code 1283 = .ok (.invokevirtual 158, 3) := by decide +kernel
theorem d_W_law_1286 : decode code 1286 = .ok (.if_icmp .eq 307, 3) := by decide +kernel
theorem d_W_law_1289 : decode code 1289 = .ok (.iconst 0, 1) := by decide +kernel
theorem d_W_law_1290 : decode code 1290 = .ok (.ireturn, 1) := by decide +kernel
theorem d_W_law_1291 : decode code 1291 = .ok (.aload_n 1, 1) := by decide +kernel
theorem d_W_law_1292 : decode code 1292 = .ok (.invokevirtual 159, 3) := by decide +kernel
theorem d_W_law_1295 : decode code 1295 = .ok (.aload_n 2, 1) := by decide +kernel
theorem d_W_law_1296 : decode code 1296 = .ok (.invokevirtual 162, 3) := by decide +kernel
theorem d_W_law_1299 : decode code 1299 = .ok (.if_icmp .eq 294, 3) := by decide +kernel
theorem d_W_law_1302 : decode code 1302 = .ok (.iconst 0, 1) := by decide +kernel
theorem d_W_law_1303 : decode code 1303 = .ok (.ireturn, 1) := by decide +kernel
theorem d_W_law_1304 : decode code 1304 = .ok (.aload_n 1, 1) := by decide +kernel
theorem d_W_law_1305 : decode code 1305 = .ok (.aload_n 0, 1) := by decide +kernel
theorem d_W_law_1306 : decode code 1306 = .ok (.iload_n 3, 1) := by decide +kernel
theorem d_W_law_1307 : decode code 1307 = .ok (.iconst 1, 1) := by decide +kernel
theorem d_W_law_1308 : decode code 1308 = .ok (.iadd, 1) := by decide +kernel
theorem d_W_law_1309 : decode code 1309 = .ok (.iaload, 1) := by decide +kernel
theorem d_W_law_1310 : decode code 1310 = .ok (.invokevirtual 163, 3) := by decide +kernel
theorem d_W_law_1313 : decode code 1313 = .ok (.aload_n 2, 1) := by decide +kernel
theorem d_W_law_1314 : decode code 1314 = .ok (.aload_n 0, 1) := by decide +kernel
theorem d_W_law_1315 : decode code 1315 = .ok (.iload_n 3, 1) := by decide +kernel
theorem d_W_law_1316 : decode code 1316 = .ok (.iconst 1, 1) := by decide +kernel
theorem d_W_law_1317 : decode code 1317 = .ok (.iadd, 1) := by decide +kernel
theorem d_W_law_1318 : decode code 1318 = .ok (.iaload, 1) := by decide +kernel
theorem d_W_law_1319 : decode code 1319 = .ok (.invokevirtual 166, 3) := by decide +kernel
theorem d_W_law_1322 : decode code 1322 = .ok (.if_icmp .eq 271, 3) := by decide +kernel
theorem d_W_law_1325 : decode code 1325 = .ok (.iconst 0, 1) := by decide +kernel
theorem d_W_law_1326 : decode code 1326 = .ok (.ireturn, 1) := by decide +kernel
theorem d_W_law_1327 : decode code 1327 = .ok (.aload_n 1, 1) := by decide +kernel
theorem d_W_law_1328 : decode code 1328 = .ok (.invokevirtual 167, 3) := by decide +kernel
theorem d_W_law_1331 : decode code 1331 = .ok (.aload_n 2, 1) := by decide +kernel
theorem d_W_law_1332 : decode code 1332 = .ok (.invokevirtual 170, 3) := by decide +kernel
theorem d_W_law_1335 : decode code 1335 = .ok (.if_icmp .eq 258, 3) := by decide +kernel
theorem d_W_law_1338 : decode code 1338 = .ok (.iconst 0, 1) := by decide +kernel
theorem d_W_law_1339 : decode code 1339 = .ok (.ireturn, 1) := by decide +kernel
theorem d_W_law_1340 : decode code 1340 = .ok (.aload_n 1, 1) := by decide +kernel
theorem d_W_law_1341 : decode code 1341 = .ok (.aload_n 0, 1) := by decide +kernel
theorem d_W_law_1342 : decode code 1342 = .ok (.iload_n 3, 1) := by decide +kernel
theorem d_W_law_1343 : decode code 1343 = .ok (.iconst 1, 1) := by decide +kernel
theorem d_W_law_1344 : decode code 1344 = .ok (.iadd, 1) := by decide +kernel
theorem d_W_law_1345 : decode code 1345 = .ok (.iaload, 1) := by decide +kernel
theorem d_W_law_1346 : decode code 1346 = .ok (.aload_n 0, 1) := by decide +kernel
theorem d_W_law_1347 : decode code 1347 = .ok (.iload_n 3, 1) := by decide +kernel
theorem d_W_law_1348 : decode code 1348 = .ok (.iconst 2, 1) := by decide +kernel
theorem d_W_law_1349 : decode code 1349 = .ok (.iadd, 1) := by decide +kernel
theorem d_W_law_1350 : decode code 1350 = .ok (.iaload, 1) := by decide +kernel
theorem d_W_law_1351 : decode code 1351 = .ok (.invokevirtual 171, 3) := by decide +kernel
theorem d_W_law_1354 : decode code 1354 = .ok (.aload_n 2, 1) := by decide +kernel
theorem d_W_law_1355 : decode code 1355 = .ok (.aload_n 0, 1) := by decide +kernel
theorem d_W_law_1356 : decode code 1356 = .ok (.iload_n 3, 1) := by decide +kernel
theorem d_W_law_1357 : decode code 1357 = .ok (.iconst 1, 1) := by decide +kernel
theorem d_W_law_1358 : decode code 1358 = .ok (.iadd, 1) := by decide +kernel
theorem d_W_law_1359 : decode code 1359 = .ok (.iaload, 1) := by decide +kernel
theorem d_W_law_1360 : decode code 1360 = .ok (.aload_n 0, 1) := by decide +kernel
theorem d_W_law_1361 : decode code 1361 = .ok (.iload_n 3, 1) := by decide +kernel
theorem d_W_law_1362 : decode code 1362 = .ok (.iconst 2, 1) := by decide +kernel
theorem d_W_law_1363 : decode code 1363 = .ok (.iadd, 1) := by decide +kernel
theorem d_W_law_1364 : decode code 1364 = .ok (.iaload, 1) := by decide +kernel
theorem d_W_law_1365 : decode code 1365 = .ok (.invokevirtual 174, 3) := by decide +kernel
theorem d_W_law_1368 : decode code 1368 = .ok (.if_icmp .eq 225, 3) := by decide +kernel
theorem d_W_law_1371 : decode code 1371 = .ok (.iconst 0, 1) := by decide +kernel
theorem d_W_law_1372 : decode code 1372 = .ok (.ireturn, 1) := by decide +kernel
theorem d_W_law_1373 : decode code 1373 = .ok (.aload_n 1, 1) := by decide +kernel
theorem d_W_law_1374 : decode code 1374 = .ok (.aload_n 0, 1) := by decide +kernel
theorem d_W_law_1375 : decode code 1375 = .ok (.iload_n 3, 1) := by decide +kernel
theorem d_W_law_1376 : decode code 1376 = .ok (.iconst 1, 1) := by decide +kernel
theorem d_W_law_1377 : decode code 1377 = .ok (.iadd, 1) := by decide +kernel
theorem d_W_law_1378 : decode code 1378 = .ok (.iaload, 1) := by decide +kernel
theorem d_W_law_1379 : decode code 1379 = .ok (.aload_n 0, 1) := by decide +kernel
theorem d_W_law_1380 : decode code 1380 = .ok (.iload_n 3, 1) := by decide +kernel
theorem d_W_law_1381 : decode code 1381 = .ok (.iconst 2, 1) := by decide +kernel
theorem d_W_law_1382 : decode code 1382 = .ok (.iadd, 1) := by decide +kernel
theorem d_W_law_1383 : decode code 1383 = .ok (.iaload, 1) := by decide +kernel
theorem d_W_law_1384 : decode code 1384 = .ok (.invokevirtual 175, 3) := by decide +kernel
theorem d_W_law_1387 : decode code 1387 = .ok (.aload_n 2, 1) := by decide +kernel
theorem d_W_law_1388 : decode code 1388 = .ok (.aload_n 0, 1) := by decide +kernel
theorem d_W_law_1389 : decode code 1389 = .ok (.iload_n 3, 1) := by decide +kernel
theorem d_W_law_1390 : decode code 1390 = .ok (.iconst 1, 1) := by decide +kernel
theorem d_W_law_1391 : decode code 1391 = .ok (.iadd, 1) := by decide +kernel
theorem d_W_law_1392 : decode code 1392 = .ok (.iaload, 1) := by decide +kernel
theorem d_W_law_1393 : decode code 1393 = .ok (.aload_n 0, 1) := by decide +kernel
theorem d_W_law_1394 : decode code 1394 = .ok (.iload_n 3, 1) := by decide +kernel
theorem d_W_law_1395 : decode code 1395 = .ok (.iconst 2, 1) := by decide +kernel
theorem d_W_law_1396 : decode code 1396 = .ok (.iadd, 1) := by decide +kernel
theorem d_W_law_1397 : decode code 1397 = .ok (.iaload, 1) := by decide +kernel
theorem d_W_law_1398 : decode code 1398 = .ok (.invokevirtual 178, 3) := by decide +kernel
theorem d_W_law_1401 : decode code 1401 = .ok (.if_icmp .eq 192, 3) := by decide +kernel
theorem d_W_law_1404 : decode code 1404 = .ok (.iconst 0, 1) := by decide +kernel
theorem d_W_law_1405 : decode code 1405 = .ok (.ireturn, 1) := by decide +kernel
theorem d_W_law_1406 : decode code 1406 = .ok (.aload_n 1, 1) := by decide +kernel
theorem d_W_law_1407 : decode code 1407 = .ok (.aload_n 0, 1) := by decide +kernel
theorem d_W_law_1408 : decode code 1408 = .ok (.iload_n 3, 1) := by decide +kernel
theorem d_W_law_1409 : decode code 1409 = .ok (.iconst 1, 1) := by decide +kernel
theorem d_W_law_1410 : decode code 1410 = .ok (.iadd, 1) := by decide +kernel
theorem d_W_law_1411 : decode code 1411 = .ok (.iaload, 1) := by decide +kernel
theorem d_W_law_1412 : decode code 1412 = .ok (.aload_n 0, 1) := by decide +kernel
theorem d_W_law_1413 : decode code 1413 = .ok (.iload_n 3, 1) := by decide +kernel
theorem d_W_law_1414 : decode code 1414 = .ok (.iconst 2, 1) := by decide +kernel
theorem d_W_law_1415 : decode code 1415 = .ok (.iadd, 1) := by decide +kernel
theorem d_W_law_1416 : decode code 1416 = .ok (.iaload, 1) := by decide +kernel
theorem d_W_law_1417 : decode code 1417 = .ok (.invokevirtual 179, 3) := by decide +kernel
theorem d_W_law_1420 : decode code 1420 = .ok (.aload_n 2, 1) := by decide +kernel
theorem d_W_law_1421 : decode code 1421 = .ok (.aload_n 0, 1) := by decide +kernel
theorem d_W_law_1422 : decode code 1422 = .ok (.iload_n 3, 1) := by decide +kernel
theorem d_W_law_1423 : decode code 1423 = .ok (.iconst 1, 1) := by decide +kernel
theorem d_W_law_1424 : decode code 1424 = .ok (.iadd, 1) := by decide +kernel
theorem d_W_law_1425 : decode code 1425 = .ok (.iaload, 1) := by decide +kernel
theorem d_W_law_1426 : decode code 1426 = .ok (.aload_n 0, 1) := by decide +kernel
theorem d_W_law_1427 : decode code 1427 = .ok (.iload_n 3, 1) := by decide +kernel
theorem d_W_law_1428 : decode code 1428 = .ok (.iconst 2, 1) := by decide +kernel
theorem d_W_law_1429 : decode code 1429 = .ok (.iadd, 1) := by decide +kernel
theorem d_W_law_1430 : decode code 1430 = .ok (.iaload, 1) := by decide +kernel
theorem d_W_law_1431 : decode code 1431 = .ok (.invokevirtual 182, 3) := by decide +kernel
theorem d_W_law_1434 : decode code 1434 = .ok (.if_icmp .eq 159, 3) := by decide +kernel
theorem d_W_law_1437 : decode code 1437 = .ok (.iconst 0, 1) := by decide +kernel
theorem d_W_law_1438 : decode code 1438 = .ok (.ireturn, 1) := by decide +kernel
theorem d_W_law_1439 : decode code 1439 = .ok (.aload_n 1, 1) := by decide +kernel
theorem d_W_law_1440 : decode code 1440 = .ok (.aload_n 0, 1) := by decide +kernel
theorem d_W_law_1441 : decode code 1441 = .ok (.iload_n 3, 1) := by decide +kernel
theorem d_W_law_1442 : decode code 1442 = .ok (.iconst 1, 1) := by decide +kernel
theorem d_W_law_1443 : decode code 1443 = .ok (.iadd, 1) := by decide +kernel
theorem d_W_law_1444 : decode code 1444 = .ok (.iaload, 1) := by decide +kernel
theorem d_W_law_1445 : decode code 1445 = .ok (.aload_n 0, 1) := by decide +kernel
theorem d_W_law_1446 : decode code 1446 = .ok (.iload_n 3, 1) := by decide +kernel
theorem d_W_law_1447 : decode code 1447 = .ok (.iconst 2, 1) := by decide +kernel
theorem d_W_law_1448 : decode code 1448 = .ok (.iadd, 1) := by decide +kernel
theorem d_W_law_1449 : decode code 1449 = .ok (.iaload, 1) := by decide +kernel
theorem d_W_law_1450 : decode code 1450 = .ok (.aload_n 0, 1) := by decide +kernel
theorem d_W_law_1451 : decode code 1451 = .ok (.iload_n 3, 1) := by decide +kernel
theorem d_W_law_1452 : decode code 1452 = .ok (.iconst 3, 1) := by decide +kernel
theorem d_W_law_1453 : decode code 1453 = .ok (.iadd, 1) := by decide +kernel
theorem d_W_law_1454 : decode code 1454 = .ok (.iaload, 1) := by decide +kernel
theorem d_W_law_1455 : decode code 1455 = .ok (.invokevirtual 183, 3) := by decide +kernel
theorem d_W_law_1458 : decode code 1458 = .ok (.aload_n 2, 1) := by decide +kernel
theorem d_W_law_1459 : decode code 1459 = .ok (.aload_n 0, 1) := by decide +kernel
theorem d_W_law_1460 : decode code 1460 = .ok (.iload_n 3, 1) := by decide +kernel
theorem d_W_law_1461 : decode code 1461 = .ok (.iconst 1, 1) := by decide +kernel
theorem d_W_law_1462 : decode code 1462 = .ok (.iadd, 1) := by decide +kernel
theorem d_W_law_1463 : decode code 1463 = .ok (.iaload, 1) := by decide +kernel
theorem d_W_law_1464 : decode code 1464 = .ok (.aload_n 0, 1) := by decide +kernel
theorem d_W_law_1465 : decode code 1465 = .ok (.iload_n 3, 1) := by decide +kernel
theorem d_W_law_1466 : decode code 1466 = .ok (.iconst 2, 1) := by decide +kernel
theorem d_W_law_1467 : decode code 1467 = .ok (.iadd, 1) := by decide +kernel
theorem d_W_law_1468 : decode code 1468 = .ok (.iaload, 1) := by decide +kernel
theorem d_W_law_1469 : decode code 1469 = .ok (.aload_n 0, 1) := by decide +kernel
theorem d_W_law_1470 : decode code 1470 = .ok (.iload_n 3, 1) := by decide +kernel
theorem d_W_law_1471 : decode code 1471 = .ok (.iconst 3, 1) := by decide +kernel
theorem d_W_law_1472 : decode code 1472 = .ok (.iadd, 1) := by decide +kernel
theorem d_W_law_1473 : decode code 1473 = .ok (.iaload, 1) := by decide +kernel
theorem d_W_law_1474 : decode code 1474 = .ok (.invokevirtual 186, 3) := by decide +kernel
theorem d_W_law_1477 : decode code 1477 = .ok (.if_icmp .eq 116, 3) := by decide +kernel
theorem d_W_law_1480 : decode code 1480 = .ok (.iconst 0, 1) := by decide +kernel
theorem d_W_law_1481 : decode code 1481 = .ok (.ireturn, 1) := by decide +kernel
theorem d_W_law_1482 : decode code 1482 = .ok (.aload_n 1, 1) := by decide +kernel
theorem d_W_law_1483 : decode code 1483 = .ok (.invokevirtual 187, 3) := by decide +kernel
theorem d_W_law_1486 : decode code 1486 = .ok (.aload_n 2, 1) := by decide +kernel
theorem d_W_law_1487 : decode code 1487 = .ok (.invokevirtual 190, 3) := by decide +kernel
theorem d_W_law_1490 : decode code 1490 = .ok (.if_icmp .eq 103, 3) := by decide +kernel
theorem d_W_law_1493 : decode code 1493 = .ok (.iconst 0, 1) := by decide +kernel
theorem d_W_law_1494 : decode code 1494 = .ok (.ireturn, 1) := by decide +kernel
theorem d_W_law_1495 : decode code 1495 = .ok (.aload_n 1, 1) := by decide +kernel
theorem d_W_law_1496 : decode code 1496 = .ok (.invokevirtual 191, 3) := by decide +kernel
theorem d_W_law_1499 : decode code 1499 = .ok (.aload_n 2, 1) := by decide +kernel
theorem d_W_law_1500 : decode code 1500 = .ok (.invokevirtual 194, 3) := by decide +kernel
theorem d_W_law_1503 : decode code 1503 = .ok (.if_icmp .eq 90, 3) := by decide +kernel
theorem d_W_law_1506 : decode code 1506 = .ok (.iconst 0, 1) := by decide +kernel
theorem d_W_law_1507 : decode code 1507 = .ok (.ireturn, 1) := by decide +kernel
theorem d_W_law_1508 : decode code 1508 = .ok (.aload_n 1, 1) := by decide +kernel
theorem d_W_law_1509 : decode code 1509 = .ok (.invokevirtual 195, 3) := by decide +kernel
theorem d_W_law_1512 : decode code 1512 = .ok (.aload_n 2, 1) := by decide +kernel
theorem d_W_law_1513 : decode code 1513 = .ok (.invokevirtual 198, 3) := by decide +kernel
theorem d_W_law_1516 : decode code 1516 = .ok (.if_icmp .eq 77, 3) := by decide +kernel
theorem d_W_law_1519 : decode code 1519 = .ok (.iconst 0, 1) := by decide +kernel
theorem d_W_law_1520 : decode code 1520 = .ok (.ireturn, 1) := by decide +kernel
theorem d_W_law_1521 : decode code 1521 = .ok (.aload_n 1, 1) := by decide +kernel
theorem d_W_law_1522 : decode code 1522 = .ok (.aload_n 0, 1) := by decide +kernel
theorem d_W_law_1523 : decode code 1523 = .ok (.iload_n 3, 1) := by decide +kernel
theorem d_W_law_1524 : decode code 1524 = .ok (.iconst 1, 1) := by decide +kernel
theorem d_W_law_1525 : decode code 1525 = .ok (.iadd, 1) := by decide +kernel
theorem d_W_law_1526 : decode code 1526 = .ok (.iaload, 1) := by decide +kernel
theorem d_W_law_1527 : decode code 1527 = .ok (.invokevirtual 199, 3) := by decide +kernel
theorem d_W_law_1530 : decode code 1530 = .ok (.aload_n 2, 1) := by decide +kernel
theorem d_W_law_1531 : decode code 1531 = .ok (.aload_n 0, 1) := by decide +kernel
theorem d_W_law_1532 : decode code 1532 = .ok (.iload_n 3, 1) := by decide +kernel
theorem d_W_law_1533 : decode code 1533 = .ok (.iconst 1, 1) := by decide +kernel
theorem d_W_law_1534 : decode code 1534 = .ok (.iadd, 1) := by decide +kernel
theorem d_W_law_1535 : decode code 1535 = .ok (.iaload, 1) := by decide +kernel
theorem d_W_law_1536 : decode code 1536 = .ok (.invokevirtual 202, 3) := by decide +kernel
theorem d_W_law_1539 : decode code 1539 = .ok (.if_icmp .eq 54, 3) := by decide +kernel
theorem d_W_law_1542 : decode code 1542 = .ok (.iconst 0, 1) := by decide +kernel
theorem d_W_law_1543 : decode code 1543 = .ok (.ireturn, 1) := by decide +kernel
theorem d_W_law_1544 : decode code 1544 = .ok (.aload_n 1, 1) := by decide +kernel
theorem d_W_law_1545 : decode code 1545 = .ok (.invokevirtual 203, 3) := by decide +kernel
theorem d_W_law_1548 : decode code 1548 = .ok (.aload_n 2, 1) := by decide +kernel
theorem d_W_law_1549 : decode code 1549 = .ok (.invokevirtual 206, 3) := by decide +kernel
theorem d_W_law_1552 : decode code 1552 = .ok (.if_icmp .eq 41, 3) := by decide +kernel
theorem d_W_law_1555 : decode code 1555 = .ok (.iconst 0, 1) := by decide +kernel
theorem d_W_law_1556 : decode code 1556 = .ok (.ireturn, 1) := by decide +kernel
theorem d_W_law_1557 : decode code 1557 = .ok (.aload_n 1, 1) := by decide +kernel
theorem d_W_law_1558 : decode code 1558 = .ok (.invokevirtual 207, 3) := by decide +kernel
theorem d_W_law_1561 : decode code 1561 = .ok (.aload_n 2, 1) := by decide +kernel
theorem d_W_law_1562 : decode code 1562 = .ok (.invokevirtual 210, 3) := by decide +kernel
theorem d_W_law_1565 : decode code 1565 = .ok (.if_icmp .eq 28, 3) := by decide +kernel
theorem d_W_law_1568 : decode code 1568 = .ok (.iconst 0, 1) := by decide +kernel
theorem d_W_law_1569 : decode code 1569 = .ok (.ireturn, 1) := by decide +kernel
theorem d_W_law_1570 : decode code 1570 = .ok (.aload_n 1, 1) := by decide +kernel
theorem d_W_law_1571 : decode code 1571 = .ok (.aload_n 0, 1) := by decide +kernel
theorem d_W_law_1572 : decode code 1572 = .ok (.iload_n 3, 1) := by decide +kernel
theorem d_W_law_1573 : decode code 1573 = .ok (.iconst 1, 1) := by decide +kernel
theorem d_W_law_1574 : decode code 1574 = .ok (.iadd, 1) := by decide +kernel
theorem d_W_law_1575 : decode code 1575 = .ok (.iaload, 1) := by decide +kernel
theorem d_W_law_1576 : decode code 1576 = .ok (.invokevirtual 211, 3) := by decide +kernel
theorem d_W_law_1579 : decode code 1579 = .ok (.aload_n 2, 1) := by decide +kernel
theorem d_W_law_1580 : decode code 1580 = .ok (.aload_n 0, 1) := by decide +kernel
theorem d_W_law_1581 : decode code 1581 = .ok (.iload_n 3, 1) := by decide +kernel
theorem d_W_law_1582 : decode code 1582 = .ok (.iconst 1, 1) := by decide +kernel
theorem d_W_law_1583 : decode code 1583 = .ok (.iadd, 1) := by decide +kernel
theorem d_W_law_1584 : decode code 1584 = .ok (.iaload, 1) := by decide +kernel
theorem d_W_law_1585 : decode code 1585 = .ok (.invokevirtual 214, 3) := by decide +kernel
theorem d_W_law_1588 : decode code 1588 = .ok (.if_icmp .eq 5, 3) := by decide +kernel
theorem d_W_law_1591 : decode code 1591 = .ok (.iconst 0, 1) := by decide +kernel
theorem d_W_law_1592 : decode code 1592 = .ok (.ireturn, 1) := by decide +kernel
theorem d_W_law_1593 : decode code 1593 = .ok (.iinc 3 6, 3) := by decide +kernel
theorem d_W_law_1596 : decode code 1596 = .ok (.goto (-1578), 3) := by decide +kernel
theorem d_W_law_1599 : decode code 1599 = .ok (.iconst 1, 1) := by decide +kernel
theorem d_W_law_1600 : decode code 1600 = .ok (.ireturn, 1) := by decide +kernel
