theorem dL_law_236 : decode cL_law 236 = .ok (.aload_n 1, 1) := by decide +kernel
theorem dL_law_237 : decode cL_law 237 = .ok (.aload_n 0, 1) := by decide +kernel
theorem dL_law_238 : decode cL_law 238 = .ok (.iload_n 3, 1) := by decide +kernel
theorem dL_law_239 : decode cL_law 239 = .ok (.iconst 1, 1) := by decide +kernel
theorem dL_law_240 : decode cL_law 240 = .ok (.iadd, 1) := by decide +kernel
theorem dL_law_241 : decode cL_law 241 = .ok (.iaload, 1) := by decide +kernel
theorem dL_law_242 : decode cL_law 242 = .ok (.aload_n 0, 1) := by decide +kernel
theorem dL_law_243 : decode cL_law 243 = .ok (.iload_n 3, 1) := by decide +kernel
theorem dL_law_244 : decode cL_law 244 = .ok (.iconst 2, 1) := by decide +kernel
theorem dL_law_245 : decode cL_law 245 = .ok (.iadd, 1) := by decide +kernel
theorem dL_law_246 : decode cL_law 246 = .ok (.iaload, 1) := by decide +kernel
theorem dL_law_247 : decode cL_law 247 = .ok (.aload_n 0, 1) := by decide +kernel
theorem dL_law_248 : decode cL_law 248 = .ok (.iload_n 3, 1) := by decide +kernel
theorem dL_law_249 : decode cL_law 249 = .ok (.iconst 3, 1) := by decide +kernel
theorem dL_law_250 : decode cL_law 250 = .ok (.iadd, 1) := by decide +kernel
theorem dL_law_251 : decode cL_law 251 = .ok (.iaload, 1) := by decide +kernel
theorem dL_law_252 : decode cL_law 252 = .ok (.invokevirtual 13, 3) := by decide +kernel
theorem dL_law_255 : decode cL_law 255 = .ok (.aload_n 2, 1) := by decide +kernel
theorem dL_law_256 : decode cL_law 256 = .ok (.aload_n 0, 1) := by decide +kernel
theorem dL_law_257 : decode cL_law 257 = .ok (.iload_n 3, 1) := by decide +kernel
theorem dL_law_258 : decode cL_law 258 = .ok (.iconst 1, 1) := by decide +kernel
theorem dL_law_259 : decode cL_law 259 = .ok (.iadd, 1) := by decide +kernel
theorem dL_law_260 : decode cL_law 260 = .ok (.iaload, 1) := by decide +kernel
theorem dL_law_261 : decode cL_law 261 = .ok (.aload_n 0, 1) := by decide +kernel
theorem dL_law_262 : decode cL_law 262 = .ok (.iload_n 3, 1) := by decide +kernel
theorem dL_law_263 : decode cL_law 263 = .ok (.iconst 2, 1) := by decide +kernel
theorem dL_law_264 : decode cL_law 264 = .ok (.iadd, 1) := by decide +kernel
theorem dL_law_265 : decode cL_law 265 = .ok (.iaload, 1) := by decide +kernel
theorem dL_law_266 : decode cL_law 266 = .ok (.aload_n 0, 1) := by decide +kernel
theorem dL_law_267 : decode cL_law 267 = .ok (.iload_n 3, 1) := by decide +kernel
theorem dL_law_268 : decode cL_law 268 = .ok (.iconst 3, 1) := by decide +kernel
theorem dL_law_269 : decode cL_law 269 = .ok (.iadd, 1) := by decide +kernel
theorem dL_law_270 : decode cL_law 270 = .ok (.iaload, 1) := by decide +kernel
theorem dL_law_271 : decode cL_law 271 = .ok (.invokevirtual 17, 3) := by decide +kernel
theorem dL_law_274 : decode cL_law 274 = .ok (.if_icmp .eq 1404, 3) := by decide +kernel
theorem dL_law_1678 : decode cL_law 1678 = .ok (.iinc 3 6, 3) := by decide +kernel
theorem dL_law_1681 : decode cL_law 1681 = .ok (.goto (-1663), 3) := by decide +kernel
theorem dL_law_18 : decode cL_law 18 = .ok (.iload_n 3, 1) := by decide +kernel
theorem dL_law_19 : decode cL_law 19 = .ok (.aload_n 0, 1) := by decide +kernel
theorem dL_law_20 : decode cL_law 20 = .ok (.arraylength, 1) := by decide +kernel
theorem dL_law_21 : decode cL_law 21 = .ok (.bipush 6, 2) := by decide +kernel
theorem dL_law_23 : decode cL_law 23 = .ok (.isub, 1) := by decide +kernel
theorem dL_law_24 : decode cL_law 24 = .ok (.if_icmp .gt 1660, 3) := by decide +kernel
theorem dL_law_1684 : decode cL_law 1684 = .ok (.iconst 1, 1) := by decide +kernel
theorem dL_law_1685 : decode cL_law 1685 = .ok (.ireturn, 1) := by decide +kernel
theorem dL_law_279 : decode cL_law 279 = .ok (.aload_n 1, 1) := by decide +kernel
theorem dL_law_280 : decode cL_law 280 = .ok (.aload_n 0, 1) := by decide +kernel
theorem dL_law_281 : decode cL_law 281 = .ok (.iload_n 3, 1) := by decide +kernel
theorem dL_law_282 : decode cL_law 282 = .ok (.iconst 1, 1) := by decide +kernel
theorem dL_law_283 : decode cL_law 283 = .ok (.iadd, 1) := by decide +kernel
theorem dL_law_284 : decode cL_law 284 = .ok (.iaload, 1) := by decide +kernel
theorem dL_law_285 : decode cL_law 285 = .ok (.aload_n 0, 1) := by decide +kernel
theorem dL_law_286 : decode cL_law 286 = .ok (.iload_n 3, 1) := by decide +kernel
theorem dL_law_287 : decode cL_law 287 = .ok (.iconst 2, 1) := by decide +kernel
theorem dL_law_288 : decode cL_law 288 = .ok (.iadd, 1) := by decide +kernel
theorem dL_law_289 : decode cL_law 289 = .ok (.iaload, 1) := by decide +kernel
theorem dL_law_290 : decode cL_law 290 = .ok (.invokevirtual 18, 3) := by decide +kernel
theorem dL_law_293 : decode cL_law 293 = .ok (.aload_n 2, 1) := by decide +kernel
theorem dL_law_294 : decode cL_law 294 = .ok (.aload_n 0, 1) := by decide +kernel
theorem dL_law_295 : decode cL_law 295 = .ok (.iload_n 3, 1) := by decide +kernel
theorem dL_law_296 : decode cL_law 296 = .ok (.iconst 1, 1) := by decide +kernel
theorem dL_law_297 : decode cL_law 297 = .ok (.iadd, 1) := by decide +kernel
theorem dL_law_298 : decode cL_law 298 = .ok (.iaload, 1) := by decide +kernel
theorem dL_law_299 : decode cL_law 299 = .ok (.aload_n 0, 1) := by decide +kernel
theorem dL_law_300 : decode cL_law 300 = .ok (.iload_n 3, 1) := by decide +kernel
theorem dL_law_301 : decode cL_law 301 = .ok (.iconst 2, 1) := by decide +kernel
theorem dL_law_302 : decode cL_law 302 = .ok (.iadd, 1) := by decide +kernel
theorem dL_law_303 : decode cL_law 303 = .ok (.iaload, 1) := by decide +kernel
theorem dL_law_304 : decode cL_law 304 = .ok (.invokevirtual 22, 3) := by decide +kernel
theorem dL_law_307 : decode cL_law 307 = .ok (.if_icmp .eq 1371, 3) := by decide +kernel
theorem dL_law_312 : decode cL_law 312 = .ok (.aload_n 1, 1) := by decide +kernel
theorem dL_law_313 : decode cL_law 313 = .ok (.aload_n 0, 1) := by decide +kernel
theorem dL_law_314 : decode cL_law 314 = .ok (.iload_n 3, 1) := by decide +kernel
theorem dL_law_315 : decode cL_law 315 = .ok (.iconst 1, 1) := by decide +kernel
theorem dL_law_316 : decode cL_law 316 = .ok (.iadd, 1) := by decide +kernel
theorem dL_law_317 : decode cL_law 317 = .ok (.iaload, 1) := by decide +kernel
theorem dL_law_318 : decode cL_law 318 = .ok (.aload_n 0, 1) := by decide +kernel
theorem dL_law_319 : decode cL_law 319 = .ok (.iload_n 3, 1) := by decide +kernel
theorem dL_law_320 : decode cL_law 320 = .ok (.iconst 2, 1) := by decide +kernel
theorem dL_law_321 : decode cL_law 321 = .ok (.iadd, 1) := by decide +kernel
theorem dL_law_322 : decode cL_law 322 = .ok (.iaload, 1) := by decide +kernel
theorem dL_law_323 : decode cL_law 323 = .ok (.invokevirtual 23, 3) := by decide +kernel
theorem dL_law_326 : decode cL_law 326 = .ok (.aload_n 2, 1) := by decide +kernel
theorem dL_law_327 : decode cL_law 327 = .ok (.aload_n 0, 1) := by decide +kernel
theorem dL_law_328 : decode cL_law 328 = .ok (.iload_n 3, 1) := by decide +kernel
theorem dL_law_329 : decode cL_law 329 = .ok (.iconst 1, 1) := by decide +kernel
theorem dL_law_330 : decode cL_law 330 = .ok (.iadd, 1) := by decide +kernel
theorem dL_law_331 : decode cL_law 331 = .ok (.iaload, 1) := by decide +kernel
theorem dL_law_332 : decode cL_law 332 = .ok (.aload_n 0, 1) := by decide +kernel
theorem dL_law_333 : decode cL_law 333 = .ok (.iload_n 3, 1) := by decide +kernel
theorem dL_law_334 : decode cL_law 334 = .ok (.iconst 2, 1) := by decide +kernel
theorem dL_law_335 : decode cL_law 335 = .ok (.iadd, 1) := by decide +kernel
theorem dL_law_336 : decode cL_law 336 = .ok (.iaload, 1) := by decide +kernel
theorem dL_law_337 : decode cL_law 337 = .ok (.invokevirtual 26, 3) := by decide +kernel
theorem dL_law_340 : decode cL_law 340 = .ok (.if_icmp .eq 1338, 3) := by decide +kernel
theorem dL_law_345 : decode cL_law 345 = .ok (.aload_n 1, 1) := by decide +kernel
theorem dL_law_346 : decode cL_law 346 = .ok (.aload_n 0, 1) := by decide +kernel
theorem dL_law_347 : decode cL_law 347 = .ok (.iload_n 3, 1) := by decide +kernel
theorem dL_law_348 : decode cL_law 348 = .ok (.iconst 1, 1) := by decide +kernel
theorem dL_law_349 : decode cL_law 349 = .ok (.iadd, 1) := by decide +kernel
theorem dL_law_350 : decode cL_law 350 = .ok (.iaload, 1) := by decide +kernel
theorem dL_law_351 : decode cL_law 351 = .ok (.aload_n 0, 1) := by decide +kernel
theorem dL_law_352 : decode cL_law 352 = .ok (.iload_n 3, 1) := by decide +kernel
theorem dL_law_353 : decode cL_law 353 = .ok (.iconst 2, 1) := by decide +kernel
theorem dL_law_354 : decode cL_law 354 = .ok (.iadd, 1) := by decide +kernel
theorem dL_law_355 : decode cL_law 355 = .ok (.iaload, 1) := by decide +kernel
theorem dL_law_356 : decode cL_law 356 = .ok (.invokevirtual 27, 3) := by decide +kernel
theorem dL_law_359 : decode cL_law 359 = .ok (.aload_n 2, 1) := by decide +kernel
theorem dL_law_360 : decode cL_law 360 = .ok (.aload_n 0, 1) := by decide +kernel
theorem dL_law_361 : decode cL_law 361 = .ok (.iload_n 3, 1) := by decide +kernel
theorem dL_law_362 : decode cL_law 362 = .ok (.iconst 1, 1) := by decide +kernel
theorem dL_law_363 : decode cL_law 363 = .ok (.iadd, 1) := by decide +kernel
theorem dL_law_364 : decode cL_law 364 = .ok (.iaload, 1) := by decide +kernel
theorem dL_law_365 : decode cL_law 365 = .ok (.aload_n 0, 1) := by decide +kernel
theorem dL_law_366 : decode cL_law 366 = .ok (.iload_n 3, 1) := by decide +kernel
theorem dL_law_367 : decode cL_law 367 = .ok (.iconst 2, 1) := by decide +kernel
theorem dL_law_368 : decode cL_law 368 = .ok (.iadd, 1) := by decide +kernel
theorem dL_law_369 : decode cL_law 369 = .ok (.iaload, 1) := by decide +kernel
theorem dL_law_370 : decode cL_law 370 = .ok (.invokevirtual 30, 3) := by decide +kernel
theorem dL_law_373 : decode cL_law 373 = .ok (.if_icmp .eq 1305, 3) := by decide +kernel
theorem dL_law_378 : decode cL_law 378 = .ok (.aload_n 1, 1) := by decide +kernel
theorem dL_law_379 : decode cL_law 379 = .ok (.aload_n 0, 1) := by decide +kernel
theorem dL_law_380 : decode cL_law 380 = .ok (.iload_n 3, 1) := by decide +kernel
theorem dL_law_381 : decode cL_law 381 = .ok (.iconst 1, 1) := by decide +kernel
theorem dL_law_382 : decode cL_law 382 = .ok (.iadd, 1) := by decide +kernel
theorem dL_law_383 : decode cL_law 383 = .ok (.iaload, 1) := by decide +kernel
theorem dL_law_384 : decode cL_law 384 = .ok (.invokevirtual 31, 3) := by decide +kernel
theorem dL_law_387 : decode cL_law 387 = .ok (.aload_n 2, 1) := by decide +kernel
theorem dL_law_388 : decode cL_law 388 = .ok (.aload_n 0, 1) := by decide +kernel
theorem dL_law_389 : decode cL_law 389 = .ok (.iload_n 3, 1) := by decide +kernel
theorem dL_law_390 : decode cL_law 390 = .ok (.iconst 1, 1) := by decide +kernel
theorem dL_law_391 : decode cL_law 391 = .ok (.iadd, 1) := by decide +kernel
theorem dL_law_392 : decode cL_law 392 = .ok (.iaload, 1) := by decide +kernel
theorem dL_law_393 : decode cL_law 393 = .ok (.invokevirtual 35, 3) := by decide +kernel
theorem dL_law_396 : decode cL_law 396 = .ok (.if_icmp .eq 1282, 3) := by decide +kernel
theorem dL_law_401 : decode cL_law 401 = .ok (.aload_n 1, 1) := by decide +kernel
theorem dL_law_402 : decode cL_law 402 = .ok (.aload_n 0, 1) := by decide +kernel
theorem dL_law_403 : decode cL_law 403 = .ok (.iload_n 3, 1) := by decide +kernel
theorem dL_law_404 : decode cL_law 404 = .ok (.iconst 1, 1) := by decide +kernel
theorem dL_law_405 : decode cL_law 405 = .ok (.iadd, 1) := by decide +kernel
theorem dL_law_406 : decode cL_law 406 = .ok (.iaload, 1) := by decide +kernel
theorem dL_law_407 : decode cL_law 407 = .ok (.aload_n 0, 1) := by decide +kernel
theorem dL_law_408 : decode cL_law 408 = .ok (.iload_n 3, 1) := by decide +kernel
theorem dL_law_409 : decode cL_law 409 = .ok (.iconst 2, 1) := by decide +kernel
theorem dL_law_410 : decode cL_law 410 = .ok (.iadd, 1) := by decide +kernel
theorem dL_law_411 : decode cL_law 411 = .ok (.iaload, 1) := by decide +kernel
theorem dL_law_412 : decode cL_law 412 = .ok (.invokevirtual 36, 3) := by decide +kernel
theorem dL_law_415 : decode cL_law 415 = .ok (.aload_n 2, 1) := by decide +kernel
theorem dL_law_416 : decode cL_law 416 = .ok (.aload_n 0, 1) := by decide +kernel
theorem dL_law_417 : decode cL_law 417 = .ok (.iload_n 3, 1) := by decide +kernel
theorem dL_law_418 : decode cL_law 418 = .ok (.iconst 1, 1) := by decide +kernel
theorem dL_law_419 : decode cL_law 419 = .ok (.iadd, 1) := by decide +kernel
theorem dL_law_420 : decode cL_law 420 = .ok (.iaload, 1) := by decide +kernel
theorem dL_law_421 : decode cL_law 421 = .ok (.aload_n 0, 1) := by decide +kernel
theorem dL_law_422 : decode cL_law 422 = .ok (.iload_n 3, 1) := by decide +kernel
theorem dL_law_423 : decode cL_law 423 = .ok (.iconst 2, 1) := by decide +kernel
theorem dL_law_424 : decode cL_law 424 = .ok (.iadd, 1) := by decide +kernel
theorem dL_law_425 : decode cL_law 425 = .ok (.iaload, 1) := by decide +kernel
theorem dL_law_426 : decode cL_law 426 = .ok (.invokevirtual 39, 3) := by decide +kernel
theorem dL_law_429 : decode cL_law 429 = .ok (.if_icmp .eq 1249, 3) := by decide +kernel
theorem dL_law_434 : decode cL_law 434 = .ok (.aload_n 1, 1) := by decide +kernel
theorem dL_law_435 : decode cL_law 435 = .ok (.aload_n 0, 1) := by decide +kernel
theorem dL_law_436 : decode cL_law 436 = .ok (.iload_n 3, 1) := by decide +kernel
theorem dL_law_437 : decode cL_law 437 = .ok (.iconst 1, 1) := by decide +kernel
theorem dL_law_438 : decode cL_law 438 = .ok (.iadd, 1) := by decide +kernel
theorem dL_law_439 : decode cL_law 439 = .ok (.iaload, 1) := by decide +kernel
theorem dL_law_440 : decode cL_law 440 = .ok (.aload_n 0, 1) := by decide +kernel
theorem dL_law_441 : decode cL_law 441 = .ok (.iload_n 3, 1) := by decide +kernel
theorem dL_law_442 : decode cL_law 442 = .ok (.iconst 2, 1) := by decide +kernel
theorem dL_law_443 : decode cL_law 443 = .ok (.iadd, 1) := by decide +kernel
theorem dL_law_444 : decode cL_law 444 = .ok (.iaload, 1) := by decide +kernel
theorem dL_law_445 : decode cL_law 445 = .ok (.aload_n 0, 1) := by decide +kernel
theorem dL_law_446 : decode cL_law 446 = .ok (.iload_n 3, 1) := by decide +kernel
theorem dL_law_447 : decode cL_law 447 = .ok (.iconst 3, 1) := by decide +kernel
theorem dL_law_448 : decode cL_law 448 = .ok (.iadd, 1) := by decide +kernel
theorem dL_law_449 : decode cL_law 449 = .ok (.iaload, 1) := by decide +kernel
theorem dL_law_450 : decode cL_law 450 = .ok (.aload_n 0, 1) := by decide +kernel
theorem dL_law_451 : decode cL_law 451 = .ok (.iload_n 3, 1) := by decide +kernel
theorem dL_law_452 : decode cL_law 452 = .ok (.iconst 4, 1) := by decide +kernel
theorem dL_law_453 : decode cL_law 453 = .ok (.iadd, 1) := by decide +kernel
theorem dL_law_454 : decode cL_law 454 = .ok (.iaload, 1) := by decide +kernel
theorem dL_law_455 : decode cL_law 455 = .ok (.invokevirtual 40, 3) := by decide +kernel
theorem dL_law_458 : decode cL_law 458 = .ok (.aload_n 2, 1) := by decide +kernel
theorem dL_law_459 : decode cL_law 459 = .ok (.aload_n 0, 1) := by decide +kernel
theorem dL_law_460 : decode cL_law 460 = .ok (.iload_n 3, 1) := by decide +kernel
theorem dL_law_461 : decode cL_law 461 = .ok (.iconst 1, 1) := by decide +kernel
theorem dL_law_462 : decode cL_law 462 = .ok (.iadd, 1) := by decide +kernel
theorem dL_law_463 : decode cL_law 463 = .ok (.iaload, 1) := by decide +kernel
theorem dL_law_464 : decode cL_law 464 = .ok (.aload_n 0, 1) := by decide +kernel
theorem dL_law_465 : decode cL_law 465 = .ok (.iload_n 3, 1) := by decide +kernel
theorem dL_law_466 : decode cL_law 466 = .ok (.iconst 2, 1) := by decide +kernel
theorem dL_law_467 : decode cL_law 467 = .ok (.iadd, 1) := by decide +kernel
theorem dL_law_468 : decode cL_law 468 = .ok (.iaload, 1) := by decide +kernel
theorem dL_law_469 : decode cL_law 469 = .ok (.aload_n 0, 1) := by decide +kernel
theorem dL_law_470 : decode cL_law 470 = .ok (.iload_n 3, 1) := by decide +kernel
theorem dL_law_471 : decode cL_law 471 = .ok (.iconst 3, 1) := by decide +kernel
theorem dL_law_472 : decode cL_law 472 = .ok (.iadd, 1) := by decide +kernel
theorem dL_law_473 : decode cL_law 473 = .ok (.iaload, 1) := by decide +kernel
theorem dL_law_474 : decode cL_law 474 = .ok (.aload_n 0, 1) := by decide +kernel
theorem dL_law_475 : decode cL_law 475 = .ok (.iload_n 3, 1) := by decide +kernel
theorem dL_law_476 : decode cL_law 476 = .ok (.iconst 4, 1) := by decide +kernel
theorem dL_law_477 : decode cL_law 477 = .ok (.iadd, 1) := by decide +kernel
theorem dL_law_478 : decode cL_law 478 = .ok (.iaload, 1) := by decide +kernel
theorem dL_law_479 : decode cL_law 479 = .ok (.invokevirtual 44, 3) := by decide +kernel
theorem dL_law_482 : decode cL_law 482 = .ok (.if_icmp .eq 1196, 3) := by decide +kernel
theorem dL_law_487 : decode cL_law 487 = .ok (.aload_n 1, 1) := by decide +kernel
theorem dL_law_488 : decode cL_law 488 = .ok (.aload_n 0, 1) := by decide +kernel
theorem dL_law_489 : decode cL_law 489 = .ok (.iload_n 3, 1) := by decide +kernel
theorem dL_law_490 : decode cL_law 490 = .ok (.iconst 1, 1) := by decide +kernel
theorem dL_law_491 : decode cL_law 491 = .ok (.iadd, 1) := by decide +kernel
theorem dL_law_492 : decode cL_law 492 = .ok (.iaload, 1) := by decide +kernel
theorem dL_law_493 : decode cL_law 493 = .ok (.aload_n 0, 1) := by decide +kernel
theorem dL_law_494 : decode cL_law 494 = .ok (.iload_n 3, 1) := by decide +kernel
theorem dL_law_495 : decode cL_law 495 = .ok (.iconst 2, 1) := by decide +kernel
theorem dL_law_496 : decode cL_law 496 = .ok (.iadd, 1) := by decide +kernel
theorem dL_law_497 : decode cL_law 497 = .ok (.iaload, 1) := by decide +kernel
theorem dL_law_498 : decode cL_law 498 = .ok (.invokevirtual 45, 3) := by decide +kernel
theorem dL_law_501 : decode cL_law 501 = .ok (.aload_n 2, 1) := by decide +kernel
theorem dL_law_502 : decode cL_law 502 = .ok (.aload_n 0, 1) := by decide +kernel
theorem dL_law_503 : decode cL_law 503 = .ok (.iload_n 3, 1) := by decide +kernel
theorem dL_law_504 : decode cL_law 504 = .ok (.iconst 1, 1) := by decide +kernel
theorem dL_law_505 : decode cL_law 505 = .ok (.iadd, 1) := by decide +kernel
theorem dL_law_506 : decode cL_law 506 = .ok (.iaload, 1) := by decide +kernel
theorem dL_law_507 : decode cL_law 507 = .ok (.aload_n 0, 1) := by decide +kernel
theorem dL_law_508 : decode cL_law 508 = .ok (.iload_n 3, 1) := by decide +kernel
theorem dL_law_509 : decode cL_law 509 = .ok (.iconst 2, 1) := by decide +kernel
theorem dL_law_510 : decode cL_law 510 = .ok (.iadd, 1) := by decide +kernel
theorem dL_law_511 : decode cL_law 511 = .ok (.iaload, 1) := by decide +kernel
theorem dL_law_512 : decode cL_law 512 = .ok (.invokevirtual 48, 3) := by decide +kernel
theorem dL_law_515 : decode cL_law 515 = .ok (.if_icmp .eq 1163, 3) := by decide +kernel
theorem dL_law_520 : decode cL_law 520 = .ok (.aload_n 1, 1) := by decide +kernel
theorem dL_law_521 : decode cL_law 521 = .ok (.aload_n 0, 1) := by decide +kernel
theorem dL_law_522 : decode cL_law 522 = .ok (.iload_n 3, 1) := by decide +kernel
theorem dL_law_523 : decode cL_law 523 = .ok (.iconst 1, 1) := by decide +kernel
theorem dL_law_524 : decode cL_law 524 = .ok (.iadd, 1) := by decide +kernel
theorem dL_law_525 : decode cL_law 525 = .ok (.iaload, 1) := by decide +kernel
theorem dL_law_526 : decode cL_law 526 = .ok (.aload_n 0, 1) := by decide +kernel
theorem dL_law_527 : decode cL_law 527 = .ok (.iload_n 3, 1) := by decide +kernel
theorem dL_law_528 : decode cL_law 528 = .ok (.iconst 2, 1) := by decide +kernel
theorem dL_law_529 : decode cL_law 529 = .ok (.iadd, 1) := by decide +kernel
theorem dL_law_530 : decode cL_law 530 = .ok (.iaload, 1) := by decide +kernel
theorem dL_law_531 : decode cL_law 531 = .ok (.invokevirtual 49, 3) := by decide +kernel
theorem dL_law_534 : decode cL_law 534 = .ok (.aload_n 2, 1) := by decide +kernel
theorem dL_law_535 : decode cL_law 535 = .ok (.aload_n 0, 1) := by decide +kernel
theorem dL_law_536 : decode cL_law 536 = .ok (.iload_n 3, 1) := by decide +kernel
theorem dL_law_537 : decode cL_law 537 = .ok (.iconst 1, 1) := by decide +kernel
theorem dL_law_538 : decode cL_law 538 = .ok (.iadd, 1) := by decide +kernel
theorem dL_law_539 : decode cL_law 539 = .ok (.iaload, 1) := by decide +kernel
theorem dL_law_540 : decode cL_law 540 = .ok (.aload_n 0, 1) := by decide +kernel
theorem dL_law_541 : decode cL_law 541 = .ok (.iload_n 3, 1) := by decide +kernel
theorem dL_law_542 : decode cL_law 542 = .ok (.iconst 2, 1) := by decide +kernel
theorem dL_law_543 : decode cL_law 543 = .ok (.iadd, 1) := by decide +kernel
theorem dL_law_544 : decode cL_law 544 = .ok (.iaload, 1) := by decide +kernel
theorem dL_law_545 : decode cL_law 545 = .ok (.invokevirtual 52, 3) := by decide +kernel
theorem dL_law_548 : decode cL_law 548 = .ok (.if_icmp .eq 1130, 3) := by decide +kernel
theorem dL_law_553 : decode cL_law 553 = .ok (.aload_n 1, 1) := by decide +kernel
theorem dL_law_554 : decode cL_law 554 = .ok (.aload_n 0, 1) := by decide +kernel
theorem dL_law_555 : decode cL_law 555 = .ok (.iload_n 3, 1) := by decide +kernel
theorem dL_law_556 : decode cL_law 556 = .ok (.iconst 1, 1) := by decide +kernel
theorem dL_law_557 : decode cL_law 557 = .ok (.iadd, 1) := by decide +kernel
theorem dL_law_558 : decode cL_law 558 = .ok (.iaload, 1) := by decide +kernel
theorem dL_law_559 : decode cL_law 559 = .ok (.aload_n 0, 1) := by decide +kernel
theorem dL_law_560 : decode cL_law 560 = .ok (.iload_n 3, 1) := by decide +kernel
theorem dL_law_561 : decode cL_law 561 = .ok (.iconst 2, 1) := by decide +kernel
theorem dL_law_562 : decode cL_law 562 = .ok (.iadd, 1) := by decide +kernel
theorem dL_law_563 : decode cL_law 563 = .ok (.iaload, 1) := by decide +kernel
theorem dL_law_564 : decode cL_law 564 = .ok (.invokevirtual 53, 3) := by decide +kernel
theorem dL_law_567 : decode cL_law 567 = .ok (.aload_n 2, 1) := by decide +kernel
theorem dL_law_568 : decode cL_law 568 = .ok (.aload_n 0, 1) := by decide +kernel
theorem dL_law_569 : decode cL_law 569 = .ok (.iload_n 3, 1) := by decide +kernel
theorem dL_law_570 : decode cL_law 570 = .ok (.iconst 1, 1) := by decide +kernel
theorem dL_law_571 : decode cL_law 571 = .ok (.iadd, 1) := by decide +kernel
theorem dL_law_572 : decode cL_law 572 = .ok (.iaload, 1) := by decide +kernel
theorem dL_law_573 : decode cL_law 573 = .ok (.aload_n 0, 1) := by decide +kernel
theorem dL_law_574 : decode cL_law 574 = .ok (.iload_n 3, 1) := by decide +kernel
theorem dL_law_575 : decode cL_law 575 = .ok (.iconst 2, 1) := by decide +kernel
theorem dL_law_576 : decode cL_law 576 = .ok (.iadd, 1) := by decide +kernel
theorem dL_law_577 : decode cL_law 577 = .ok (.iaload, 1) := by decide +kernel
theorem dL_law_578 : decode cL_law 578 = .ok (.invokevirtual 56, 3) := by decide +kernel
theorem dL_law_581 : decode cL_law 581 = .ok (.if_icmp .eq 1097, 3) := by decide +kernel
theorem dL_law_586 : decode cL_law 586 = .ok (.aload_n 1, 1) := by decide +kernel
theorem dL_law_587 : decode cL_law 587 = .ok (.invokevirtual 57, 3) := by decide +kernel
theorem dL_law_590 : decode cL_law 590 = .ok (.aload_n 2, 1) := by decide +kernel
theorem dL_law_591 : decode cL_law 591 = .ok (.invokevirtual 61, 3) := by decide +kernel
theorem dL_law_594 : decode cL_law 594 = .ok (.if_icmp .eq 1084, 3) := by decide +kernel
theorem dL_law_599 : decode cL_law 599 = .ok (.aload_n 1, 1) := by decide +kernel
theorem dL_law_600 : decode cL_law 600 = .ok (.aload_n 0, 1) := by decide +kernel
theorem dL_law_601 : decode cL_law 601 = .ok (.iload_n 3, 1) := by decide +kernel
theorem dL_law_602 : decode cL_law 602 = .ok (.iconst 1, 1) := by decide +kernel
theorem dL_law_603 : decode cL_law 603 = .ok (.iadd, 1) := by decide +kernel
theorem dL_law_604 : decode cL_law 604 = .ok (.iaload, 1) := by decide +kernel
theorem dL_law_605 : decode cL_law 605 = .ok (.aload_n 0, 1) := by decide +kernel
theorem dL_law_606 : decode cL_law 606 = .ok (.iload_n 3, 1) := by decide +kernel
theorem dL_law_607 : decode cL_law 607 = .ok (.iconst 2, 1) := by decide +kernel
theorem dL_law_608 : decode cL_law 608 = .ok (.iadd, 1) := by decide +kernel
theorem dL_law_609 : decode cL_law 609 = .ok (.iaload, 1) := by decide +kernel
theorem dL_law_610 : decode cL_law 610 = .ok (.invokevirtual 62, 3) := by decide +kernel
theorem dL_law_613 : decode cL_law 613 = .ok (.aload_n 2, 1) := by decide +kernel
theorem dL_law_614 : decode cL_law 614 = .ok (.aload_n 0, 1) := by decide +kernel
theorem dL_law_615 : decode cL_law 615 = .ok (.iload_n 3, 1) := by decide +kernel
theorem dL_law_616 : decode cL_law 616 = .ok (.iconst 1, 1) := by decide +kernel
theorem dL_law_617 : decode cL_law 617 = .ok (.iadd, 1) := by decide +kernel
theorem dL_law_618 : decode cL_law 618 = .ok (.iaload, 1) := by decide +kernel
theorem dL_law_619 : decode cL_law 619 = .ok (.aload_n 0, 1) := by decide +kernel
theorem dL_law_620 : decode cL_law 620 = .ok (.iload_n 3, 1) := by decide +kernel
theorem dL_law_621 : decode cL_law 621 = .ok (.iconst 2, 1) := by decide +kernel
theorem dL_law_622 : decode cL_law 622 = .ok (.iadd, 1) := by decide +kernel
theorem dL_law_623 : decode cL_law 623 = .ok (.iaload, 1) := by decide +kernel
theorem dL_law_624 : decode cL_law 624 = .ok (.invokevirtual 65, 3) := by decide +kernel
theorem dL_law_627 : decode cL_law 627 = .ok (.if_icmp .eq 1051, 3) := by decide +kernel
set_option maxRecDepth 20000 in
theorem gv_law0_13_X11_person : GoodIn lw_tbl (wsV RL 13 RX11 yX11_person v_X11_person) := goodIn_app (goodIn_r _ [595, 596, 597, 103] (by decide +kernel) (by decide +kernel)) (gi tb_X11_person gd_X11_person)
set_option maxRecDepth 20000 in
theorem gv_law0_17_X12_person : GoodIn lw_tbl (wsV RL 17 RX12 yX12_person v_X12_person) := goodIn_app (goodIn_r _ [1565, 1566, 1567, 114] (by decide +kernel) (by decide +kernel)) (gi tb_X12_person gd_X12_person)
set_option maxHeartbeats 4000000 in
set_option maxRecDepth 100000 in
theorem law_case_0 {p : Program} {e : Env} {s : State} {m : MethodId} {below : List Frame} {meth : Method} {c : Code} (l : Launch) (G : va_G) (cI cJ cZ cD cR cT : ClassId) {b : Nat} {xs : Nat → Int32} (h0 k0 h0_0 h0_1 h0_2 h0_3 h0_6 h0_7 h0_8 h0_10 h0_11 h0_13 h0_0_0 h0_0_1 h0_0_2 h0_0_3 h0_0_4 h0_0_5 h0_0_8 h0_0_15 h0_0_16 h0_0_0_1 h0_0_0_2 h0_0_0_3 h0_0_0_4 h0_0_0_5 h0_0_0_6 h0_0_0_7 h0_0_0_8 h0_0_0_9 k0_2 k0_3 k0_4 k0_5 k0_9 k0_10 k0_11 k0_20 k0_22 k0_23 k0_25 k0_26 k0_29 k0_30 k0_31 k0_32 k0_39 k0_40 k0_42 k0_44 k0_45 : Nat) {H : Heap} {locs : List Loc} {ls : Array Slot} (hx : p.tables.exec = Jvm.exec) (hb : c.code = code) (hr : meth.sig.returnType = ret) (hml : c.maxLocals = 4) (hown : s.vm.findClass RL = some m.cls) (hts : ∀ w ∈ lw_tbl, w.before #[Value.ref b] s = true) (hX : va_X b 6 xs s s.heap) (hbl : b < s.heap.size) (hlocks : meth.locks = false) (hKK : KK G (tys6 cI cJ cZ cD cR cT) s) (hP : va_P G vwCl [(h0, .inr (11, [.ref h0_0, .ref h0_1, .ref h0_2, .ref h0_3, .int 0, .int 0, .ref h0_6, .ref h0_7, .ref h0_8, .int 0, .ref h0_10, .ref h0_11, .int 0, .ref h0_13, .int 0, .int 0])), (h0_0, .inr (0, [.ref h0_0_0, .ref h0_0_1, .ref h0_0_2, .ref h0_0_3, .ref h0_0_4, .ref h0_0_5, .int 0, .int 0, .ref h0_0_8, .int 0, .int 0, .int 0, .int 0, .long 0, .int 0, .ref h0_0_15, .ref h0_0_16])), (h0_0_0, .inr (4, [.int 0, .ref h0_0_0_1, .ref h0_0_0_2, .ref h0_0_0_3, .ref h0_0_0_4, .ref h0_0_0_5, .ref h0_0_0_6, .ref h0_0_0_7, .ref h0_0_0_8, .ref h0_0_0_9])), (h0_0_0_1, .inl (cI, 40, .inl (fun _ => 0))), (h0_0_0_2, .inl (cI, 40, .inl (fun _ => 0))), (h0_0_0_3, .inl (cI, 40, .inl (fun _ => 0))), (h0_0_0_4, .inl (cI, 40, .inl (fun _ => 0))), (h0_0_0_5, .inl (cI, 40, .inl (fun _ => 0))), (h0_0_0_6, .inl (cI, 40, .inl (fun _ => 0))), (h0_0_0_7, .inl (cI, 40, .inl (fun _ => 0))), (h0_0_0_8, .inl (cI, 40, .inl (fun _ => 0))), (k0, .inr (12, [.int 0, .int 0, .ref k0_2, .ref k0_3, .ref k0_4, .ref k0_5, .int 0, .int 0, .int 0, .ref k0_9, .ref k0_10, .ref k0_11, .int 0, .int 0, .int 0, .int 0, .long 0, .int (-1), .int 0, .int 0, .ref k0_20, .int 0, .ref k0_22, .ref k0_23, .int 0, .ref k0_25, .ref k0_26, .int 0, .int 0, .ref k0_29, .ref k0_30, .ref k0_31, .ref k0_32, .int 0, .long 0, .long 0, .long 0, .long 0, .int 0, .ref k0_39, .ref k0_40, .int 0, .ref k0_42, .int 0, .ref k0_44, .ref k0_45, .int 0, .int 0, .int 0, .int 0, .int 0, .int 0])), (k0_2, .inl (cI, 35942, .inl mrow))] H) (hD : va_D (fun q : Nat => s.heap.size ≤ q) [(h0, .inr (11, [.ref h0_0, .ref h0_1, .ref h0_2, .ref h0_3, .int 0, .int 0, .ref h0_6, .ref h0_7, .ref h0_8, .int 0, .ref h0_10, .ref h0_11, .int 0, .ref h0_13, .int 0, .int 0])), (h0_0, .inr (0, [.ref h0_0_0, .ref h0_0_1, .ref h0_0_2, .ref h0_0_3, .ref h0_0_4, .ref h0_0_5, .int 0, .int 0, .ref h0_0_8, .int 0, .int 0, .int 0, .int 0, .long 0, .int 0, .ref h0_0_15, .ref h0_0_16])), (h0_0_0, .inr (4, [.int 0, .ref h0_0_0_1, .ref h0_0_0_2, .ref h0_0_0_3, .ref h0_0_0_4, .ref h0_0_0_5, .ref h0_0_0_6, .ref h0_0_0_7, .ref h0_0_0_8, .ref h0_0_0_9])), (h0_0_0_1, .inl (cI, 40, .inl (fun _ => 0))), (h0_0_0_2, .inl (cI, 40, .inl (fun _ => 0))), (h0_0_0_3, .inl (cI, 40, .inl (fun _ => 0))), (h0_0_0_4, .inl (cI, 40, .inl (fun _ => 0))), (h0_0_0_5, .inl (cI, 40, .inl (fun _ => 0))), (h0_0_0_6, .inl (cI, 40, .inl (fun _ => 0))), (h0_0_0_7, .inl (cI, 40, .inl (fun _ => 0))), (h0_0_0_8, .inl (cI, 40, .inl (fun _ => 0))), (k0, .inr (12, [.int 0, .int 0, .ref k0_2, .ref k0_3, .ref k0_4, .ref k0_5, .int 0, .int 0, .int 0, .ref k0_9, .ref k0_10, .ref k0_11, .int 0, .int 0, .int 0, .int 0, .long 0, .int (-1), .int 0, .int 0, .ref k0_20, .int 0, .ref k0_22, .ref k0_23, .int 0, .ref k0_25, .ref k0_26, .int 0, .int 0, .ref k0_29, .ref k0_30, .ref k0_31, .ref k0_32, .int 0, .long 0, .long 0, .long 0, .long 0, .int 0, .ref k0_39, .ref k0_40, .int 0, .ref k0_42, .int 0, .ref k0_44, .ref k0_45, .int 0, .int 0, .int 0, .int 0, .int 0, .int 0])), (k0_2, .inl (cI, 35942, .inl mrow))]) (hS : va_S (fun q : Nat => s.heap.size ≤ q) s.heap H locs) (hl : lv_has ls 4 [(3, .int 0), (2, .ref k0), (1, .ref h0), (0, .ref b)]) : W p l e room_1 s m #[Value.ref b] below meth c H locs 221 158368 (lw_Z below #[Value.ref b] s) (F0 m 236 ls []) := by
  have hK := hKK.1
  have hA : ∀ q : Nat, s.heap.size ≤ q → (fun q : Nat => s.heap.size ≤ q) q := fun _ h => h
  have hbA : ¬ (fun q : Nat => s.heap.size ≤ q) b := Nat.not_le.mpr hbl
  refine lv_aload_n hx hb dL_law_236 rfl (lv_at hl 2 rfl) ?_
  refine lv_aload_n hx hb dL_law_237 rfl (lv_at hl 3 rfl) ?_
  refine lv_iload_n hx hb dL_law_238 rfl (lv_at hl 0 rfl) ?_
  refine lv_iconst (v := 1) hx hb dL_law_239 (by decide) ?_
  refine lv_iadd hx hb dL_law_240 ?_
  refine lv_topi (fun x1 ex1 => ?_)
  obtain rfl : 1 = x1 := (ex1.trans (by decide)).symm
  refine va_sld hx hb hX hbl hbA hS (vp_in_iff.mpr (by decide)) dL_law_241 ?_
  refine lv_topi (fun x2 ex2 => ?_)
  obtain rfl : xs 1 = x2 := (ex2.trans rfl).symm
  refine lv_aload_n hx hb dL_law_242 rfl (lv_at hl 3 rfl) ?_
  refine lv_iload_n hx hb dL_law_243 rfl (lv_at hl 0 rfl) ?_
  refine lv_iconst (v := 2) hx hb dL_law_244 (by decide) ?_
  refine lv_iadd hx hb dL_law_245 ?_
  refine lv_topi (fun x3 ex3 => ?_)
  obtain rfl : 2 = x3 := (ex3.trans (by decide)).symm
  refine va_sld hx hb hX hbl hbA hS (vp_in_iff.mpr (by decide)) dL_law_246 ?_
  refine lv_topi (fun x4 ex4 => ?_)
  obtain rfl : xs 2 = x4 := (ex4.trans rfl).symm
  refine lv_aload_n hx hb dL_law_247 rfl (lv_at hl 3 rfl) ?_
  refine lv_iload_n hx hb dL_law_248 rfl (lv_at hl 0 rfl) ?_
  refine lv_iconst (v := 3) hx hb dL_law_249 (by decide) ?_
  refine lv_iadd hx hb dL_law_250 ?_
  refine lv_topi (fun x5 ex5 => ?_)
  obtain rfl : 3 = x5 := (ex5.trans (by decide)).symm
  refine va_sld hx hb hX hbl hbA hS (vp_in_iff.mpr (by decide)) dL_law_251 ?_
  refine lv_topi (fun x6 ex6 => ?_)
  obtain rfl : xs 3 = x6 := (ex6.trans rfl).symm
  refine goV (As := [.int (xs 1), .int (xs 2), .int (xs 3)]) (rest := []) (wr := [(k0, .inr (12, [.int 0, .int 0, .ref k0_2, .ref k0_3, .ref k0_4, .ref k0_5, .int 0, .int 0, .int 0, .ref k0_9, .ref k0_10, .ref k0_11, .int 0, .int 0, .int 0, .int 0, .long 0, .int (-1), .int 0, .int 0, .ref k0_20, .int 0, .ref k0_22, .ref k0_23, .int 0, .ref k0_25, .ref k0_26, .int 0, .int 0, .ref k0_29, .ref k0_30, .ref k0_31, .ref k0_32, .int 0, .long 0, .long 0, .long 0, .long 0, .int 0, .ref k0_39, .ref k0_40, .int 0, .ref k0_42, .int 0, .ref k0_44, .ref k0_45, .int 0, .int 0, .int 0, .int 0, .int 0, .int 0])), (k0_2, .inl (cI, 35942, .inl mrow))]) ⟨hx, hb, hml, hown, hts⟩ (c_X11_person l G cI cJ cZ cD cR cT h0 (xs 1) (xs 2) (xs 3) h0_0 h0_1 h0_2 h0_3 h0_6 h0_7 h0_8 h0_10 h0_11 h0_13 h0_0_0 h0_0_1 h0_0_2 h0_0_3 h0_0_4 h0_0_5 h0_0_8 h0_0_15 h0_0_16 h0_0_0_1 h0_0_0_2 h0_0_0_3 h0_0_0_4 h0_0_0_5 h0_0_0_6 h0_0_0_7 h0_0_0_8 h0_0_0_9 _) (cwV 3 hts gv_law0_13_X11_person rfl rfl rfl (by decide +kernel) ⟨Nat.le_of_ble_eq_true rfl, Nat.le_of_ble_eq_true rfl⟩) 0 rfl rfl rfl hKK hP hD hS hA [0, 1, 2, 3, 4, 5, 6, 7, 8, 9, 10] [11, 12] rfl rfl (by decide +kernel) (by decide +kernel) (by decide +kernel) rfl hl.1 rfl (lv_room (Nat.le_of_ble_eq_true rfl)) dL_law_252 ⟨Nat.le_of_ble_eq_true rfl, Nat.le_of_ble_eq_true rfl⟩ (fun v8 q7 gq7 H locs hv8 => appW (ws' := [(k0, .inr (12, [.int 0, .int 0, .ref k0_2, .ref k0_3, .ref k0_4, .ref k0_5, .int 0, .int 0, .int 0, .ref k0_9, .ref k0_10, .ref k0_11, .int 0, .int 0, .int 0, .int 0, .long 0, .int (-1), .int 0, .int 0, .ref k0_20, .int 0, .ref k0_22, .ref k0_23, .int 0, .ref k0_25, .ref k0_26, .int 0, .int 0, .ref k0_29, .ref k0_30, .ref k0_31, .ref k0_32, .int 0, .long 0, .long 0, .long 0, .long 0, .int 0, .ref k0_39, .ref k0_40, .int 0, .ref k0_42, .int 0, .ref k0_44, .ref k0_45, .int 0, .int 0, .int 0, .int 0, .int 0, .int 0])), (k0_2, .inl (cI, 35942, .inl mrow))]) rfl (fun hP hD hS => ?_))
  obtain ⟨r9, rfl, hr9⟩ := hv8
  refine lv_aload_n hx hb dL_law_255 rfl (lv_at hl 1 rfl) ?_
  refine lv_aload_n hx hb dL_law_256 rfl (lv_at hl 3 rfl) ?_
  refine lv_iload_n hx hb dL_law_257 rfl (lv_at hl 0 rfl) ?_
  refine lv_iconst (v := 1) hx hb dL_law_258 (by decide) ?_
  refine lv_iadd hx hb dL_law_259 ?_
  refine lv_topi (fun x10 ex10 => ?_)
  obtain rfl : 1 = x10 := (ex10.trans (by decide)).symm
  refine va_sld hx hb hX hbl hbA hS (vp_in_iff.mpr (by decide)) dL_law_260 ?_
  refine lv_topi (fun x11 ex11 => ?_)
  obtain rfl : xs 1 = x11 := (ex11.trans rfl).symm
  refine lv_aload_n hx hb dL_law_261 rfl (lv_at hl 3 rfl) ?_
  refine lv_iload_n hx hb dL_law_262 rfl (lv_at hl 0 rfl) ?_
  refine lv_iconst (v := 2) hx hb dL_law_263 (by decide) ?_
  refine lv_iadd hx hb dL_law_264 ?_
  refine lv_topi (fun x12 ex12 => ?_)
  obtain rfl : 2 = x12 := (ex12.trans (by decide)).symm
  refine va_sld hx hb hX hbl hbA hS (vp_in_iff.mpr (by decide)) dL_law_265 ?_
  refine lv_topi (fun x13 ex13 => ?_)
  obtain rfl : xs 2 = x13 := (ex13.trans rfl).symm
  refine lv_aload_n hx hb dL_law_266 rfl (lv_at hl 3 rfl) ?_
  refine lv_iload_n hx hb dL_law_267 rfl (lv_at hl 0 rfl) ?_
  refine lv_iconst (v := 3) hx hb dL_law_268 (by decide) ?_
  refine lv_iadd hx hb dL_law_269 ?_
  refine lv_topi (fun x14 ex14 => ?_)
  obtain rfl : 3 = x14 := (ex14.trans (by decide)).symm
  refine va_sld hx hb hX hbl hbA hS (vp_in_iff.mpr (by decide)) dL_law_270 ?_
  refine lv_topi (fun x15 ex15 => ?_)
  obtain rfl : xs 3 = x15 := (ex15.trans rfl).symm
  refine goV (As := [.int (xs 1), .int (xs 2), .int (xs 3)]) (rest := [.int r9]) (wr := []) ⟨hx, hb, hml, hown, hts⟩ (c_X12_person l G cI cJ cZ cD cR cT k0 (xs 1) (xs 2) (xs 3) k0_2 k0_3 k0_4 k0_5 k0_9 k0_10 k0_11 k0_20 k0_22 k0_23 k0_25 k0_26 k0_29 k0_30 k0_31 k0_32 k0_39 k0_40 k0_42 k0_44 k0_45 _) (cwV 3 hts gv_law0_17_X12_person rfl rfl rfl (by decide +kernel) ⟨Nat.le_of_ble_eq_true rfl, Nat.le_of_ble_eq_true rfl⟩) 0 rfl rfl rfl hKK hP hD hS hA [0, 1] [] rfl rfl (by decide +kernel) (by decide +kernel) (by decide +kernel) rfl hl.1 rfl (lv_room (Nat.le_of_ble_eq_true rfl)) dL_law_271 ⟨Nat.le_of_ble_eq_true rfl, Nat.le_of_ble_eq_true rfl⟩ (fun v17 q16 gq16 H locs hv17 => appW (ws' := []) rfl (fun hP hD hS => ?_))
  obtain ⟨r18, rfl, hr18⟩ := hv17
  refine lv_icmp_eq (tgt := 1678) hx hb dL_law_274 (by decide) (fun _ => ?_) (fun c => absurd (hr9.trans hr18.symm) c)
  refine lv_iinc (v := 6) (lv' := [(3, .int 6), (2, .ref k0), (1, .ref h0), (0, .ref b)]) hx hb dL_law_1678 hl (k := 0) rfl (by decide) (by decide) rfl (fun ls hl => ?_)
  refine lv_goto (tgt := 18) hx hb dL_law_1681 (by decide) ?_
  refine lv_iload_n hx hb dL_law_18 rfl (lv_at hl 0 rfl) ?_
  refine lv_aload_n hx hb dL_law_19 rfl (lv_at hl 3 rfl) ?_
  refine va_slen hx hb hX hbl hbA hS dL_law_20 ?_
  refine lv_topi (fun x19 ex19 => ?_)
  obtain rfl : 6 = x19 := (ex19.trans rfl).symm
  refine lv_bipush (v := 6) hx hb dL_law_21 (by decide) ?_
  refine lv_isub hx hb dL_law_23 ?_
  refine lv_topi (fun x20 ex20 => ?_)
  obtain rfl : 0 = x20 := (ex20.trans (by decide)).symm
  refine lv_icmp_gt (tgt := 1684) hx hb dL_law_24 (by decide) (fun _ => ?_) (fun c => absurd c (by decide))
  refine lv_iconst (v := 1) hx hb dL_law_1684 (by decide) ?_
  refine va_forget (fun q h => hS.2.2 q h) ?_
  refine W.widen (k := 600000) (n := 7302250) (Nat.le_of_ble_eq_true rfl) (Nat.le_of_ble_eq_true rfl) ?_
  exact W.base (lw_ret (Drawn.sameBut.refl s.drawn lw_cs) hx hb hr hlocks dL_law_1685)
set_option maxRecDepth 20000 in
theorem gv_law1_18_X11_heed : GoodIn lw_tbl (wsV RL 18 RX11 yX11_heed v_X11_heed) := goodIn_app (goodIn_r _ [615, 616, 617, 103] (by decide +kernel) (by decide +kernel)) (gi tb_X11_heed gd_X11_heed)
set_option maxRecDepth 20000 in
theorem gv_law1_22_X12_heed : GoodIn lw_tbl (wsV RL 22 RX12 yX12_heed v_X12_heed) := goodIn_app (goodIn_r _ [1579, 1580, 1581, 114] (by decide +kernel) (by decide +kernel)) (gi tb_X12_heed gd_X12_heed)
set_option maxHeartbeats 4000000 in
set_option maxRecDepth 100000 in
theorem law_case_1 {p : Program} {e : Env} {s : State} {m : MethodId} {below : List Frame} {meth : Method} {c : Code} (l : Launch) (G : va_G) (cI cJ cZ cD cR cT : ClassId) {b : Nat} {xs : Nat → Int32} (h0 k0 h0_0 h0_1 h0_2 h0_3 h0_6 h0_7 h0_8 h0_10 h0_11 h0_13 h0_0_0 h0_0_1 h0_0_2 h0_0_3 h0_0_4 h0_0_5 h0_0_8 h0_0_15 h0_0_16 h0_0_0_1 h0_0_0_2 h0_0_0_3 h0_0_0_4 h0_0_0_5 h0_0_0_6 h0_0_0_7 h0_0_0_8 h0_0_0_9 k0_2 k0_3 k0_4 k0_5 k0_9 k0_10 k0_11 k0_20 k0_22 k0_23 k0_25 k0_26 k0_29 k0_30 k0_31 k0_32 k0_39 k0_40 k0_42 k0_44 k0_45 : Nat) {H : Heap} {locs : List Loc} {ls : Array Slot} (hx : p.tables.exec = Jvm.exec) (hb : c.code = code) (hr : meth.sig.returnType = ret) (hml : c.maxLocals = 4) (hown : s.vm.findClass RL = some m.cls) (hts : ∀ w ∈ lw_tbl, w.before #[Value.ref b] s = true) (hX : va_X b 6 xs s s.heap) (hbl : b < s.heap.size) (hlocks : meth.locks = false) (hKK : KK G (tys6 cI cJ cZ cD cR cT) s) (hP : va_P G vwCl [(h0, .inr (11, [.ref h0_0, .ref h0_1, .ref h0_2, .ref h0_3, .int 0, .int 0, .ref h0_6, .ref h0_7, .ref h0_8, .int 0, .ref h0_10, .ref h0_11, .int 0, .ref h0_13, .int 0, .int 0])), (h0_0, .inr (0, [.ref h0_0_0, .ref h0_0_1, .ref h0_0_2, .ref h0_0_3, .ref h0_0_4, .ref h0_0_5, .int 0, .int 0, .ref h0_0_8, .int 0, .int 0, .int 0, .int 0, .long 0, .int 0, .ref h0_0_15, .ref h0_0_16])), (h0_0_0, .inr (4, [.int 0, .ref h0_0_0_1, .ref h0_0_0_2, .ref h0_0_0_3, .ref h0_0_0_4, .ref h0_0_0_5, .ref h0_0_0_6, .ref h0_0_0_7, .ref h0_0_0_8, .ref h0_0_0_9])), (k0, .inr (12, [.int 0, .int 0, .ref k0_2, .ref k0_3, .ref k0_4, .ref k0_5, .int 0, .int 0, .int 0, .ref k0_9, .ref k0_10, .ref k0_11, .int 0, .int 0, .int 0, .int 0, .long 0, .int (-1), .int 0, .int 0, .ref k0_20, .int 0, .ref k0_22, .ref k0_23, .int 0, .ref k0_25, .ref k0_26, .int 0, .int 0, .ref k0_29, .ref k0_30, .ref k0_31, .ref k0_32, .int 0, .long 0, .long 0, .long 0, .long 0, .int 0, .ref k0_39, .ref k0_40, .int 0, .ref k0_42, .int 0, .ref k0_44, .ref k0_45, .int 0, .int 0, .int 0, .int 0, .int 0, .int 0])), (k0_2, .inl (cI, 35942, .inl mrow))] H) (hD : va_D (fun q : Nat => s.heap.size ≤ q) [(h0, .inr (11, [.ref h0_0, .ref h0_1, .ref h0_2, .ref h0_3, .int 0, .int 0, .ref h0_6, .ref h0_7, .ref h0_8, .int 0, .ref h0_10, .ref h0_11, .int 0, .ref h0_13, .int 0, .int 0])), (h0_0, .inr (0, [.ref h0_0_0, .ref h0_0_1, .ref h0_0_2, .ref h0_0_3, .ref h0_0_4, .ref h0_0_5, .int 0, .int 0, .ref h0_0_8, .int 0, .int 0, .int 0, .int 0, .long 0, .int 0, .ref h0_0_15, .ref h0_0_16])), (h0_0_0, .inr (4, [.int 0, .ref h0_0_0_1, .ref h0_0_0_2, .ref h0_0_0_3, .ref h0_0_0_4, .ref h0_0_0_5, .ref h0_0_0_6, .ref h0_0_0_7, .ref h0_0_0_8, .ref h0_0_0_9])), (k0, .inr (12, [.int 0, .int 0, .ref k0_2, .ref k0_3, .ref k0_4, .ref k0_5, .int 0, .int 0, .int 0, .ref k0_9, .ref k0_10, .ref k0_11, .int 0, .int 0, .int 0, .int 0, .long 0, .int (-1), .int 0, .int 0, .ref k0_20, .int 0, .ref k0_22, .ref k0_23, .int 0, .ref k0_25, .ref k0_26, .int 0, .int 0, .ref k0_29, .ref k0_30, .ref k0_31, .ref k0_32, .int 0, .long 0, .long 0, .long 0, .long 0, .int 0, .ref k0_39, .ref k0_40, .int 0, .ref k0_42, .int 0, .ref k0_44, .ref k0_45, .int 0, .int 0, .int 0, .int 0, .int 0, .int 0])), (k0_2, .inl (cI, 35942, .inl mrow))]) (hS : va_S (fun q : Nat => s.heap.size ≤ q) s.heap H locs) (hl : lv_has ls 4 [(3, .int 0), (2, .ref k0), (1, .ref h0), (0, .ref b)]) : W p l e room_1 s m #[Value.ref b] below meth c H locs 221 158368 (lw_Z below #[Value.ref b] s) (F0 m 279 ls []) := by
  have hK := hKK.1
  have hA : ∀ q : Nat, s.heap.size ≤ q → (fun q : Nat => s.heap.size ≤ q) q := fun _ h => h
  have hbA : ¬ (fun q : Nat => s.heap.size ≤ q) b := Nat.not_le.mpr hbl
  refine lv_aload_n hx hb dL_law_279 rfl (lv_at hl 2 rfl) ?_
  refine lv_aload_n hx hb dL_law_280 rfl (lv_at hl 3 rfl) ?_
  refine lv_iload_n hx hb dL_law_281 rfl (lv_at hl 0 rfl) ?_
  refine lv_iconst (v := 1) hx hb dL_law_282 (by decide) ?_
  refine lv_iadd hx hb dL_law_283 ?_
  refine lv_topi (fun x1 ex1 => ?_)
  obtain rfl : 1 = x1 := (ex1.trans (by decide)).symm
  refine va_sld hx hb hX hbl hbA hS (vp_in_iff.mpr (by decide)) dL_law_284 ?_
  refine lv_topi (fun x2 ex2 => ?_)
  obtain rfl : xs 1 = x2 := (ex2.trans rfl).symm
  refine lv_aload_n hx hb dL_law_285 rfl (lv_at hl 3 rfl) ?_
  refine lv_iload_n hx hb dL_law_286 rfl (lv_at hl 0 rfl) ?_
  refine lv_iconst (v := 2) hx hb dL_law_287 (by decide) ?_
  refine lv_iadd hx hb dL_law_288 ?_
  refine lv_topi (fun x3 ex3 => ?_)
  obtain rfl : 2 = x3 := (ex3.trans (by decide)).symm
  refine va_sld hx hb hX hbl hbA hS (vp_in_iff.mpr (by decide)) dL_law_289 ?_
  refine lv_topi (fun x4 ex4 => ?_)
  obtain rfl : xs 2 = x4 := (ex4.trans rfl).symm
  refine goV (As := [.int (xs 1), .int (xs 2)]) (rest := []) (wr := [(k0, .inr (12, [.int 0, .int 0, .ref k0_2, .ref k0_3, .ref k0_4, .ref k0_5, .int 0, .int 0, .int 0, .ref k0_9, .ref k0_10, .ref k0_11, .int 0, .int 0, .int 0, .int 0, .long 0, .int (-1), .int 0, .int 0, .ref k0_20, .int 0, .ref k0_22, .ref k0_23, .int 0, .ref k0_25, .ref k0_26, .int 0, .int 0, .ref k0_29, .ref k0_30, .ref k0_31, .ref k0_32, .int 0, .long 0, .long 0, .long 0, .long 0, .int 0, .ref k0_39, .ref k0_40, .int 0, .ref k0_42, .int 0, .ref k0_44, .ref k0_45, .int 0, .int 0, .int 0, .int 0, .int 0, .int 0])), (k0_2, .inl (cI, 35942, .inl mrow))]) ⟨hx, hb, hml, hown, hts⟩ (c_X11_heed l G cI cJ cZ cD cR cT h0 (xs 1) (xs 2) h0_0 h0_1 h0_2 h0_3 h0_6 h0_7 h0_8 h0_10 h0_11 h0_13 h0_0_0 h0_0_1 h0_0_2 h0_0_3 h0_0_4 h0_0_5 h0_0_8 h0_0_15 h0_0_16 h0_0_0_1 h0_0_0_2 h0_0_0_3 h0_0_0_4 h0_0_0_5 h0_0_0_6 h0_0_0_7 h0_0_0_8 h0_0_0_9 _) (cwV 2 hts gv_law1_18_X11_heed rfl rfl rfl (by decide +kernel) ⟨Nat.le_of_ble_eq_true rfl, Nat.le_of_ble_eq_true rfl⟩) 0 rfl rfl rfl hKK hP hD hS hA [0, 1, 2] [3, 4] rfl rfl (by decide +kernel) (by decide +kernel) (by decide +kernel) rfl hl.1 rfl (lv_room (Nat.le_of_ble_eq_true rfl)) dL_law_290 ⟨Nat.le_of_ble_eq_true rfl, Nat.le_of_ble_eq_true rfl⟩ (fun v6 q5 gq5 H locs hv6 => appW (ws' := [(k0, .inr (12, [.int 0, .int 0, .ref k0_2, .ref k0_3, .ref k0_4, .ref k0_5, .int 0, .int 0, .int 0, .ref k0_9, .ref k0_10, .ref k0_11, .int 0, .int 0, .int 0, .int 0, .long 0, .int (-1), .int 0, .int 0, .ref k0_20, .int 0, .ref k0_22, .ref k0_23, .int 0, .ref k0_25, .ref k0_26, .int 0, .int 0, .ref k0_29, .ref k0_30, .ref k0_31, .ref k0_32, .int 0, .long 0, .long 0, .long 0, .long 0, .int 0, .ref k0_39, .ref k0_40, .int 0, .ref k0_42, .int 0, .ref k0_44, .ref k0_45, .int 0, .int 0, .int 0, .int 0, .int 0, .int 0])), (k0_2, .inl (cI, 35942, .inl mrow))]) rfl (fun hP hD hS => ?_))
  obtain ⟨r7, rfl, hr7⟩ := hv6
  refine lv_aload_n hx hb dL_law_293 rfl (lv_at hl 1 rfl) ?_
  refine lv_aload_n hx hb dL_law_294 rfl (lv_at hl 3 rfl) ?_
  refine lv_iload_n hx hb dL_law_295 rfl (lv_at hl 0 rfl) ?_
  refine lv_iconst (v := 1) hx hb dL_law_296 (by decide) ?_
  refine lv_iadd hx hb dL_law_297 ?_
  refine lv_topi (fun x8 ex8 => ?_)
  obtain rfl : 1 = x8 := (ex8.trans (by decide)).symm
  refine va_sld hx hb hX hbl hbA hS (vp_in_iff.mpr (by decide)) dL_law_298 ?_
  refine lv_topi (fun x9 ex9 => ?_)
  obtain rfl : xs 1 = x9 := (ex9.trans rfl).symm
  refine lv_aload_n hx hb dL_law_299 rfl (lv_at hl 3 rfl) ?_
  refine lv_iload_n hx hb dL_law_300 rfl (lv_at hl 0 rfl) ?_
  refine lv_iconst (v := 2) hx hb dL_law_301 (by decide) ?_
  refine lv_iadd hx hb dL_law_302 ?_
  refine lv_topi (fun x10 ex10 => ?_)
  obtain rfl : 2 = x10 := (ex10.trans (by decide)).symm
  refine va_sld hx hb hX hbl hbA hS (vp_in_iff.mpr (by decide)) dL_law_303 ?_
  refine lv_topi (fun x11 ex11 => ?_)
  obtain rfl : xs 2 = x11 := (ex11.trans rfl).symm
  refine goV (As := [.int (xs 1), .int (xs 2)]) (rest := [.int r7]) (wr := []) ⟨hx, hb, hml, hown, hts⟩ (c_X12_heed l G cI cJ cZ cD cR cT k0 (xs 1) (xs 2) k0_2 k0_3 k0_4 k0_5 k0_9 k0_10 k0_11 k0_20 k0_22 k0_23 k0_25 k0_26 k0_29 k0_30 k0_31 k0_32 k0_39 k0_40 k0_42 k0_44 k0_45 _) (cwV 2 hts gv_law1_22_X12_heed rfl rfl rfl (by decide +kernel) ⟨Nat.le_of_ble_eq_true rfl, Nat.le_of_ble_eq_true rfl⟩) 0 rfl rfl rfl hKK hP hD hS hA [0, 1] [] rfl rfl (by decide +kernel) (by decide +kernel) (by decide +kernel) rfl hl.1 rfl (lv_room (Nat.le_of_ble_eq_true rfl)) dL_law_304 ⟨Nat.le_of_ble_eq_true rfl, Nat.le_of_ble_eq_true rfl⟩ (fun v13 q12 gq12 H locs hv13 => appW (ws' := []) rfl (fun hP hD hS => ?_))
  obtain ⟨r14, rfl, hr14⟩ := hv13
  refine lv_icmp_eq (tgt := 1678) hx hb dL_law_307 (by decide) (fun _ => ?_) (fun c => absurd (hr7.trans hr14.symm) c)
  refine lv_iinc (v := 6) (lv' := [(3, .int 6), (2, .ref k0), (1, .ref h0), (0, .ref b)]) hx hb dL_law_1678 hl (k := 0) rfl (by decide) (by decide) rfl (fun ls hl => ?_)
  refine lv_goto (tgt := 18) hx hb dL_law_1681 (by decide) ?_
  refine lv_iload_n hx hb dL_law_18 rfl (lv_at hl 0 rfl) ?_
  refine lv_aload_n hx hb dL_law_19 rfl (lv_at hl 3 rfl) ?_
  refine va_slen hx hb hX hbl hbA hS dL_law_20 ?_
  refine lv_topi (fun x15 ex15 => ?_)
  obtain rfl : 6 = x15 := (ex15.trans rfl).symm
  refine lv_bipush (v := 6) hx hb dL_law_21 (by decide) ?_
  refine lv_isub hx hb dL_law_23 ?_
  refine lv_topi (fun x16 ex16 => ?_)
  obtain rfl : 0 = x16 := (ex16.trans (by decide)).symm
  refine lv_icmp_gt (tgt := 1684) hx hb dL_law_24 (by decide) (fun _ => ?_) (fun c => absurd c (by decide))
  refine lv_iconst (v := 1) hx hb dL_law_1684 (by decide) ?_
  refine va_forget (fun q h => hS.2.2 q h) ?_
  refine W.widen (k := 600000) (n := 7302250) (Nat.le_of_ble_eq_true rfl) (Nat.le_of_ble_eq_true rfl) ?_
  exact W.base (lw_ret (Drawn.sameBut.refl s.drawn lw_cs) hx hb hr hlocks dL_law_1685)
set_option maxRecDepth 20000 in
theorem gv_law2_23_X11_goes : GoodIn lw_tbl (wsV RL 23 RX11 yX11_goes v_X11_goes) := goodIn_app (goodIn_r _ [623, 624, 625, 103] (by decide +kernel) (by decide +kernel)) (gi tb_X11_goes gd_X11_goes)
set_option maxRecDepth 20000 in
theorem gv_law2_26_X12_goes : GoodIn lw_tbl (wsV RL 26 RX12 yX12_goes v_X12_goes) := goodIn_app (goodIn_r _ [1587, 1588, 1589, 114] (by decide +kernel) (by decide +kernel)) (gi tb_X12_goes gd_X12_goes)
set_option maxHeartbeats 4000000 in
set_option maxRecDepth 100000 in
theorem law_case_2 {p : Program} {e : Env} {s : State} {m : MethodId} {below : List Frame} {meth : Method} {c : Code} (l : Launch) (G : va_G) (cI cJ cZ cD cR cT : ClassId) {b : Nat} {xs : Nat → Int32} (h0 k0 h0_0 h0_1 h0_2 h0_3 h0_6 h0_7 h0_8 h0_10 h0_11 h0_13 h0_0_0 h0_0_1 h0_0_2 h0_0_3 h0_0_4 h0_0_5 h0_0_8 h0_0_15 h0_0_16 h0_0_0_1 h0_0_0_2 h0_0_0_3 h0_0_0_4 h0_0_0_5 h0_0_0_6 h0_0_0_7 h0_0_0_8 h0_0_0_9 k0_2 k0_3 k0_4 k0_5 k0_9 k0_10 k0_11 k0_20 k0_22 k0_23 k0_25 k0_26 k0_29 k0_30 k0_31 k0_32 k0_39 k0_40 k0_42 k0_44 k0_45 : Nat) {H : Heap} {locs : List Loc} {ls : Array Slot} (hx : p.tables.exec = Jvm.exec) (hb : c.code = code) (hr : meth.sig.returnType = ret) (hml : c.maxLocals = 4) (hown : s.vm.findClass RL = some m.cls) (hts : ∀ w ∈ lw_tbl, w.before #[Value.ref b] s = true) (hX : va_X b 6 xs s s.heap) (hbl : b < s.heap.size) (hlocks : meth.locks = false) (hKK : KK G (tys6 cI cJ cZ cD cR cT) s) (hP : va_P G vwCl [(h0, .inr (11, [.ref h0_0, .ref h0_1, .ref h0_2, .ref h0_3, .int 0, .int 0, .ref h0_6, .ref h0_7, .ref h0_8, .int 0, .ref h0_10, .ref h0_11, .int 0, .ref h0_13, .int 0, .int 0])), (h0_0, .inr (0, [.ref h0_0_0, .ref h0_0_1, .ref h0_0_2, .ref h0_0_3, .ref h0_0_4, .ref h0_0_5, .int 0, .int 0, .ref h0_0_8, .int 0, .int 0, .int 0, .int 0, .long 0, .int 0, .ref h0_0_15, .ref h0_0_16])), (h0_0_0, .inr (4, [.int 0, .ref h0_0_0_1, .ref h0_0_0_2, .ref h0_0_0_3, .ref h0_0_0_4, .ref h0_0_0_5, .ref h0_0_0_6, .ref h0_0_0_7, .ref h0_0_0_8, .ref h0_0_0_9])), (k0, .inr (12, [.int 0, .int 0, .ref k0_2, .ref k0_3, .ref k0_4, .ref k0_5, .int 0, .int 0, .int 0, .ref k0_9, .ref k0_10, .ref k0_11, .int 0, .int 0, .int 0, .int 0, .long 0, .int (-1), .int 0, .int 0, .ref k0_20, .int 0, .ref k0_22, .ref k0_23, .int 0, .ref k0_25, .ref k0_26, .int 0, .int 0, .ref k0_29, .ref k0_30, .ref k0_31, .ref k0_32, .int 0, .long 0, .long 0, .long 0, .long 0, .int 0, .ref k0_39, .ref k0_40, .int 0, .ref k0_42, .int 0, .ref k0_44, .ref k0_45, .int 0, .int 0, .int 0, .int 0, .int 0, .int 0])), (k0_2, .inl (cI, 35942, .inl mrow))] H) (hD : va_D (fun q : Nat => s.heap.size ≤ q) [(h0, .inr (11, [.ref h0_0, .ref h0_1, .ref h0_2, .ref h0_3, .int 0, .int 0, .ref h0_6, .ref h0_7, .ref h0_8, .int 0, .ref h0_10, .ref h0_11, .int 0, .ref h0_13, .int 0, .int 0])), (h0_0, .inr (0, [.ref h0_0_0, .ref h0_0_1, .ref h0_0_2, .ref h0_0_3, .ref h0_0_4, .ref h0_0_5, .int 0, .int 0, .ref h0_0_8, .int 0, .int 0, .int 0, .int 0, .long 0, .int 0, .ref h0_0_15, .ref h0_0_16])), (h0_0_0, .inr (4, [.int 0, .ref h0_0_0_1, .ref h0_0_0_2, .ref h0_0_0_3, .ref h0_0_0_4, .ref h0_0_0_5, .ref h0_0_0_6, .ref h0_0_0_7, .ref h0_0_0_8, .ref h0_0_0_9])), (k0, .inr (12, [.int 0, .int 0, .ref k0_2, .ref k0_3, .ref k0_4, .ref k0_5, .int 0, .int 0, .int 0, .ref k0_9, .ref k0_10, .ref k0_11, .int 0, .int 0, .int 0, .int 0, .long 0, .int (-1), .int 0, .int 0, .ref k0_20, .int 0, .ref k0_22, .ref k0_23, .int 0, .ref k0_25, .ref k0_26, .int 0, .int 0, .ref k0_29, .ref k0_30, .ref k0_31, .ref k0_32, .int 0, .long 0, .long 0, .long 0, .long 0, .int 0, .ref k0_39, .ref k0_40, .int 0, .ref k0_42, .int 0, .ref k0_44, .ref k0_45, .int 0, .int 0, .int 0, .int 0, .int 0, .int 0])), (k0_2, .inl (cI, 35942, .inl mrow))]) (hS : va_S (fun q : Nat => s.heap.size ≤ q) s.heap H locs) (hl : lv_has ls 4 [(3, .int 0), (2, .ref k0), (1, .ref h0), (0, .ref b)]) : W p l e room_1 s m #[Value.ref b] below meth c H locs 221 158368 (lw_Z below #[Value.ref b] s) (F0 m 312 ls []) := by
  have hK := hKK.1
  have hA : ∀ q : Nat, s.heap.size ≤ q → (fun q : Nat => s.heap.size ≤ q) q := fun _ h => h
  have hbA : ¬ (fun q : Nat => s.heap.size ≤ q) b := Nat.not_le.mpr hbl
  refine lv_aload_n hx hb dL_law_312 rfl (lv_at hl 2 rfl) ?_
  refine lv_aload_n hx hb dL_law_313 rfl (lv_at hl 3 rfl) ?_
  refine lv_iload_n hx hb dL_law_314 rfl (lv_at hl 0 rfl) ?_
  refine lv_iconst (v := 1) hx hb dL_law_315 (by decide) ?_
  refine lv_iadd hx hb dL_law_316 ?_
  refine lv_topi (fun x1 ex1 => ?_)
  obtain rfl : 1 = x1 := (ex1.trans (by decide)).symm
  refine va_sld hx hb hX hbl hbA hS (vp_in_iff.mpr (by decide)) dL_law_317 ?_
  refine lv_topi (fun x2 ex2 => ?_)
  obtain rfl : xs 1 = x2 := (ex2.trans rfl).symm
  refine lv_aload_n hx hb dL_law_318 rfl (lv_at hl 3 rfl) ?_
  refine lv_iload_n hx hb dL_law_319 rfl (lv_at hl 0 rfl) ?_
  refine lv_iconst (v := 2) hx hb dL_law_320 (by decide) ?_
  refine lv_iadd hx hb dL_law_321 ?_
  refine lv_topi (fun x3 ex3 => ?_)
  obtain rfl : 2 = x3 := (ex3.trans (by decide)).symm
  refine va_sld hx hb hX hbl hbA hS (vp_in_iff.mpr (by decide)) dL_law_322 ?_
  refine lv_topi (fun x4 ex4 => ?_)
  obtain rfl : xs 2 = x4 := (ex4.trans rfl).symm
  refine goV (As := [.int (xs 1), .int (xs 2)]) (rest := []) (wr := [(k0, .inr (12, [.int 0, .int 0, .ref k0_2, .ref k0_3, .ref k0_4, .ref k0_5, .int 0, .int 0, .int 0, .ref k0_9, .ref k0_10, .ref k0_11, .int 0, .int 0, .int 0, .int 0, .long 0, .int (-1), .int 0, .int 0, .ref k0_20, .int 0, .ref k0_22, .ref k0_23, .int 0, .ref k0_25, .ref k0_26, .int 0, .int 0, .ref k0_29, .ref k0_30, .ref k0_31, .ref k0_32, .int 0, .long 0, .long 0, .long 0, .long 0, .int 0, .ref k0_39, .ref k0_40, .int 0, .ref k0_42, .int 0, .ref k0_44, .ref k0_45, .int 0, .int 0, .int 0, .int 0, .int 0, .int 0])), (k0_2, .inl (cI, 35942, .inl mrow))]) ⟨hx, hb, hml, hown, hts⟩ (c_X11_goes l G cI cJ cZ cD cR cT h0 (xs 1) (xs 2) h0_0 h0_1 h0_2 h0_3 h0_6 h0_7 h0_8 h0_10 h0_11 h0_13 h0_0_0 h0_0_1 h0_0_2 h0_0_3 h0_0_4 h0_0_5 h0_0_8 h0_0_15 h0_0_16 h0_0_0_1 h0_0_0_2 h0_0_0_3 h0_0_0_4 h0_0_0_5 h0_0_0_6 h0_0_0_7 h0_0_0_8 h0_0_0_9 _) (cwV 2 hts gv_law2_23_X11_goes rfl rfl rfl (by decide +kernel) ⟨Nat.le_of_ble_eq_true rfl, Nat.le_of_ble_eq_true rfl⟩) 0 rfl rfl rfl hKK hP hD hS hA [0, 1, 2] [3, 4] rfl rfl (by decide +kernel) (by decide +kernel) (by decide +kernel) rfl hl.1 rfl (lv_room (Nat.le_of_ble_eq_true rfl)) dL_law_323 ⟨Nat.le_of_ble_eq_true rfl, Nat.le_of_ble_eq_true rfl⟩ (fun v6 q5 gq5 H locs hv6 => appW (ws' := [(k0, .inr (12, [.int 0, .int 0, .ref k0_2, .ref k0_3, .ref k0_4, .ref k0_5, .int 0, .int 0, .int 0, .ref k0_9, .ref k0_10, .ref k0_11, .int 0, .int 0, .int 0, .int 0, .long 0, .int (-1), .int 0, .int 0, .ref k0_20, .int 0, .ref k0_22, .ref k0_23, .int 0, .ref k0_25, .ref k0_26, .int 0, .int 0, .ref k0_29, .ref k0_30, .ref k0_31, .ref k0_32, .int 0, .long 0, .long 0, .long 0, .long 0, .int 0, .ref k0_39, .ref k0_40, .int 0, .ref k0_42, .int 0, .ref k0_44, .ref k0_45, .int 0, .int 0, .int 0, .int 0, .int 0, .int 0])), (k0_2, .inl (cI, 35942, .inl mrow))]) rfl (fun hP hD hS => ?_))
  obtain ⟨r7, rfl, hr7⟩ := hv6
  refine lv_aload_n hx hb dL_law_326 rfl (lv_at hl 1 rfl) ?_
  refine lv_aload_n hx hb dL_law_327 rfl (lv_at hl 3 rfl) ?_
  refine lv_iload_n hx hb dL_law_328 rfl (lv_at hl 0 rfl) ?_
  refine lv_iconst (v := 1) hx hb dL_law_329 (by decide) ?_
  refine lv_iadd hx hb dL_law_330 ?_
  refine lv_topi (fun x8 ex8 => ?_)
  obtain rfl : 1 = x8 := (ex8.trans (by decide)).symm
  refine va_sld hx hb hX hbl hbA hS (vp_in_iff.mpr (by decide)) dL_law_331 ?_
  refine lv_topi (fun x9 ex9 => ?_)
  obtain rfl : xs 1 = x9 := (ex9.trans rfl).symm
  refine lv_aload_n hx hb dL_law_332 rfl (lv_at hl 3 rfl) ?_
  refine lv_iload_n hx hb dL_law_333 rfl (lv_at hl 0 rfl) ?_
  refine lv_iconst (v := 2) hx hb dL_law_334 (by decide) ?_
  refine lv_iadd hx hb dL_law_335 ?_
  refine lv_topi (fun x10 ex10 => ?_)
  obtain rfl : 2 = x10 := (ex10.trans (by decide)).symm
  refine va_sld hx hb hX hbl hbA hS (vp_in_iff.mpr (by decide)) dL_law_336 ?_
  refine lv_topi (fun x11 ex11 => ?_)
  obtain rfl : xs 2 = x11 := (ex11.trans rfl).symm
  refine goV (As := [.int (xs 1), .int (xs 2)]) (rest := [.int r7]) (wr := []) ⟨hx, hb, hml, hown, hts⟩ (c_X12_goes l G cI cJ cZ cD cR cT k0 (xs 1) (xs 2) k0_2 k0_3 k0_4 k0_5 k0_9 k0_10 k0_11 k0_20 k0_22 k0_23 k0_25 k0_26 k0_29 k0_30 k0_31 k0_32 k0_39 k0_40 k0_42 k0_44 k0_45 _) (cwV 2 hts gv_law2_26_X12_goes rfl rfl rfl (by decide +kernel) ⟨Nat.le_of_ble_eq_true rfl, Nat.le_of_ble_eq_true rfl⟩) 0 rfl rfl rfl hKK hP hD hS hA [0, 1] [] rfl rfl (by decide +kernel) (by decide +kernel) (by decide +kernel) rfl hl.1 rfl (lv_room (Nat.le_of_ble_eq_true rfl)) dL_law_337 ⟨Nat.le_of_ble_eq_true rfl, Nat.le_of_ble_eq_true rfl⟩ (fun v13 q12 gq12 H locs hv13 => appW (ws' := []) rfl (fun hP hD hS => ?_))
  obtain ⟨r14, rfl, hr14⟩ := hv13
  refine lv_icmp_eq (tgt := 1678) hx hb dL_law_340 (by decide) (fun _ => ?_) (fun c => absurd (hr7.trans hr14.symm) c)
  refine lv_iinc (v := 6) (lv' := [(3, .int 6), (2, .ref k0), (1, .ref h0), (0, .ref b)]) hx hb dL_law_1678 hl (k := 0) rfl (by decide) (by decide) rfl (fun ls hl => ?_)
  refine lv_goto (tgt := 18) hx hb dL_law_1681 (by decide) ?_
  refine lv_iload_n hx hb dL_law_18 rfl (lv_at hl 0 rfl) ?_
  refine lv_aload_n hx hb dL_law_19 rfl (lv_at hl 3 rfl) ?_
  refine va_slen hx hb hX hbl hbA hS dL_law_20 ?_
  refine lv_topi (fun x15 ex15 => ?_)
  obtain rfl : 6 = x15 := (ex15.trans rfl).symm
  refine lv_bipush (v := 6) hx hb dL_law_21 (by decide) ?_
  refine lv_isub hx hb dL_law_23 ?_
  refine lv_topi (fun x16 ex16 => ?_)
  obtain rfl : 0 = x16 := (ex16.trans (by decide)).symm
  refine lv_icmp_gt (tgt := 1684) hx hb dL_law_24 (by decide) (fun _ => ?_) (fun c => absurd c (by decide))
  refine lv_iconst (v := 1) hx hb dL_law_1684 (by decide) ?_
  refine va_forget (fun q h => hS.2.2 q h) ?_
  refine W.widen (k := 600000) (n := 7302250) (Nat.le_of_ble_eq_true rfl) (Nat.le_of_ble_eq_true rfl) ?_
  exact W.base (lw_ret (Drawn.sameBut.refl s.drawn lw_cs) hx hb hr hlocks dL_law_1685)
set_option maxRecDepth 20000 in
theorem gv_law3_27_X11_coin : GoodIn lw_tbl (wsV RL 27 RX11 yX11_coin v_X11_coin) := goodIn_app (goodIn_r _ [627, 628, 629, 103] (by decide +kernel) (by decide +kernel)) (gi tb_X11_coin gd_X11_coin)
set_option maxRecDepth 20000 in
theorem gv_law3_30_X12_coin : GoodIn lw_tbl (wsV RL 30 RX12 yX12_coin v_X12_coin) := goodIn_app (goodIn_r _ [1592, 1593, 1594, 114] (by decide +kernel) (by decide +kernel)) (gi tb_X12_coin gd_X12_coin)
set_option maxHeartbeats 4000000 in
set_option maxRecDepth 100000 in
theorem law_case_3 {p : Program} {e : Env} {s : State} {m : MethodId} {below : List Frame} {meth : Method} {c : Code} (l : Launch) (G : va_G) (cI cJ cZ cD cR cT : ClassId) {b : Nat} {xs : Nat → Int32} (h0 k0 h0_0 h0_1 h0_2 h0_3 h0_6 h0_7 h0_8 h0_10 h0_11 h0_13 h0_0_0 h0_0_1 h0_0_2 h0_0_3 h0_0_4 h0_0_5 h0_0_8 h0_0_15 h0_0_16 h0_0_0_1 h0_0_0_2 h0_0_0_3 h0_0_0_4 h0_0_0_5 h0_0_0_6 h0_0_0_7 h0_0_0_8 h0_0_0_9 k0_2 k0_3 k0_4 k0_5 k0_9 k0_10 k0_11 k0_20 k0_22 k0_23 k0_25 k0_26 k0_29 k0_30 k0_31 k0_32 k0_39 k0_40 k0_42 k0_44 k0_45 : Nat) {H : Heap} {locs : List Loc} {ls : Array Slot} (hx : p.tables.exec = Jvm.exec) (hb : c.code = code) (hr : meth.sig.returnType = ret) (hml : c.maxLocals = 4) (hown : s.vm.findClass RL = some m.cls) (hts : ∀ w ∈ lw_tbl, w.before #[Value.ref b] s = true) (hX : va_X b 6 xs s s.heap) (hbl : b < s.heap.size) (hlocks : meth.locks = false) (hKK : KK G (tys6 cI cJ cZ cD cR cT) s) (hP : va_P G vwCl [(h0, .inr (11, [.ref h0_0, .ref h0_1, .ref h0_2, .ref h0_3, .int 0, .int 0, .ref h0_6, .ref h0_7, .ref h0_8, .int 0, .ref h0_10, .ref h0_11, .int 0, .ref h0_13, .int 0, .int 0])), (h0_0, .inr (0, [.ref h0_0_0, .ref h0_0_1, .ref h0_0_2, .ref h0_0_3, .ref h0_0_4, .ref h0_0_5, .int 0, .int 0, .ref h0_0_8, .int 0, .int 0, .int 0, .int 0, .long 0, .int 0, .ref h0_0_15, .ref h0_0_16])), (h0_0_0, .inr (4, [.int 0, .ref h0_0_0_1, .ref h0_0_0_2, .ref h0_0_0_3, .ref h0_0_0_4, .ref h0_0_0_5, .ref h0_0_0_6, .ref h0_0_0_7, .ref h0_0_0_8, .ref h0_0_0_9])), (k0, .inr (12, [.int 0, .int 0, .ref k0_2, .ref k0_3, .ref k0_4, .ref k0_5, .int 0, .int 0, .int 0, .ref k0_9, .ref k0_10, .ref k0_11, .int 0, .int 0, .int 0, .int 0, .long 0, .int (-1), .int 0, .int 0, .ref k0_20, .int 0, .ref k0_22, .ref k0_23, .int 0, .ref k0_25, .ref k0_26, .int 0, .int 0, .ref k0_29, .ref k0_30, .ref k0_31, .ref k0_32, .int 0, .long 0, .long 0, .long 0, .long 0, .int 0, .ref k0_39, .ref k0_40, .int 0, .ref k0_42, .int 0, .ref k0_44, .ref k0_45, .int 0, .int 0, .int 0, .int 0, .int 0, .int 0])), (k0_2, .inl (cI, 35942, .inl mrow))] H) (hD : va_D (fun q : Nat => s.heap.size ≤ q) [(h0, .inr (11, [.ref h0_0, .ref h0_1, .ref h0_2, .ref h0_3, .int 0, .int 0, .ref h0_6, .ref h0_7, .ref h0_8, .int 0, .ref h0_10, .ref h0_11, .int 0, .ref h0_13, .int 0, .int 0])), (h0_0, .inr (0, [.ref h0_0_0, .ref h0_0_1, .ref h0_0_2, .ref h0_0_3, .ref h0_0_4, .ref h0_0_5, .int 0, .int 0, .ref h0_0_8, .int 0, .int 0, .int 0, .int 0, .long 0, .int 0, .ref h0_0_15, .ref h0_0_16])), (h0_0_0, .inr (4, [.int 0, .ref h0_0_0_1, .ref h0_0_0_2, .ref h0_0_0_3, .ref h0_0_0_4, .ref h0_0_0_5, .ref h0_0_0_6, .ref h0_0_0_7, .ref h0_0_0_8, .ref h0_0_0_9])), (k0, .inr (12, [.int 0, .int 0, .ref k0_2, .ref k0_3, .ref k0_4, .ref k0_5, .int 0, .int 0, .int 0, .ref k0_9, .ref k0_10, .ref k0_11, .int 0, .int 0, .int 0, .int 0, .long 0, .int (-1), .int 0, .int 0, .ref k0_20, .int 0, .ref k0_22, .ref k0_23, .int 0, .ref k0_25, .ref k0_26, .int 0, .int 0, .ref k0_29, .ref k0_30, .ref k0_31, .ref k0_32, .int 0, .long 0, .long 0, .long 0, .long 0, .int 0, .ref k0_39, .ref k0_40, .int 0, .ref k0_42, .int 0, .ref k0_44, .ref k0_45, .int 0, .int 0, .int 0, .int 0, .int 0, .int 0])), (k0_2, .inl (cI, 35942, .inl mrow))]) (hS : va_S (fun q : Nat => s.heap.size ≤ q) s.heap H locs) (hl : lv_has ls 4 [(3, .int 0), (2, .ref k0), (1, .ref h0), (0, .ref b)]) : W p l e room_1 s m #[Value.ref b] below meth c H locs 221 158368 (lw_Z below #[Value.ref b] s) (F0 m 345 ls []) := by
  have hK := hKK.1
  have hA : ∀ q : Nat, s.heap.size ≤ q → (fun q : Nat => s.heap.size ≤ q) q := fun _ h => h
  have hbA : ¬ (fun q : Nat => s.heap.size ≤ q) b := Nat.not_le.mpr hbl
  refine lv_aload_n hx hb dL_law_345 rfl (lv_at hl 2 rfl) ?_
  refine lv_aload_n hx hb dL_law_346 rfl (lv_at hl 3 rfl) ?_
  refine lv_iload_n hx hb dL_law_347 rfl (lv_at hl 0 rfl) ?_
  refine lv_iconst (v := 1) hx hb dL_law_348 (by decide) ?_
  refine lv_iadd hx hb dL_law_349 ?_
  refine lv_topi (fun x1 ex1 => ?_)
  obtain rfl : 1 = x1 := (ex1.trans (by decide)).symm
  refine va_sld hx hb hX hbl hbA hS (vp_in_iff.mpr (by decide)) dL_law_350 ?_
  refine lv_topi (fun x2 ex2 => ?_)
  obtain rfl : xs 1 = x2 := (ex2.trans rfl).symm
  refine lv_aload_n hx hb dL_law_351 rfl (lv_at hl 3 rfl) ?_
  refine lv_iload_n hx hb dL_law_352 rfl (lv_at hl 0 rfl) ?_
  refine lv_iconst (v := 2) hx hb dL_law_353 (by decide) ?_
  refine lv_iadd hx hb dL_law_354 ?_
  refine lv_topi (fun x3 ex3 => ?_)
  obtain rfl : 2 = x3 := (ex3.trans (by decide)).symm
  refine va_sld hx hb hX hbl hbA hS (vp_in_iff.mpr (by decide)) dL_law_355 ?_
  refine lv_topi (fun x4 ex4 => ?_)
  obtain rfl : xs 2 = x4 := (ex4.trans rfl).symm
  refine goV (As := [.int (xs 1), .int (xs 2)]) (rest := []) (wr := [(k0, .inr (12, [.int 0, .int 0, .ref k0_2, .ref k0_3, .ref k0_4, .ref k0_5, .int 0, .int 0, .int 0, .ref k0_9, .ref k0_10, .ref k0_11, .int 0, .int 0, .int 0, .int 0, .long 0, .int (-1), .int 0, .int 0, .ref k0_20, .int 0, .ref k0_22, .ref k0_23, .int 0, .ref k0_25, .ref k0_26, .int 0, .int 0, .ref k0_29, .ref k0_30, .ref k0_31, .ref k0_32, .int 0, .long 0, .long 0, .long 0, .long 0, .int 0, .ref k0_39, .ref k0_40, .int 0, .ref k0_42, .int 0, .ref k0_44, .ref k0_45, .int 0, .int 0, .int 0, .int 0, .int 0, .int 0])), (k0_2, .inl (cI, 35942, .inl mrow))]) ⟨hx, hb, hml, hown, hts⟩ (c_X11_coin l G cI cJ cZ cD cR cT h0 (xs 1) (xs 2) h0_0 h0_1 h0_2 h0_3 h0_6 h0_7 h0_8 h0_10 h0_11 h0_13 h0_0_0 h0_0_1 h0_0_2 h0_0_3 h0_0_4 h0_0_5 h0_0_8 h0_0_15 h0_0_16 h0_0_0_1 h0_0_0_2 h0_0_0_3 h0_0_0_4 h0_0_0_5 h0_0_0_6 h0_0_0_7 h0_0_0_8 h0_0_0_9 _) (cwV 2 hts gv_law3_27_X11_coin rfl rfl rfl (by decide +kernel) ⟨Nat.le_of_ble_eq_true rfl, Nat.le_of_ble_eq_true rfl⟩) 0 rfl rfl rfl hKK hP hD hS hA [0, 1, 2] [3, 4] rfl rfl (by decide +kernel) (by decide +kernel) (by decide +kernel) rfl hl.1 rfl (lv_room (Nat.le_of_ble_eq_true rfl)) dL_law_356 ⟨Nat.le_of_ble_eq_true rfl, Nat.le_of_ble_eq_true rfl⟩ (fun v6 q5 gq5 H locs hv6 => appW (ws' := [(k0, .inr (12, [.int 0, .int 0, .ref k0_2, .ref k0_3, .ref k0_4, .ref k0_5, .int 0, .int 0, .int 0, .ref k0_9, .ref k0_10, .ref k0_11, .int 0, .int 0, .int 0, .int 0, .long 0, .int (-1), .int 0, .int 0, .ref k0_20, .int 0, .ref k0_22, .ref k0_23, .int 0, .ref k0_25, .ref k0_26, .int 0, .int 0, .ref k0_29, .ref k0_30, .ref k0_31, .ref k0_32, .int 0, .long 0, .long 0, .long 0, .long 0, .int 0, .ref k0_39, .ref k0_40, .int 0, .ref k0_42, .int 0, .ref k0_44, .ref k0_45, .int 0, .int 0, .int 0, .int 0, .int 0, .int 0])), (k0_2, .inl (cI, 35942, .inl mrow))]) rfl (fun hP hD hS => ?_))
  obtain ⟨r7, rfl, hr7⟩ := hv6
  refine lv_aload_n hx hb dL_law_359 rfl (lv_at hl 1 rfl) ?_
  refine lv_aload_n hx hb dL_law_360 rfl (lv_at hl 3 rfl) ?_
  refine lv_iload_n hx hb dL_law_361 rfl (lv_at hl 0 rfl) ?_
  refine lv_iconst (v := 1) hx hb dL_law_362 (by decide) ?_
  refine lv_iadd hx hb dL_law_363 ?_
  refine lv_topi (fun x8 ex8 => ?_)
  obtain rfl : 1 = x8 := (ex8.trans (by decide)).symm
  refine va_sld hx hb hX hbl hbA hS (vp_in_iff.mpr (by decide)) dL_law_364 ?_
  refine lv_topi (fun x9 ex9 => ?_)
  obtain rfl : xs 1 = x9 := (ex9.trans rfl).symm
  refine lv_aload_n hx hb dL_law_365 rfl (lv_at hl 3 rfl) ?_
  refine lv_iload_n hx hb dL_law_366 rfl (lv_at hl 0 rfl) ?_
  refine lv_iconst (v := 2) hx hb dL_law_367 (by decide) ?_
  refine lv_iadd hx hb dL_law_368 ?_
  refine lv_topi (fun x10 ex10 => ?_)
  obtain rfl : 2 = x10 := (ex10.trans (by decide)).symm
  refine va_sld hx hb hX hbl hbA hS (vp_in_iff.mpr (by decide)) dL_law_369 ?_
  refine lv_topi (fun x11 ex11 => ?_)
  obtain rfl : xs 2 = x11 := (ex11.trans rfl).symm
  refine goV (As := [.int (xs 1), .int (xs 2)]) (rest := [.int r7]) (wr := []) ⟨hx, hb, hml, hown, hts⟩ (c_X12_coin l G cI cJ cZ cD cR cT k0 (xs 1) (xs 2) k0_2 k0_3 k0_4 k0_5 k0_9 k0_10 k0_11 k0_20 k0_22 k0_23 k0_25 k0_26 k0_29 k0_30 k0_31 k0_32 k0_39 k0_40 k0_42 k0_44 k0_45 _) (cwV 2 hts gv_law3_30_X12_coin rfl rfl rfl (by decide +kernel) ⟨Nat.le_of_ble_eq_true rfl, Nat.le_of_ble_eq_true rfl⟩) 0 rfl rfl rfl hKK hP hD hS hA [0, 1] [] rfl rfl (by decide +kernel) (by decide +kernel) (by decide +kernel) rfl hl.1 rfl (lv_room (Nat.le_of_ble_eq_true rfl)) dL_law_370 ⟨Nat.le_of_ble_eq_true rfl, Nat.le_of_ble_eq_true rfl⟩ (fun v13 q12 gq12 H locs hv13 => appW (ws' := []) rfl (fun hP hD hS => ?_))
  obtain ⟨r14, rfl, hr14⟩ := hv13
  refine lv_icmp_eq (tgt := 1678) hx hb dL_law_373 (by decide) (fun _ => ?_) (fun c => absurd (hr7.trans hr14.symm) c)
  refine lv_iinc (v := 6) (lv' := [(3, .int 6), (2, .ref k0), (1, .ref h0), (0, .ref b)]) hx hb dL_law_1678 hl (k := 0) rfl (by decide) (by decide) rfl (fun ls hl => ?_)
  refine lv_goto (tgt := 18) hx hb dL_law_1681 (by decide) ?_
  refine lv_iload_n hx hb dL_law_18 rfl (lv_at hl 0 rfl) ?_
  refine lv_aload_n hx hb dL_law_19 rfl (lv_at hl 3 rfl) ?_
  refine va_slen hx hb hX hbl hbA hS dL_law_20 ?_
  refine lv_topi (fun x15 ex15 => ?_)
  obtain rfl : 6 = x15 := (ex15.trans rfl).symm
  refine lv_bipush (v := 6) hx hb dL_law_21 (by decide) ?_
  refine lv_isub hx hb dL_law_23 ?_
  refine lv_topi (fun x16 ex16 => ?_)
  obtain rfl : 0 = x16 := (ex16.trans (by decide)).symm
  refine lv_icmp_gt (tgt := 1684) hx hb dL_law_24 (by decide) (fun _ => ?_) (fun c => absurd c (by decide))
  refine lv_iconst (v := 1) hx hb dL_law_1684 (by decide) ?_
  refine va_forget (fun q h => hS.2.2 q h) ?_
  refine W.widen (k := 600000) (n := 7302250) (Nat.le_of_ble_eq_true rfl) (Nat.le_of_ble_eq_true rfl) ?_
  exact W.base (lw_ret (Drawn.sameBut.refl s.drawn lw_cs) hx hb hr hlocks dL_law_1685)
set_option maxRecDepth 20000 in
theorem gv_law4_31_X11_give : GoodIn lw_tbl (wsV RL 31 RX11 yX11_give v_X11_give) := goodIn_app (goodIn_r _ [639, 640, 641, 103] (by decide +kernel) (by decide +kernel)) (gi tb_X11_give gd_X11_give)
set_option maxRecDepth 20000 in
theorem gv_law4_35_X12_give : GoodIn lw_tbl (wsV RL 35 RX12 yX12_give v_X12_give) := goodIn_app (goodIn_r _ [1602, 1603, 1604, 114] (by decide +kernel) (by decide +kernel)) (gi tb_X12_give gd_X12_give)
set_option maxHeartbeats 4000000 in
set_option maxRecDepth 100000 in
theorem law_case_4 {p : Program} {e : Env} {s : State} {m : MethodId} {below : List Frame} {meth : Method} {c : Code} (l : Launch) (G : va_G) (cI cJ cZ cD cR cT : ClassId) {b : Nat} {xs : Nat → Int32} (h0 k0 h0_0 h0_1 h0_2 h0_3 h0_6 h0_7 h0_8 h0_10 h0_11 h0_13 h0_0_0 h0_0_1 h0_0_2 h0_0_3 h0_0_4 h0_0_5 h0_0_8 h0_0_15 h0_0_16 h0_0_5_4 h0_0_5_5 k0_2 k0_3 k0_4 k0_5 k0_9 k0_10 k0_11 k0_20 k0_22 k0_23 k0_25 k0_26 k0_29 k0_30 k0_31 k0_32 k0_39 k0_40 k0_42 k0_44 k0_45 : Nat) {H : Heap} {locs : List Loc} {ls : Array Slot} (hx : p.tables.exec = Jvm.exec) (hb : c.code = code) (hr : meth.sig.returnType = ret) (hml : c.maxLocals = 4) (hown : s.vm.findClass RL = some m.cls) (hts : ∀ w ∈ lw_tbl, w.before #[Value.ref b] s = true) (hX : va_X b 6 xs s s.heap) (hbl : b < s.heap.size) (hlocks : meth.locks = false) (hKK : KK G (tys6 cI cJ cZ cD cR cT) s) (hP : va_P G vwCl [(h0, .inr (11, [.ref h0_0, .ref h0_1, .ref h0_2, .ref h0_3, .int 0, .int 0, .ref h0_6, .ref h0_7, .ref h0_8, .int 0, .ref h0_10, .ref h0_11, .int 0, .ref h0_13, .int 0, .int 0])), (h0_0, .inr (0, [.ref h0_0_0, .ref h0_0_1, .ref h0_0_2, .ref h0_0_3, .ref h0_0_4, .ref h0_0_5, .int 0, .int 0, .ref h0_0_8, .int 0, .int 0, .int 0, .int 0, .long 0, .int 0, .ref h0_0_15, .ref h0_0_16])), (h0_0_5, .inr (3, [.int 0, .int 50, .int 0, .int 0, .ref h0_0_5_4, .ref h0_0_5_5])), (k0, .inr (12, [.int 0, .int 0, .ref k0_2, .ref k0_3, .ref k0_4, .ref k0_5, .int 0, .int 0, .int 0, .ref k0_9, .ref k0_10, .ref k0_11, .int 0, .int 0, .int 0, .int 0, .long 0, .int (-1), .int 0, .int 0, .ref k0_20, .int 0, .ref k0_22, .ref k0_23, .int 0, .ref k0_25, .ref k0_26, .int 0, .int 0, .ref k0_29, .ref k0_30, .ref k0_31, .ref k0_32, .int 0, .long 0, .long 0, .long 0, .long 0, .int 0, .ref k0_39, .ref k0_40, .int 0, .ref k0_42, .int 0, .ref k0_44, .ref k0_45, .int 0, .int 0, .int 0, .int 0, .int 0, .int 0])), (k0_2, .inl (cI, 35942, .inl mrow))] H) (hD : va_D (fun q : Nat => s.heap.size ≤ q) [(h0, .inr (11, [.ref h0_0, .ref h0_1, .ref h0_2, .ref h0_3, .int 0, .int 0, .ref h0_6, .ref h0_7, .ref h0_8, .int 0, .ref h0_10, .ref h0_11, .int 0, .ref h0_13, .int 0, .int 0])), (h0_0, .inr (0, [.ref h0_0_0, .ref h0_0_1, .ref h0_0_2, .ref h0_0_3, .ref h0_0_4, .ref h0_0_5, .int 0, .int 0, .ref h0_0_8, .int 0, .int 0, .int 0, .int 0, .long 0, .int 0, .ref h0_0_15, .ref h0_0_16])), (h0_0_5, .inr (3, [.int 0, .int 50, .int 0, .int 0, .ref h0_0_5_4, .ref h0_0_5_5])), (k0, .inr (12, [.int 0, .int 0, .ref k0_2, .ref k0_3, .ref k0_4, .ref k0_5, .int 0, .int 0, .int 0, .ref k0_9, .ref k0_10, .ref k0_11, .int 0, .int 0, .int 0, .int 0, .long 0, .int (-1), .int 0, .int 0, .ref k0_20, .int 0, .ref k0_22, .ref k0_23, .int 0, .ref k0_25, .ref k0_26, .int 0, .int 0, .ref k0_29, .ref k0_30, .ref k0_31, .ref k0_32, .int 0, .long 0, .long 0, .long 0, .long 0, .int 0, .ref k0_39, .ref k0_40, .int 0, .ref k0_42, .int 0, .ref k0_44, .ref k0_45, .int 0, .int 0, .int 0, .int 0, .int 0, .int 0])), (k0_2, .inl (cI, 35942, .inl mrow))]) (hS : va_S (fun q : Nat => s.heap.size ≤ q) s.heap H locs) (hl : lv_has ls 4 [(3, .int 0), (2, .ref k0), (1, .ref h0), (0, .ref b)]) : W p l e room_1 s m #[Value.ref b] below meth c H locs 221 158368 (lw_Z below #[Value.ref b] s) (F0 m 378 ls []) := by
  have hK := hKK.1
  have hA : ∀ q : Nat, s.heap.size ≤ q → (fun q : Nat => s.heap.size ≤ q) q := fun _ h => h
  have hbA : ¬ (fun q : Nat => s.heap.size ≤ q) b := Nat.not_le.mpr hbl
  refine lv_aload_n hx hb dL_law_378 rfl (lv_at hl 2 rfl) ?_
  refine lv_aload_n hx hb dL_law_379 rfl (lv_at hl 3 rfl) ?_
  refine lv_iload_n hx hb dL_law_380 rfl (lv_at hl 0 rfl) ?_
  refine lv_iconst (v := 1) hx hb dL_law_381 (by decide) ?_
  refine lv_iadd hx hb dL_law_382 ?_
  refine lv_topi (fun x1 ex1 => ?_)
  obtain rfl : 1 = x1 := (ex1.trans (by decide)).symm
  refine va_sld hx hb hX hbl hbA hS (vp_in_iff.mpr (by decide)) dL_law_383 ?_
  refine lv_topi (fun x2 ex2 => ?_)
  obtain rfl : xs 1 = x2 := (ex2.trans rfl).symm
  refine goV (As := [.int (xs 1)]) (rest := []) (wr := [(k0, .inr (12, [.int 0, .int 0, .ref k0_2, .ref k0_3, .ref k0_4, .ref k0_5, .int 0, .int 0, .int 0, .ref k0_9, .ref k0_10, .ref k0_11, .int 0, .int 0, .int 0, .int 0, .long 0, .int (-1), .int 0, .int 0, .ref k0_20, .int 0, .ref k0_22, .ref k0_23, .int 0, .ref k0_25, .ref k0_26, .int 0, .int 0, .ref k0_29, .ref k0_30, .ref k0_31, .ref k0_32, .int 0, .long 0, .long 0, .long 0, .long 0, .int 0, .ref k0_39, .ref k0_40, .int 0, .ref k0_42, .int 0, .ref k0_44, .ref k0_45, .int 0, .int 0, .int 0, .int 0, .int 0, .int 0])), (k0_2, .inl (cI, 35942, .inl mrow))]) ⟨hx, hb, hml, hown, hts⟩ (c_X11_give l G cI cJ cZ cD cR cT h0 (xs 1) h0_0 h0_1 h0_2 h0_3 h0_6 h0_7 h0_8 h0_10 h0_11 h0_13 h0_0_0 h0_0_1 h0_0_2 h0_0_3 h0_0_4 h0_0_5 h0_0_8 h0_0_15 h0_0_16 h0_0_5_4 h0_0_5_5 _) (cwV 1 hts gv_law4_31_X11_give rfl rfl rfl (by decide +kernel) ⟨Nat.le_of_ble_eq_true rfl, Nat.le_of_ble_eq_true rfl⟩) 0 rfl rfl rfl hKK hP hD hS hA [0, 1, 2] [3, 4] rfl rfl (by decide +kernel) (by decide +kernel) (by decide +kernel) rfl hl.1 rfl (lv_room (Nat.le_of_ble_eq_true rfl)) dL_law_384 ⟨Nat.le_of_ble_eq_true rfl, Nat.le_of_ble_eq_true rfl⟩ (fun v4 q3 gq3 H locs hv4 => appW (ws' := [(k0, .inr (12, [.int 0, .int 0, .ref k0_2, .ref k0_3, .ref k0_4, .ref k0_5, .int 0, .int 0, .int 0, .ref k0_9, .ref k0_10, .ref k0_11, .int 0, .int 0, .int 0, .int 0, .long 0, .int (-1), .int 0, .int 0, .ref k0_20, .int 0, .ref k0_22, .ref k0_23, .int 0, .ref k0_25, .ref k0_26, .int 0, .int 0, .ref k0_29, .ref k0_30, .ref k0_31, .ref k0_32, .int 0, .long 0, .long 0, .long 0, .long 0, .int 0, .ref k0_39, .ref k0_40, .int 0, .ref k0_42, .int 0, .ref k0_44, .ref k0_45, .int 0, .int 0, .int 0, .int 0, .int 0, .int 0])), (k0_2, .inl (cI, 35942, .inl mrow))]) rfl (fun hP hD hS => ?_))
  obtain ⟨r5, rfl, hr5⟩ := hv4
  refine lv_aload_n hx hb dL_law_387 rfl (lv_at hl 1 rfl) ?_
  refine lv_aload_n hx hb dL_law_388 rfl (lv_at hl 3 rfl) ?_
  refine lv_iload_n hx hb dL_law_389 rfl (lv_at hl 0 rfl) ?_
  refine lv_iconst (v := 1) hx hb dL_law_390 (by decide) ?_
  refine lv_iadd hx hb dL_law_391 ?_
  refine lv_topi (fun x6 ex6 => ?_)
  obtain rfl : 1 = x6 := (ex6.trans (by decide)).symm
  refine va_sld hx hb hX hbl hbA hS (vp_in_iff.mpr (by decide)) dL_law_392 ?_
  refine lv_topi (fun x7 ex7 => ?_)
  obtain rfl : xs 1 = x7 := (ex7.trans rfl).symm
  refine goV (As := [.int (xs 1)]) (rest := [.int r5]) (wr := []) ⟨hx, hb, hml, hown, hts⟩ (c_X12_give l G cI cJ cZ cD cR cT k0 (xs 1) k0_2 k0_3 k0_4 k0_5 k0_9 k0_10 k0_11 k0_20 k0_22 k0_23 k0_25 k0_26 k0_29 k0_30 k0_31 k0_32 k0_39 k0_40 k0_42 k0_44 k0_45 _) (cwV 1 hts gv_law4_35_X12_give rfl rfl rfl (by decide +kernel) ⟨Nat.le_of_ble_eq_true rfl, Nat.le_of_ble_eq_true rfl⟩) 0 rfl rfl rfl hKK hP hD hS hA [0, 1] [] rfl rfl (by decide +kernel) (by decide +kernel) (by decide +kernel) rfl hl.1 rfl (lv_room (Nat.le_of_ble_eq_true rfl)) dL_law_393 ⟨Nat.le_of_ble_eq_true rfl, Nat.le_of_ble_eq_true rfl⟩ (fun v9 q8 gq8 H locs hv9 => appW (ws' := []) rfl (fun hP hD hS => ?_))
  obtain ⟨r10, rfl, hr10⟩ := hv9
  refine lv_icmp_eq (tgt := 1678) hx hb dL_law_396 (by decide) (fun _ => ?_) (fun c => absurd (hr5.trans hr10.symm) c)
  refine lv_iinc (v := 6) (lv' := [(3, .int 6), (2, .ref k0), (1, .ref h0), (0, .ref b)]) hx hb dL_law_1678 hl (k := 0) rfl (by decide) (by decide) rfl (fun ls hl => ?_)
  refine lv_goto (tgt := 18) hx hb dL_law_1681 (by decide) ?_
  refine lv_iload_n hx hb dL_law_18 rfl (lv_at hl 0 rfl) ?_
  refine lv_aload_n hx hb dL_law_19 rfl (lv_at hl 3 rfl) ?_
  refine va_slen hx hb hX hbl hbA hS dL_law_20 ?_
  refine lv_topi (fun x11 ex11 => ?_)
  obtain rfl : 6 = x11 := (ex11.trans rfl).symm
  refine lv_bipush (v := 6) hx hb dL_law_21 (by decide) ?_
  refine lv_isub hx hb dL_law_23 ?_
  refine lv_topi (fun x12 ex12 => ?_)
  obtain rfl : 0 = x12 := (ex12.trans (by decide)).symm
  refine lv_icmp_gt (tgt := 1684) hx hb dL_law_24 (by decide) (fun _ => ?_) (fun c => absurd c (by decide))
  refine lv_iconst (v := 1) hx hb dL_law_1684 (by decide) ?_
  refine va_forget (fun q h => hS.2.2 q h) ?_
  refine W.widen (k := 600000) (n := 7302250) (Nat.le_of_ble_eq_true rfl) (Nat.le_of_ble_eq_true rfl) ?_
  exact W.base (lw_ret (Drawn.sameBut.refl s.drawn lw_cs) hx hb hr hlocks dL_law_1685)
set_option maxRecDepth 20000 in
theorem gv_law5_36_X11_estate : GoodIn lw_tbl (wsV RL 36 RX11 yX11_estate v_X11_estate) := goodIn_app (goodIn_r _ [646, 647, 648, 103] (by decide +kernel) (by decide +kernel)) (gi tb_X11_estate gd_X11_estate)
set_option maxRecDepth 20000 in
theorem gv_law5_39_X12_estate : GoodIn lw_tbl (wsV RL 39 RX12 yX12_estate v_X12_estate) := goodIn_app (goodIn_r _ [1607, 1608, 1609, 114] (by decide +kernel) (by decide +kernel)) (gi tb_X12_estate gd_X12_estate)
set_option maxHeartbeats 4000000 in
set_option maxRecDepth 100000 in
theorem law_case_5 {p : Program} {e : Env} {s : State} {m : MethodId} {below : List Frame} {meth : Method} {c : Code} (l : Launch) (G : va_G) (cI cJ cZ cD cR cT : ClassId) {b : Nat} {xs : Nat → Int32} (h0 k0 h0_0 h0_1 h0_2 h0_3 h0_6 h0_7 h0_8 h0_10 h0_11 h0_13 h0_0_0 h0_0_1 h0_0_2 h0_0_3 h0_0_4 h0_0_5 h0_0_8 h0_0_15 h0_0_16 h0_0_1_1 h0_0_1_2 h0_0_1_3 h0_0_1_4 h0_0_1_5 h0_0_1_6 h0_0_1_7 h0_0_1_9 h0_0_1_10 h0_0_1_11 k0_2 k0_3 k0_4 k0_5 k0_9 k0_10 k0_11 k0_20 k0_22 k0_23 k0_25 k0_26 k0_29 k0_30 k0_31 k0_32 k0_39 k0_40 k0_42 k0_44 k0_45 : Nat) {H : Heap} {locs : List Loc} {ls : Array Slot} (hx : p.tables.exec = Jvm.exec) (hb : c.code = code) (hr : meth.sig.returnType = ret) (hml : c.maxLocals = 4) (hown : s.vm.findClass RL = some m.cls) (hts : ∀ w ∈ lw_tbl, w.before #[Value.ref b] s = true) (hX : va_X b 6 xs s s.heap) (hbl : b < s.heap.size) (hlocks : meth.locks = false) (hKK : KK G (tys6 cI cJ cZ cD cR cT) s) (hP : va_P G vwCl [(h0, .inr (11, [.ref h0_0, .ref h0_1, .ref h0_2, .ref h0_3, .int 0, .int 0, .ref h0_6, .ref h0_7, .ref h0_8, .int 0, .ref h0_10, .ref h0_11, .int 0, .ref h0_13, .int 0, .int 0])), (h0_0, .inr (0, [.ref h0_0_0, .ref h0_0_1, .ref h0_0_2, .ref h0_0_3, .ref h0_0_4, .ref h0_0_5, .int 0, .int 0, .ref h0_0_8, .int 0, .int 0, .int 0, .int 0, .long 0, .int 0, .ref h0_0_15, .ref h0_0_16])), (h0_0_1, .inr (1, [.int 0, .ref h0_0_1_1, .ref h0_0_1_2, .ref h0_0_1_3, .ref h0_0_1_4, .ref h0_0_1_5, .ref h0_0_1_6, .ref h0_0_1_7, .int 0, .ref h0_0_1_9, .ref h0_0_1_10, .ref h0_0_1_11, .int (-1), .long 0, .long 0])), (h0_0_1_9, .inl (cI, 8, .inl (fun _ => 0))), (h0_0_1_10, .inl (cI, 8, .inl (fun _ => 0))), (h0_0_1_11, .inl (cI, 8, .inl (fun _ => 0))), (k0, .inr (12, [.int 0, .int 0, .ref k0_2, .ref k0_3, .ref k0_4, .ref k0_5, .int 0, .int 0, .int 0, .ref k0_9, .ref k0_10, .ref k0_11, .int 0, .int 0, .int 0, .int 0, .long 0, .int (-1), .int 0, .int 0, .ref k0_20, .int 0, .ref k0_22, .ref k0_23, .int 0, .ref k0_25, .ref k0_26, .int 0, .int 0, .ref k0_29, .ref k0_30, .ref k0_31, .ref k0_32, .int 0, .long 0, .long 0, .long 0, .long 0, .int 0, .ref k0_39, .ref k0_40, .int 0, .ref k0_42, .int 0, .ref k0_44, .ref k0_45, .int 0, .int 0, .int 0, .int 0, .int 0, .int 0])), (k0_2, .inl (cI, 35942, .inl mrow))] H) (hD : va_D (fun q : Nat => s.heap.size ≤ q) [(h0, .inr (11, [.ref h0_0, .ref h0_1, .ref h0_2, .ref h0_3, .int 0, .int 0, .ref h0_6, .ref h0_7, .ref h0_8, .int 0, .ref h0_10, .ref h0_11, .int 0, .ref h0_13, .int 0, .int 0])), (h0_0, .inr (0, [.ref h0_0_0, .ref h0_0_1, .ref h0_0_2, .ref h0_0_3, .ref h0_0_4, .ref h0_0_5, .int 0, .int 0, .ref h0_0_8, .int 0, .int 0, .int 0, .int 0, .long 0, .int 0, .ref h0_0_15, .ref h0_0_16])), (h0_0_1, .inr (1, [.int 0, .ref h0_0_1_1, .ref h0_0_1_2, .ref h0_0_1_3, .ref h0_0_1_4, .ref h0_0_1_5, .ref h0_0_1_6, .ref h0_0_1_7, .int 0, .ref h0_0_1_9, .ref h0_0_1_10, .ref h0_0_1_11, .int (-1), .long 0, .long 0])), (h0_0_1_9, .inl (cI, 8, .inl (fun _ => 0))), (h0_0_1_10, .inl (cI, 8, .inl (fun _ => 0))), (h0_0_1_11, .inl (cI, 8, .inl (fun _ => 0))), (k0, .inr (12, [.int 0, .int 0, .ref k0_2, .ref k0_3, .ref k0_4, .ref k0_5, .int 0, .int 0, .int 0, .ref k0_9, .ref k0_10, .ref k0_11, .int 0, .int 0, .int 0, .int 0, .long 0, .int (-1), .int 0, .int 0, .ref k0_20, .int 0, .ref k0_22, .ref k0_23, .int 0, .ref k0_25, .ref k0_26, .int 0, .int 0, .ref k0_29, .ref k0_30, .ref k0_31, .ref k0_32, .int 0, .long 0, .long 0, .long 0, .long 0, .int 0, .ref k0_39, .ref k0_40, .int 0, .ref k0_42, .int 0, .ref k0_44, .ref k0_45, .int 0, .int 0, .int 0, .int 0, .int 0, .int 0])), (k0_2, .inl (cI, 35942, .inl mrow))]) (hS : va_S (fun q : Nat => s.heap.size ≤ q) s.heap H locs) (hl : lv_has ls 4 [(3, .int 0), (2, .ref k0), (1, .ref h0), (0, .ref b)]) : W p l e room_1 s m #[Value.ref b] below meth c H locs 221 158368 (lw_Z below #[Value.ref b] s) (F0 m 401 ls []) := by
  have hK := hKK.1
  have hA : ∀ q : Nat, s.heap.size ≤ q → (fun q : Nat => s.heap.size ≤ q) q := fun _ h => h
  have hbA : ¬ (fun q : Nat => s.heap.size ≤ q) b := Nat.not_le.mpr hbl
  refine lv_aload_n hx hb dL_law_401 rfl (lv_at hl 2 rfl) ?_
  refine lv_aload_n hx hb dL_law_402 rfl (lv_at hl 3 rfl) ?_
  refine lv_iload_n hx hb dL_law_403 rfl (lv_at hl 0 rfl) ?_
  refine lv_iconst (v := 1) hx hb dL_law_404 (by decide) ?_
  refine lv_iadd hx hb dL_law_405 ?_
  refine lv_topi (fun x1 ex1 => ?_)
  obtain rfl : 1 = x1 := (ex1.trans (by decide)).symm
  refine va_sld hx hb hX hbl hbA hS (vp_in_iff.mpr (by decide)) dL_law_406 ?_
  refine lv_topi (fun x2 ex2 => ?_)
  obtain rfl : xs 1 = x2 := (ex2.trans rfl).symm
  refine lv_aload_n hx hb dL_law_407 rfl (lv_at hl 3 rfl) ?_
  refine lv_iload_n hx hb dL_law_408 rfl (lv_at hl 0 rfl) ?_
  refine lv_iconst (v := 2) hx hb dL_law_409 (by decide) ?_
  refine lv_iadd hx hb dL_law_410 ?_
  refine lv_topi (fun x3 ex3 => ?_)
  obtain rfl : 2 = x3 := (ex3.trans (by decide)).symm
  refine va_sld hx hb hX hbl hbA hS (vp_in_iff.mpr (by decide)) dL_law_411 ?_
  refine lv_topi (fun x4 ex4 => ?_)
  obtain rfl : xs 2 = x4 := (ex4.trans rfl).symm
  refine goV (As := [.int (xs 1), .int (xs 2)]) (rest := []) (wr := [(k0, .inr (12, [.int 0, .int 0, .ref k0_2, .ref k0_3, .ref k0_4, .ref k0_5, .int 0, .int 0, .int 0, .ref k0_9, .ref k0_10, .ref k0_11, .int 0, .int 0, .int 0, .int 0, .long 0, .int (-1), .int 0, .int 0, .ref k0_20, .int 0, .ref k0_22, .ref k0_23, .int 0, .ref k0_25, .ref k0_26, .int 0, .int 0, .ref k0_29, .ref k0_30, .ref k0_31, .ref k0_32, .int 0, .long 0, .long 0, .long 0, .long 0, .int 0, .ref k0_39, .ref k0_40, .int 0, .ref k0_42, .int 0, .ref k0_44, .ref k0_45, .int 0, .int 0, .int 0, .int 0, .int 0, .int 0])), (k0_2, .inl (cI, 35942, .inl mrow))]) ⟨hx, hb, hml, hown, hts⟩ (c_X11_estate l G cI cJ cZ cD cR cT h0 (xs 1) (xs 2) h0_0 h0_1 h0_2 h0_3 h0_6 h0_7 h0_8 h0_10 h0_11 h0_13 h0_0_0 h0_0_1 h0_0_2 h0_0_3 h0_0_4 h0_0_5 h0_0_8 h0_0_15 h0_0_16 h0_0_1_1 h0_0_1_2 h0_0_1_3 h0_0_1_4 h0_0_1_5 h0_0_1_6 h0_0_1_7 h0_0_1_9 h0_0_1_10 h0_0_1_11 _) (cwV 2 hts gv_law5_36_X11_estate rfl rfl rfl (by decide +kernel) ⟨Nat.le_of_ble_eq_true rfl, Nat.le_of_ble_eq_true rfl⟩) 0 rfl rfl rfl hKK hP hD hS hA [0, 1, 2, 3, 4, 5] [6, 7] rfl rfl (by decide +kernel) (by decide +kernel) (by decide +kernel) rfl hl.1 rfl (lv_room (Nat.le_of_ble_eq_true rfl)) dL_law_412 ⟨Nat.le_of_ble_eq_true rfl, Nat.le_of_ble_eq_true rfl⟩ (fun v6 q5 gq5 H locs hv6 => appW (ws' := [(k0, .inr (12, [.int 0, .int 0, .ref k0_2, .ref k0_3, .ref k0_4, .ref k0_5, .int 0, .int 0, .int 0, .ref k0_9, .ref k0_10, .ref k0_11, .int 0, .int 0, .int 0, .int 0, .long 0, .int (-1), .int 0, .int 0, .ref k0_20, .int 0, .ref k0_22, .ref k0_23, .int 0, .ref k0_25, .ref k0_26, .int 0, .int 0, .ref k0_29, .ref k0_30, .ref k0_31, .ref k0_32, .int 0, .long 0, .long 0, .long 0, .long 0, .int 0, .ref k0_39, .ref k0_40, .int 0, .ref k0_42, .int 0, .ref k0_44, .ref k0_45, .int 0, .int 0, .int 0, .int 0, .int 0, .int 0])), (k0_2, .inl (cI, 35942, .inl mrow))]) rfl (fun hP hD hS => ?_))
  obtain ⟨r7, rfl, hr7⟩ := hv6
  refine lv_aload_n hx hb dL_law_415 rfl (lv_at hl 1 rfl) ?_
  refine lv_aload_n hx hb dL_law_416 rfl (lv_at hl 3 rfl) ?_
  refine lv_iload_n hx hb dL_law_417 rfl (lv_at hl 0 rfl) ?_
  refine lv_iconst (v := 1) hx hb dL_law_418 (by decide) ?_
  refine lv_iadd hx hb dL_law_419 ?_
  refine lv_topi (fun x8 ex8 => ?_)
  obtain rfl : 1 = x8 := (ex8.trans (by decide)).symm
  refine va_sld hx hb hX hbl hbA hS (vp_in_iff.mpr (by decide)) dL_law_420 ?_
  refine lv_topi (fun x9 ex9 => ?_)
  obtain rfl : xs 1 = x9 := (ex9.trans rfl).symm
  refine lv_aload_n hx hb dL_law_421 rfl (lv_at hl 3 rfl) ?_
  refine lv_iload_n hx hb dL_law_422 rfl (lv_at hl 0 rfl) ?_
  refine lv_iconst (v := 2) hx hb dL_law_423 (by decide) ?_
  refine lv_iadd hx hb dL_law_424 ?_
  refine lv_topi (fun x10 ex10 => ?_)
  obtain rfl : 2 = x10 := (ex10.trans (by decide)).symm
  refine va_sld hx hb hX hbl hbA hS (vp_in_iff.mpr (by decide)) dL_law_425 ?_
  refine lv_topi (fun x11 ex11 => ?_)
  obtain rfl : xs 2 = x11 := (ex11.trans rfl).symm
  refine goV (As := [.int (xs 1), .int (xs 2)]) (rest := [.int r7]) (wr := []) ⟨hx, hb, hml, hown, hts⟩ (c_X12_estate l G cI cJ cZ cD cR cT k0 (xs 1) (xs 2) k0_2 k0_3 k0_4 k0_5 k0_9 k0_10 k0_11 k0_20 k0_22 k0_23 k0_25 k0_26 k0_29 k0_30 k0_31 k0_32 k0_39 k0_40 k0_42 k0_44 k0_45 _) (cwV 2 hts gv_law5_39_X12_estate rfl rfl rfl (by decide +kernel) ⟨Nat.le_of_ble_eq_true rfl, Nat.le_of_ble_eq_true rfl⟩) 0 rfl rfl rfl hKK hP hD hS hA [0, 1] [] rfl rfl (by decide +kernel) (by decide +kernel) (by decide +kernel) rfl hl.1 rfl (lv_room (Nat.le_of_ble_eq_true rfl)) dL_law_426 ⟨Nat.le_of_ble_eq_true rfl, Nat.le_of_ble_eq_true rfl⟩ (fun v13 q12 gq12 H locs hv13 => appW (ws' := []) rfl (fun hP hD hS => ?_))
  obtain ⟨r14, rfl, hr14⟩ := hv13
  refine lv_icmp_eq (tgt := 1678) hx hb dL_law_429 (by decide) (fun _ => ?_) (fun c => absurd (hr7.trans hr14.symm) c)
  refine lv_iinc (v := 6) (lv' := [(3, .int 6), (2, .ref k0), (1, .ref h0), (0, .ref b)]) hx hb dL_law_1678 hl (k := 0) rfl (by decide) (by decide) rfl (fun ls hl => ?_)
  refine lv_goto (tgt := 18) hx hb dL_law_1681 (by decide) ?_
  refine lv_iload_n hx hb dL_law_18 rfl (lv_at hl 0 rfl) ?_
  refine lv_aload_n hx hb dL_law_19 rfl (lv_at hl 3 rfl) ?_
  refine va_slen hx hb hX hbl hbA hS dL_law_20 ?_
  refine lv_topi (fun x15 ex15 => ?_)
  obtain rfl : 6 = x15 := (ex15.trans rfl).symm
  refine lv_bipush (v := 6) hx hb dL_law_21 (by decide) ?_
  refine lv_isub hx hb dL_law_23 ?_
  refine lv_topi (fun x16 ex16 => ?_)
  obtain rfl : 0 = x16 := (ex16.trans (by decide)).symm
  refine lv_icmp_gt (tgt := 1684) hx hb dL_law_24 (by decide) (fun _ => ?_) (fun c => absurd c (by decide))
  refine lv_iconst (v := 1) hx hb dL_law_1684 (by decide) ?_
  refine va_forget (fun q h => hS.2.2 q h) ?_
  refine W.widen (k := 600000) (n := 7302250) (Nat.le_of_ble_eq_true rfl) (Nat.le_of_ble_eq_true rfl) ?_
  exact W.base (lw_ret (Drawn.sameBut.refl s.drawn lw_cs) hx hb hr hlocks dL_law_1685)
set_option maxRecDepth 20000 in
theorem gv_law6_40_X11_field : GoodIn lw_tbl (wsV RL 40 RX11 yX11_field v_X11_field) := goodIn_app (goodIn_r _ [654, 655, 656, 103] (by decide +kernel) (by decide +kernel)) (gi tb_X11_field gd_X11_field)
set_option maxRecDepth 20000 in
theorem gv_law6_44_X12_field : GoodIn lw_tbl (wsV RL 44 RX12 yX12_field v_X12_field) := goodIn_app (goodIn_r _ [1614, 1615, 1616, 114] (by decide +kernel) (by decide +kernel)) (gi tb_X12_field gd_X12_field)
set_option maxHeartbeats 4000000 in
set_option maxRecDepth 100000 in
theorem law_case_6 {p : Program} {e : Env} {s : State} {m : MethodId} {below : List Frame} {meth : Method} {c : Code} (l : Launch) (G : va_G) (cI cJ cZ cD cR cT : ClassId) {b : Nat} {xs : Nat → Int32} (h0 k0 h0_0 h0_1 h0_2 h0_3 h0_6 h0_7 h0_8 h0_10 h0_11 h0_13 h0_0_0 h0_0_1 h0_0_2 h0_0_3 h0_0_4 h0_0_5 h0_0_8 h0_0_15 h0_0_16 h0_0_1_1 h0_0_1_2 h0_0_1_3 h0_0_1_4 h0_0_1_5 h0_0_1_6 h0_0_1_7 h0_0_1_9 h0_0_1_10 h0_0_1_11 k0_2 k0_3 k0_4 k0_5 k0_9 k0_10 k0_11 k0_20 k0_22 k0_23 k0_25 k0_26 k0_29 k0_30 k0_31 k0_32 k0_39 k0_40 k0_42 k0_44 k0_45 : Nat) {H : Heap} {locs : List Loc} {ls : Array Slot} (hx : p.tables.exec = Jvm.exec) (hb : c.code = code) (hr : meth.sig.returnType = ret) (hml : c.maxLocals = 4) (hown : s.vm.findClass RL = some m.cls) (hts : ∀ w ∈ lw_tbl, w.before #[Value.ref b] s = true) (hX : va_X b 6 xs s s.heap) (hbl : b < s.heap.size) (hlocks : meth.locks = false) (hKK : KK G (tys6 cI cJ cZ cD cR cT) s) (hP : va_P G vwCl [(h0, .inr (11, [.ref h0_0, .ref h0_1, .ref h0_2, .ref h0_3, .int 0, .int 0, .ref h0_6, .ref h0_7, .ref h0_8, .int 0, .ref h0_10, .ref h0_11, .int 0, .ref h0_13, .int 0, .int 0])), (h0_0, .inr (0, [.ref h0_0_0, .ref h0_0_1, .ref h0_0_2, .ref h0_0_3, .ref h0_0_4, .ref h0_0_5, .int 0, .int 0, .ref h0_0_8, .int 0, .int 0, .int 0, .int 0, .long 0, .int 0, .ref h0_0_15, .ref h0_0_16])), (h0_0_1, .inr (1, [.int 0, .ref h0_0_1_1, .ref h0_0_1_2, .ref h0_0_1_3, .ref h0_0_1_4, .ref h0_0_1_5, .ref h0_0_1_6, .ref h0_0_1_7, .int 0, .ref h0_0_1_9, .ref h0_0_1_10, .ref h0_0_1_11, .int (-1), .long 0, .long 0])), (k0, .inr (12, [.int 0, .int 0, .ref k0_2, .ref k0_3, .ref k0_4, .ref k0_5, .int 0, .int 0, .int 0, .ref k0_9, .ref k0_10, .ref k0_11, .int 0, .int 0, .int 0, .int 0, .long 0, .int (-1), .int 0, .int 0, .ref k0_20, .int 0, .ref k0_22, .ref k0_23, .int 0, .ref k0_25, .ref k0_26, .int 0, .int 0, .ref k0_29, .ref k0_30, .ref k0_31, .ref k0_32, .int 0, .long 0, .long 0, .long 0, .long 0, .int 0, .ref k0_39, .ref k0_40, .int 0, .ref k0_42, .int 0, .ref k0_44, .ref k0_45, .int 0, .int 0, .int 0, .int 0, .int 0, .int 0])), (k0_2, .inl (cI, 35942, .inl mrow))] H) (hD : va_D (fun q : Nat => s.heap.size ≤ q) [(h0, .inr (11, [.ref h0_0, .ref h0_1, .ref h0_2, .ref h0_3, .int 0, .int 0, .ref h0_6, .ref h0_7, .ref h0_8, .int 0, .ref h0_10, .ref h0_11, .int 0, .ref h0_13, .int 0, .int 0])), (h0_0, .inr (0, [.ref h0_0_0, .ref h0_0_1, .ref h0_0_2, .ref h0_0_3, .ref h0_0_4, .ref h0_0_5, .int 0, .int 0, .ref h0_0_8, .int 0, .int 0, .int 0, .int 0, .long 0, .int 0, .ref h0_0_15, .ref h0_0_16])), (h0_0_1, .inr (1, [.int 0, .ref h0_0_1_1, .ref h0_0_1_2, .ref h0_0_1_3, .ref h0_0_1_4, .ref h0_0_1_5, .ref h0_0_1_6, .ref h0_0_1_7, .int 0, .ref h0_0_1_9, .ref h0_0_1_10, .ref h0_0_1_11, .int (-1), .long 0, .long 0])), (k0, .inr (12, [.int 0, .int 0, .ref k0_2, .ref k0_3, .ref k0_4, .ref k0_5, .int 0, .int 0, .int 0, .ref k0_9, .ref k0_10, .ref k0_11, .int 0, .int 0, .int 0, .int 0, .long 0, .int (-1), .int 0, .int 0, .ref k0_20, .int 0, .ref k0_22, .ref k0_23, .int 0, .ref k0_25, .ref k0_26, .int 0, .int 0, .ref k0_29, .ref k0_30, .ref k0_31, .ref k0_32, .int 0, .long 0, .long 0, .long 0, .long 0, .int 0, .ref k0_39, .ref k0_40, .int 0, .ref k0_42, .int 0, .ref k0_44, .ref k0_45, .int 0, .int 0, .int 0, .int 0, .int 0, .int 0])), (k0_2, .inl (cI, 35942, .inl mrow))]) (hS : va_S (fun q : Nat => s.heap.size ≤ q) s.heap H locs) (hl : lv_has ls 4 [(3, .int 0), (2, .ref k0), (1, .ref h0), (0, .ref b)]) : W p l e room_1 s m #[Value.ref b] below meth c H locs 221 158368 (lw_Z below #[Value.ref b] s) (F0 m 434 ls []) := by
  have hK := hKK.1
  have hA : ∀ q : Nat, s.heap.size ≤ q → (fun q : Nat => s.heap.size ≤ q) q := fun _ h => h
  have hbA : ¬ (fun q : Nat => s.heap.size ≤ q) b := Nat.not_le.mpr hbl
  refine lv_aload_n hx hb dL_law_434 rfl (lv_at hl 2 rfl) ?_
  refine lv_aload_n hx hb dL_law_435 rfl (lv_at hl 3 rfl) ?_
  refine lv_iload_n hx hb dL_law_436 rfl (lv_at hl 0 rfl) ?_
  refine lv_iconst (v := 1) hx hb dL_law_437 (by decide) ?_
  refine lv_iadd hx hb dL_law_438 ?_
  refine lv_topi (fun x1 ex1 => ?_)
  obtain rfl : 1 = x1 := (ex1.trans (by decide)).symm
  refine va_sld hx hb hX hbl hbA hS (vp_in_iff.mpr (by decide)) dL_law_439 ?_
  refine lv_topi (fun x2 ex2 => ?_)
  obtain rfl : xs 1 = x2 := (ex2.trans rfl).symm
  refine lv_aload_n hx hb dL_law_440 rfl (lv_at hl 3 rfl) ?_
  refine lv_iload_n hx hb dL_law_441 rfl (lv_at hl 0 rfl) ?_
  refine lv_iconst (v := 2) hx hb dL_law_442 (by decide) ?_
  refine lv_iadd hx hb dL_law_443 ?_
  refine lv_topi (fun x3 ex3 => ?_)
  obtain rfl : 2 = x3 := (ex3.trans (by decide)).symm
  refine va_sld hx hb hX hbl hbA hS (vp_in_iff.mpr (by decide)) dL_law_444 ?_
  refine lv_topi (fun x4 ex4 => ?_)
  obtain rfl : xs 2 = x4 := (ex4.trans rfl).symm
  refine lv_aload_n hx hb dL_law_445 rfl (lv_at hl 3 rfl) ?_
  refine lv_iload_n hx hb dL_law_446 rfl (lv_at hl 0 rfl) ?_
  refine lv_iconst (v := 3) hx hb dL_law_447 (by decide) ?_
  refine lv_iadd hx hb dL_law_448 ?_
  refine lv_topi (fun x5 ex5 => ?_)
  obtain rfl : 3 = x5 := (ex5.trans (by decide)).symm
  refine va_sld hx hb hX hbl hbA hS (vp_in_iff.mpr (by decide)) dL_law_449 ?_
  refine lv_topi (fun x6 ex6 => ?_)
  obtain rfl : xs 3 = x6 := (ex6.trans rfl).symm
  refine lv_aload_n hx hb dL_law_450 rfl (lv_at hl 3 rfl) ?_
  refine lv_iload_n hx hb dL_law_451 rfl (lv_at hl 0 rfl) ?_
  refine lv_iconst (v := 4) hx hb dL_law_452 (by decide) ?_
  refine lv_iadd hx hb dL_law_453 ?_
  refine lv_topi (fun x7 ex7 => ?_)
  obtain rfl : 4 = x7 := (ex7.trans (by decide)).symm
  refine va_sld hx hb hX hbl hbA hS (vp_in_iff.mpr (by decide)) dL_law_454 ?_
  refine lv_topi (fun x8 ex8 => ?_)
  obtain rfl : xs 4 = x8 := (ex8.trans rfl).symm
  refine goV (As := [.int (xs 1), .int (xs 2), .int (xs 3), .int (xs 4)]) (rest := []) (wr := [(k0, .inr (12, [.int 0, .int 0, .ref k0_2, .ref k0_3, .ref k0_4, .ref k0_5, .int 0, .int 0, .int 0, .ref k0_9, .ref k0_10, .ref k0_11, .int 0, .int 0, .int 0, .int 0, .long 0, .int (-1), .int 0, .int 0, .ref k0_20, .int 0, .ref k0_22, .ref k0_23, .int 0, .ref k0_25, .ref k0_26, .int 0, .int 0, .ref k0_29, .ref k0_30, .ref k0_31, .ref k0_32, .int 0, .long 0, .long 0, .long 0, .long 0, .int 0, .ref k0_39, .ref k0_40, .int 0, .ref k0_42, .int 0, .ref k0_44, .ref k0_45, .int 0, .int 0, .int 0, .int 0, .int 0, .int 0])), (k0_2, .inl (cI, 35942, .inl mrow))]) ⟨hx, hb, hml, hown, hts⟩ (c_X11_field l G cI cJ cZ cD cR cT h0 (xs 1) (xs 2) (xs 3) (xs 4) h0_0 h0_1 h0_2 h0_3 h0_6 h0_7 h0_8 h0_10 h0_11 h0_13 h0_0_0 h0_0_1 h0_0_2 h0_0_3 h0_0_4 h0_0_5 h0_0_8 h0_0_15 h0_0_16 h0_0_1_1 h0_0_1_2 h0_0_1_3 h0_0_1_4 h0_0_1_5 h0_0_1_6 h0_0_1_7 h0_0_1_9 h0_0_1_10 h0_0_1_11 _) (cwV 4 hts gv_law6_40_X11_field rfl rfl rfl (by decide +kernel) ⟨Nat.le_of_ble_eq_true rfl, Nat.le_of_ble_eq_true rfl⟩) 0 rfl rfl rfl hKK hP hD hS hA [0, 1, 2] [3, 4] rfl rfl (by decide +kernel) (by decide +kernel) (by decide +kernel) rfl hl.1 rfl (lv_room (Nat.le_of_ble_eq_true rfl)) dL_law_455 ⟨Nat.le_of_ble_eq_true rfl, Nat.le_of_ble_eq_true rfl⟩ (fun v10 q9 gq9 H locs hv10 => appW (ws' := [(k0, .inr (12, [.int 0, .int 0, .ref k0_2, .ref k0_3, .ref k0_4, .ref k0_5, .int 0, .int 0, .int 0, .ref k0_9, .ref k0_10, .ref k0_11, .int 0, .int 0, .int 0, .int 0, .long 0, .int (-1), .int 0, .int 0, .ref k0_20, .int 0, .ref k0_22, .ref k0_23, .int 0, .ref k0_25, .ref k0_26, .int 0, .int 0, .ref k0_29, .ref k0_30, .ref k0_31, .ref k0_32, .int 0, .long 0, .long 0, .long 0, .long 0, .int 0, .ref k0_39, .ref k0_40, .int 0, .ref k0_42, .int 0, .ref k0_44, .ref k0_45, .int 0, .int 0, .int 0, .int 0, .int 0, .int 0])), (k0_2, .inl (cI, 35942, .inl mrow))]) rfl (fun hP hD hS => ?_))
  obtain ⟨r11, rfl, hr11⟩ := hv10
  refine lv_aload_n hx hb dL_law_458 rfl (lv_at hl 1 rfl) ?_
  refine lv_aload_n hx hb dL_law_459 rfl (lv_at hl 3 rfl) ?_
  refine lv_iload_n hx hb dL_law_460 rfl (lv_at hl 0 rfl) ?_
  refine lv_iconst (v := 1) hx hb dL_law_461 (by decide) ?_
  refine lv_iadd hx hb dL_law_462 ?_
  refine lv_topi (fun x12 ex12 => ?_)
  obtain rfl : 1 = x12 := (ex12.trans (by decide)).symm
  refine va_sld hx hb hX hbl hbA hS (vp_in_iff.mpr (by decide)) dL_law_463 ?_
  refine lv_topi (fun x13 ex13 => ?_)
  obtain rfl : xs 1 = x13 := (ex13.trans rfl).symm
  refine lv_aload_n hx hb dL_law_464 rfl (lv_at hl 3 rfl) ?_
  refine lv_iload_n hx hb dL_law_465 rfl (lv_at hl 0 rfl) ?_
  refine lv_iconst (v := 2) hx hb dL_law_466 (by decide) ?_
  refine lv_iadd hx hb dL_law_467 ?_
  refine lv_topi (fun x14 ex14 => ?_)
  obtain rfl : 2 = x14 := (ex14.trans (by decide)).symm
  refine va_sld hx hb hX hbl hbA hS (vp_in_iff.mpr (by decide)) dL_law_468 ?_
  refine lv_topi (fun x15 ex15 => ?_)
  obtain rfl : xs 2 = x15 := (ex15.trans rfl).symm
  refine lv_aload_n hx hb dL_law_469 rfl (lv_at hl 3 rfl) ?_
  refine lv_iload_n hx hb dL_law_470 rfl (lv_at hl 0 rfl) ?_
  refine lv_iconst (v := 3) hx hb dL_law_471 (by decide) ?_
  refine lv_iadd hx hb dL_law_472 ?_
  refine lv_topi (fun x16 ex16 => ?_)
  obtain rfl : 3 = x16 := (ex16.trans (by decide)).symm
  refine va_sld hx hb hX hbl hbA hS (vp_in_iff.mpr (by decide)) dL_law_473 ?_
  refine lv_topi (fun x17 ex17 => ?_)
  obtain rfl : xs 3 = x17 := (ex17.trans rfl).symm
  refine lv_aload_n hx hb dL_law_474 rfl (lv_at hl 3 rfl) ?_
  refine lv_iload_n hx hb dL_law_475 rfl (lv_at hl 0 rfl) ?_
  refine lv_iconst (v := 4) hx hb dL_law_476 (by decide) ?_
  refine lv_iadd hx hb dL_law_477 ?_
  refine lv_topi (fun x18 ex18 => ?_)
  obtain rfl : 4 = x18 := (ex18.trans (by decide)).symm
  refine va_sld hx hb hX hbl hbA hS (vp_in_iff.mpr (by decide)) dL_law_478 ?_
  refine lv_topi (fun x19 ex19 => ?_)
  obtain rfl : xs 4 = x19 := (ex19.trans rfl).symm
  refine goV (As := [.int (xs 1), .int (xs 2), .int (xs 3), .int (xs 4)]) (rest := [.int r11]) (wr := []) ⟨hx, hb, hml, hown, hts⟩ (c_X12_field l G cI cJ cZ cD cR cT k0 (xs 1) (xs 2) (xs 3) (xs 4) k0_2 k0_3 k0_4 k0_5 k0_9 k0_10 k0_11 k0_20 k0_22 k0_23 k0_25 k0_26 k0_29 k0_30 k0_31 k0_32 k0_39 k0_40 k0_42 k0_44 k0_45 _) (cwV 4 hts gv_law6_44_X12_field rfl rfl rfl (by decide +kernel) ⟨Nat.le_of_ble_eq_true rfl, Nat.le_of_ble_eq_true rfl⟩) 0 rfl rfl rfl hKK hP hD hS hA [0, 1] [] rfl rfl (by decide +kernel) (by decide +kernel) (by decide +kernel) rfl hl.1 rfl (lv_room (Nat.le_of_ble_eq_true rfl)) dL_law_479 ⟨Nat.le_of_ble_eq_true rfl, Nat.le_of_ble_eq_true rfl⟩ (fun v21 q20 gq20 H locs hv21 => appW (ws' := []) rfl (fun hP hD hS => ?_))
  obtain ⟨r22, rfl, hr22⟩ := hv21
  refine lv_icmp_eq (tgt := 1678) hx hb dL_law_482 (by decide) (fun _ => ?_) (fun c => absurd (hr11.trans hr22.symm) c)
  refine lv_iinc (v := 6) (lv' := [(3, .int 6), (2, .ref k0), (1, .ref h0), (0, .ref b)]) hx hb dL_law_1678 hl (k := 0) rfl (by decide) (by decide) rfl (fun ls hl => ?_)
  refine lv_goto (tgt := 18) hx hb dL_law_1681 (by decide) ?_
  refine lv_iload_n hx hb dL_law_18 rfl (lv_at hl 0 rfl) ?_
  refine lv_aload_n hx hb dL_law_19 rfl (lv_at hl 3 rfl) ?_
  refine va_slen hx hb hX hbl hbA hS dL_law_20 ?_
  refine lv_topi (fun x23 ex23 => ?_)
  obtain rfl : 6 = x23 := (ex23.trans rfl).symm
  refine lv_bipush (v := 6) hx hb dL_law_21 (by decide) ?_
  refine lv_isub hx hb dL_law_23 ?_
  refine lv_topi (fun x24 ex24 => ?_)
  obtain rfl : 0 = x24 := (ex24.trans (by decide)).symm
  refine lv_icmp_gt (tgt := 1684) hx hb dL_law_24 (by decide) (fun _ => ?_) (fun c => absurd c (by decide))
  refine lv_iconst (v := 1) hx hb dL_law_1684 (by decide) ?_
  refine va_forget (fun q h => hS.2.2 q h) ?_
  refine W.widen (k := 600000) (n := 7302250) (Nat.le_of_ble_eq_true rfl) (Nat.le_of_ble_eq_true rfl) ?_
  exact W.base (lw_ret (Drawn.sameBut.refl s.drawn lw_cs) hx hb hr hlocks dL_law_1685)
set_option maxRecDepth 20000 in
theorem gv_law7_45_X11_of : GoodIn lw_tbl (wsV RL 45 RX11 yX11_of v_X11_of) := goodIn_app (goodIn_r _ [671, 672, 673, 103] (by decide +kernel) (by decide +kernel)) (gi tb_X11_of gd_X11_of)
set_option maxRecDepth 20000 in
theorem gv_law7_48_X12_of : GoodIn lw_tbl (wsV RL 48 RX12 yX12_of v_X12_of) := goodIn_app (goodIn_r _ [1627, 1628, 1629, 114] (by decide +kernel) (by decide +kernel)) (gi tb_X12_of gd_X12_of)
set_option maxHeartbeats 4000000 in
set_option maxRecDepth 100000 in
theorem law_case_7 {p : Program} {e : Env} {s : State} {m : MethodId} {below : List Frame} {meth : Method} {c : Code} (l : Launch) (G : va_G) (cI cJ cZ cD cR cT : ClassId) {b : Nat} {xs : Nat → Int32} (h0 k0 h0_0 h0_1 h0_2 h0_3 h0_6 h0_7 h0_8 h0_10 h0_11 h0_13 h0_0_0 h0_0_1 h0_0_2 h0_0_3 h0_0_4 h0_0_5 h0_0_8 h0_0_15 h0_0_16 h0_0_0_1 h0_0_0_2 h0_0_0_3 h0_0_0_4 h0_0_0_5 h0_0_0_6 h0_0_0_7 h0_0_0_8 h0_0_0_9 k0_2 k0_3 k0_4 k0_5 k0_9 k0_10 k0_11 k0_20 k0_22 k0_23 k0_25 k0_26 k0_29 k0_30 k0_31 k0_32 k0_39 k0_40 k0_42 k0_44 k0_45 : Nat) {H : Heap} {locs : List Loc} {ls : Array Slot} (hx : p.tables.exec = Jvm.exec) (hb : c.code = code) (hr : meth.sig.returnType = ret) (hml : c.maxLocals = 4) (hown : s.vm.findClass RL = some m.cls) (hts : ∀ w ∈ lw_tbl, w.before #[Value.ref b] s = true) (hX : va_X b 6 xs s s.heap) (hbl : b < s.heap.size) (hlocks : meth.locks = false) (hKK : KK G (tys6 cI cJ cZ cD cR cT) s) (hP : va_P G vwCl [(h0, .inr (11, [.ref h0_0, .ref h0_1, .ref h0_2, .ref h0_3, .int 0, .int 0, .ref h0_6, .ref h0_7, .ref h0_8, .int 0, .ref h0_10, .ref h0_11, .int 0, .ref h0_13, .int 0, .int 0])), (h0_0, .inr (0, [.ref h0_0_0, .ref h0_0_1, .ref h0_0_2, .ref h0_0_3, .ref h0_0_4, .ref h0_0_5, .int 0, .int 0, .ref h0_0_8, .int 0, .int 0, .int 0, .int 0, .long 0, .int 0, .ref h0_0_15, .ref h0_0_16])), (h0_0_0, .inr (4, [.int 0, .ref h0_0_0_1, .ref h0_0_0_2, .ref h0_0_0_3, .ref h0_0_0_4, .ref h0_0_0_5, .ref h0_0_0_6, .ref h0_0_0_7, .ref h0_0_0_8, .ref h0_0_0_9])), (k0, .inr (12, [.int 0, .int 0, .ref k0_2, .ref k0_3, .ref k0_4, .ref k0_5, .int 0, .int 0, .int 0, .ref k0_9, .ref k0_10, .ref k0_11, .int 0, .int 0, .int 0, .int 0, .long 0, .int (-1), .int 0, .int 0, .ref k0_20, .int 0, .ref k0_22, .ref k0_23, .int 0, .ref k0_25, .ref k0_26, .int 0, .int 0, .ref k0_29, .ref k0_30, .ref k0_31, .ref k0_32, .int 0, .long 0, .long 0, .long 0, .long 0, .int 0, .ref k0_39, .ref k0_40, .int 0, .ref k0_42, .int 0, .ref k0_44, .ref k0_45, .int 0, .int 0, .int 0, .int 0, .int 0, .int 0])), (k0_2, .inl (cI, 35942, .inl mrow))] H) (hD : va_D (fun q : Nat => s.heap.size ≤ q) [(h0, .inr (11, [.ref h0_0, .ref h0_1, .ref h0_2, .ref h0_3, .int 0, .int 0, .ref h0_6, .ref h0_7, .ref h0_8, .int 0, .ref h0_10, .ref h0_11, .int 0, .ref h0_13, .int 0, .int 0])), (h0_0, .inr (0, [.ref h0_0_0, .ref h0_0_1, .ref h0_0_2, .ref h0_0_3, .ref h0_0_4, .ref h0_0_5, .int 0, .int 0, .ref h0_0_8, .int 0, .int 0, .int 0, .int 0, .long 0, .int 0, .ref h0_0_15, .ref h0_0_16])), (h0_0_0, .inr (4, [.int 0, .ref h0_0_0_1, .ref h0_0_0_2, .ref h0_0_0_3, .ref h0_0_0_4, .ref h0_0_0_5, .ref h0_0_0_6, .ref h0_0_0_7, .ref h0_0_0_8, .ref h0_0_0_9])), (k0, .inr (12, [.int 0, .int 0, .ref k0_2, .ref k0_3, .ref k0_4, .ref k0_5, .int 0, .int 0, .int 0, .ref k0_9, .ref k0_10, .ref k0_11, .int 0, .int 0, .int 0, .int 0, .long 0, .int (-1), .int 0, .int 0, .ref k0_20, .int 0, .ref k0_22, .ref k0_23, .int 0, .ref k0_25, .ref k0_26, .int 0, .int 0, .ref k0_29, .ref k0_30, .ref k0_31, .ref k0_32, .int 0, .long 0, .long 0, .long 0, .long 0, .int 0, .ref k0_39, .ref k0_40, .int 0, .ref k0_42, .int 0, .ref k0_44, .ref k0_45, .int 0, .int 0, .int 0, .int 0, .int 0, .int 0])), (k0_2, .inl (cI, 35942, .inl mrow))]) (hS : va_S (fun q : Nat => s.heap.size ≤ q) s.heap H locs) (hl : lv_has ls 4 [(3, .int 0), (2, .ref k0), (1, .ref h0), (0, .ref b)]) : W p l e room_1 s m #[Value.ref b] below meth c H locs 221 158368 (lw_Z below #[Value.ref b] s) (F0 m 487 ls []) := by
  have hK := hKK.1
  have hA : ∀ q : Nat, s.heap.size ≤ q → (fun q : Nat => s.heap.size ≤ q) q := fun _ h => h
  have hbA : ¬ (fun q : Nat => s.heap.size ≤ q) b := Nat.not_le.mpr hbl
  refine lv_aload_n hx hb dL_law_487 rfl (lv_at hl 2 rfl) ?_
  refine lv_aload_n hx hb dL_law_488 rfl (lv_at hl 3 rfl) ?_
  refine lv_iload_n hx hb dL_law_489 rfl (lv_at hl 0 rfl) ?_
  refine lv_iconst (v := 1) hx hb dL_law_490 (by decide) ?_
  refine lv_iadd hx hb dL_law_491 ?_
  refine lv_topi (fun x1 ex1 => ?_)
  obtain rfl : 1 = x1 := (ex1.trans (by decide)).symm
  refine va_sld hx hb hX hbl hbA hS (vp_in_iff.mpr (by decide)) dL_law_492 ?_
  refine lv_topi (fun x2 ex2 => ?_)
  obtain rfl : xs 1 = x2 := (ex2.trans rfl).symm
  refine lv_aload_n hx hb dL_law_493 rfl (lv_at hl 3 rfl) ?_
  refine lv_iload_n hx hb dL_law_494 rfl (lv_at hl 0 rfl) ?_
  refine lv_iconst (v := 2) hx hb dL_law_495 (by decide) ?_
  refine lv_iadd hx hb dL_law_496 ?_
  refine lv_topi (fun x3 ex3 => ?_)
  obtain rfl : 2 = x3 := (ex3.trans (by decide)).symm
  refine va_sld hx hb hX hbl hbA hS (vp_in_iff.mpr (by decide)) dL_law_497 ?_
  refine lv_topi (fun x4 ex4 => ?_)
  obtain rfl : xs 2 = x4 := (ex4.trans rfl).symm
  refine goV (As := [.int (xs 1), .int (xs 2)]) (rest := []) (wr := [(k0, .inr (12, [.int 0, .int 0, .ref k0_2, .ref k0_3, .ref k0_4, .ref k0_5, .int 0, .int 0, .int 0, .ref k0_9, .ref k0_10, .ref k0_11, .int 0, .int 0, .int 0, .int 0, .long 0, .int (-1), .int 0, .int 0, .ref k0_20, .int 0, .ref k0_22, .ref k0_23, .int 0, .ref k0_25, .ref k0_26, .int 0, .int 0, .ref k0_29, .ref k0_30, .ref k0_31, .ref k0_32, .int 0, .long 0, .long 0, .long 0, .long 0, .int 0, .ref k0_39, .ref k0_40, .int 0, .ref k0_42, .int 0, .ref k0_44, .ref k0_45, .int 0, .int 0, .int 0, .int 0, .int 0, .int 0])), (k0_2, .inl (cI, 35942, .inl mrow))]) ⟨hx, hb, hml, hown, hts⟩ (c_X11_of l G cI cJ cZ cD cR cT h0 (xs 1) (xs 2) h0_0 h0_1 h0_2 h0_3 h0_6 h0_7 h0_8 h0_10 h0_11 h0_13 h0_0_0 h0_0_1 h0_0_2 h0_0_3 h0_0_4 h0_0_5 h0_0_8 h0_0_15 h0_0_16 h0_0_0_1 h0_0_0_2 h0_0_0_3 h0_0_0_4 h0_0_0_5 h0_0_0_6 h0_0_0_7 h0_0_0_8 h0_0_0_9 _) (cwV 2 hts gv_law7_45_X11_of rfl rfl rfl (by decide +kernel) ⟨Nat.le_of_ble_eq_true rfl, Nat.le_of_ble_eq_true rfl⟩) 0 rfl rfl rfl hKK hP hD hS hA [0, 1, 2] [3, 4] rfl rfl (by decide +kernel) (by decide +kernel) (by decide +kernel) rfl hl.1 rfl (lv_room (Nat.le_of_ble_eq_true rfl)) dL_law_498 ⟨Nat.le_of_ble_eq_true rfl, Nat.le_of_ble_eq_true rfl⟩ (fun v6 q5 gq5 H locs hv6 => appW (ws' := [(k0, .inr (12, [.int 0, .int 0, .ref k0_2, .ref k0_3, .ref k0_4, .ref k0_5, .int 0, .int 0, .int 0, .ref k0_9, .ref k0_10, .ref k0_11, .int 0, .int 0, .int 0, .int 0, .long 0, .int (-1), .int 0, .int 0, .ref k0_20, .int 0, .ref k0_22, .ref k0_23, .int 0, .ref k0_25, .ref k0_26, .int 0, .int 0, .ref k0_29, .ref k0_30, .ref k0_31, .ref k0_32, .int 0, .long 0, .long 0, .long 0, .long 0, .int 0, .ref k0_39, .ref k0_40, .int 0, .ref k0_42, .int 0, .ref k0_44, .ref k0_45, .int 0, .int 0, .int 0, .int 0, .int 0, .int 0])), (k0_2, .inl (cI, 35942, .inl mrow))]) rfl (fun hP hD hS => ?_))
  obtain ⟨r7, rfl, hr7⟩ := hv6
  refine lv_aload_n hx hb dL_law_501 rfl (lv_at hl 1 rfl) ?_
  refine lv_aload_n hx hb dL_law_502 rfl (lv_at hl 3 rfl) ?_
  refine lv_iload_n hx hb dL_law_503 rfl (lv_at hl 0 rfl) ?_
  refine lv_iconst (v := 1) hx hb dL_law_504 (by decide) ?_
  refine lv_iadd hx hb dL_law_505 ?_
  refine lv_topi (fun x8 ex8 => ?_)
  obtain rfl : 1 = x8 := (ex8.trans (by decide)).symm
  refine va_sld hx hb hX hbl hbA hS (vp_in_iff.mpr (by decide)) dL_law_506 ?_
  refine lv_topi (fun x9 ex9 => ?_)
  obtain rfl : xs 1 = x9 := (ex9.trans rfl).symm
  refine lv_aload_n hx hb dL_law_507 rfl (lv_at hl 3 rfl) ?_
  refine lv_iload_n hx hb dL_law_508 rfl (lv_at hl 0 rfl) ?_
  refine lv_iconst (v := 2) hx hb dL_law_509 (by decide) ?_
  refine lv_iadd hx hb dL_law_510 ?_
  refine lv_topi (fun x10 ex10 => ?_)
  obtain rfl : 2 = x10 := (ex10.trans (by decide)).symm
  refine va_sld hx hb hX hbl hbA hS (vp_in_iff.mpr (by decide)) dL_law_511 ?_
  refine lv_topi (fun x11 ex11 => ?_)
  obtain rfl : xs 2 = x11 := (ex11.trans rfl).symm
  refine goV (As := [.int (xs 1), .int (xs 2)]) (rest := [.int r7]) (wr := []) ⟨hx, hb, hml, hown, hts⟩ (c_X12_of l G cI cJ cZ cD cR cT k0 (xs 1) (xs 2) k0_2 k0_3 k0_4 k0_5 k0_9 k0_10 k0_11 k0_20 k0_22 k0_23 k0_25 k0_26 k0_29 k0_30 k0_31 k0_32 k0_39 k0_40 k0_42 k0_44 k0_45 _) (cwV 2 hts gv_law7_48_X12_of rfl rfl rfl (by decide +kernel) ⟨Nat.le_of_ble_eq_true rfl, Nat.le_of_ble_eq_true rfl⟩) 0 rfl rfl rfl hKK hP hD hS hA [0, 1] [] rfl rfl (by decide +kernel) (by decide +kernel) (by decide +kernel) rfl hl.1 rfl (lv_room (Nat.le_of_ble_eq_true rfl)) dL_law_512 ⟨Nat.le_of_ble_eq_true rfl, Nat.le_of_ble_eq_true rfl⟩ (fun v13 q12 gq12 H locs hv13 => appW (ws' := []) rfl (fun hP hD hS => ?_))
  obtain ⟨r14, rfl, hr14⟩ := hv13
  refine lv_icmp_eq (tgt := 1678) hx hb dL_law_515 (by decide) (fun _ => ?_) (fun c => absurd (hr7.trans hr14.symm) c)
  refine lv_iinc (v := 6) (lv' := [(3, .int 6), (2, .ref k0), (1, .ref h0), (0, .ref b)]) hx hb dL_law_1678 hl (k := 0) rfl (by decide) (by decide) rfl (fun ls hl => ?_)
  refine lv_goto (tgt := 18) hx hb dL_law_1681 (by decide) ?_
  refine lv_iload_n hx hb dL_law_18 rfl (lv_at hl 0 rfl) ?_
  refine lv_aload_n hx hb dL_law_19 rfl (lv_at hl 3 rfl) ?_
  refine va_slen hx hb hX hbl hbA hS dL_law_20 ?_
  refine lv_topi (fun x15 ex15 => ?_)
  obtain rfl : 6 = x15 := (ex15.trans rfl).symm
  refine lv_bipush (v := 6) hx hb dL_law_21 (by decide) ?_
  refine lv_isub hx hb dL_law_23 ?_
  refine lv_topi (fun x16 ex16 => ?_)
  obtain rfl : 0 = x16 := (ex16.trans (by decide)).symm
  refine lv_icmp_gt (tgt := 1684) hx hb dL_law_24 (by decide) (fun _ => ?_) (fun c => absurd c (by decide))
  refine lv_iconst (v := 1) hx hb dL_law_1684 (by decide) ?_
  refine va_forget (fun q h => hS.2.2 q h) ?_
  refine W.widen (k := 600000) (n := 7302250) (Nat.le_of_ble_eq_true rfl) (Nat.le_of_ble_eq_true rfl) ?_
  exact W.base (lw_ret (Drawn.sameBut.refl s.drawn lw_cs) hx hb hr hlocks dL_law_1685)
set_option maxRecDepth 20000 in
theorem gv_law8_49_X11_tells : GoodIn lw_tbl (wsV RL 49 RX11 yX11_tells v_X11_tells) := goodIn_app (goodIn_r _ [679, 680, 681, 103] (by decide +kernel) (by decide +kernel)) (gi tb_X11_tells gd_X11_tells)
set_option maxRecDepth 20000 in
theorem gv_law8_52_X12_tells : GoodIn lw_tbl (wsV RL 52 RX12 yX12_tells v_X12_tells) := goodIn_app (goodIn_r _ [1635, 1636, 1637, 114] (by decide +kernel) (by decide +kernel)) (gi tb_X12_tells gd_X12_tells)
set_option maxHeartbeats 4000000 in
set_option maxRecDepth 100000 in
theorem law_case_8 {p : Program} {e : Env} {s : State} {m : MethodId} {below : List Frame} {meth : Method} {c : Code} (l : Launch) (G : va_G) (cI cJ cZ cD cR cT : ClassId) {b : Nat} {xs : Nat → Int32} (h0 k0 h0_0 h0_1 h0_2 h0_3 h0_6 h0_7 h0_8 h0_10 h0_11 h0_13 h0_0_0 h0_0_1 h0_0_2 h0_0_3 h0_0_4 h0_0_5 h0_0_8 h0_0_15 h0_0_16 h0_0_1_1 h0_0_1_2 h0_0_1_3 h0_0_1_4 h0_0_1_5 h0_0_1_6 h0_0_1_7 h0_0_1_9 h0_0_1_10 h0_0_1_11 k0_2 k0_3 k0_4 k0_5 k0_9 k0_10 k0_11 k0_20 k0_22 k0_23 k0_25 k0_26 k0_29 k0_30 k0_31 k0_32 k0_39 k0_40 k0_42 k0_44 k0_45 : Nat) {H : Heap} {locs : List Loc} {ls : Array Slot} (hx : p.tables.exec = Jvm.exec) (hb : c.code = code) (hr : meth.sig.returnType = ret) (hml : c.maxLocals = 4) (hown : s.vm.findClass RL = some m.cls) (hts : ∀ w ∈ lw_tbl, w.before #[Value.ref b] s = true) (hX : va_X b 6 xs s s.heap) (hbl : b < s.heap.size) (hlocks : meth.locks = false) (hKK : KK G (tys6 cI cJ cZ cD cR cT) s) (hP : va_P G vwCl [(h0, .inr (11, [.ref h0_0, .ref h0_1, .ref h0_2, .ref h0_3, .int 0, .int 0, .ref h0_6, .ref h0_7, .ref h0_8, .int 0, .ref h0_10, .ref h0_11, .int 0, .ref h0_13, .int 0, .int 0])), (h0_0, .inr (0, [.ref h0_0_0, .ref h0_0_1, .ref h0_0_2, .ref h0_0_3, .ref h0_0_4, .ref h0_0_5, .int 0, .int 0, .ref h0_0_8, .int 0, .int 0, .int 0, .int 0, .long 0, .int 0, .ref h0_0_15, .ref h0_0_16])), (h0_0_1, .inr (1, [.int 0, .ref h0_0_1_1, .ref h0_0_1_2, .ref h0_0_1_3, .ref h0_0_1_4, .ref h0_0_1_5, .ref h0_0_1_6, .ref h0_0_1_7, .int 0, .ref h0_0_1_9, .ref h0_0_1_10, .ref h0_0_1_11, .int (-1), .long 0, .long 0])), (k0, .inr (12, [.int 0, .int 0, .ref k0_2, .ref k0_3, .ref k0_4, .ref k0_5, .int 0, .int 0, .int 0, .ref k0_9, .ref k0_10, .ref k0_11, .int 0, .int 0, .int 0, .int 0, .long 0, .int (-1), .int 0, .int 0, .ref k0_20, .int 0, .ref k0_22, .ref k0_23, .int 0, .ref k0_25, .ref k0_26, .int 0, .int 0, .ref k0_29, .ref k0_30, .ref k0_31, .ref k0_32, .int 0, .long 0, .long 0, .long 0, .long 0, .int 0, .ref k0_39, .ref k0_40, .int 0, .ref k0_42, .int 0, .ref k0_44, .ref k0_45, .int 0, .int 0, .int 0, .int 0, .int 0, .int 0])), (k0_2, .inl (cI, 35942, .inl mrow))] H) (hD : va_D (fun q : Nat => s.heap.size ≤ q) [(h0, .inr (11, [.ref h0_0, .ref h0_1, .ref h0_2, .ref h0_3, .int 0, .int 0, .ref h0_6, .ref h0_7, .ref h0_8, .int 0, .ref h0_10, .ref h0_11, .int 0, .ref h0_13, .int 0, .int 0])), (h0_0, .inr (0, [.ref h0_0_0, .ref h0_0_1, .ref h0_0_2, .ref h0_0_3, .ref h0_0_4, .ref h0_0_5, .int 0, .int 0, .ref h0_0_8, .int 0, .int 0, .int 0, .int 0, .long 0, .int 0, .ref h0_0_15, .ref h0_0_16])), (h0_0_1, .inr (1, [.int 0, .ref h0_0_1_1, .ref h0_0_1_2, .ref h0_0_1_3, .ref h0_0_1_4, .ref h0_0_1_5, .ref h0_0_1_6, .ref h0_0_1_7, .int 0, .ref h0_0_1_9, .ref h0_0_1_10, .ref h0_0_1_11, .int (-1), .long 0, .long 0])), (k0, .inr (12, [.int 0, .int 0, .ref k0_2, .ref k0_3, .ref k0_4, .ref k0_5, .int 0, .int 0, .int 0, .ref k0_9, .ref k0_10, .ref k0_11, .int 0, .int 0, .int 0, .int 0, .long 0, .int (-1), .int 0, .int 0, .ref k0_20, .int 0, .ref k0_22, .ref k0_23, .int 0, .ref k0_25, .ref k0_26, .int 0, .int 0, .ref k0_29, .ref k0_30, .ref k0_31, .ref k0_32, .int 0, .long 0, .long 0, .long 0, .long 0, .int 0, .ref k0_39, .ref k0_40, .int 0, .ref k0_42, .int 0, .ref k0_44, .ref k0_45, .int 0, .int 0, .int 0, .int 0, .int 0, .int 0])), (k0_2, .inl (cI, 35942, .inl mrow))]) (hS : va_S (fun q : Nat => s.heap.size ≤ q) s.heap H locs) (hl : lv_has ls 4 [(3, .int 0), (2, .ref k0), (1, .ref h0), (0, .ref b)]) : W p l e room_1 s m #[Value.ref b] below meth c H locs 221 158368 (lw_Z below #[Value.ref b] s) (F0 m 520 ls []) := by
  have hK := hKK.1
  have hA : ∀ q : Nat, s.heap.size ≤ q → (fun q : Nat => s.heap.size ≤ q) q := fun _ h => h
  have hbA : ¬ (fun q : Nat => s.heap.size ≤ q) b := Nat.not_le.mpr hbl
  refine lv_aload_n hx hb dL_law_520 rfl (lv_at hl 2 rfl) ?_
  refine lv_aload_n hx hb dL_law_521 rfl (lv_at hl 3 rfl) ?_
  refine lv_iload_n hx hb dL_law_522 rfl (lv_at hl 0 rfl) ?_
  refine lv_iconst (v := 1) hx hb dL_law_523 (by decide) ?_
  refine lv_iadd hx hb dL_law_524 ?_
  refine lv_topi (fun x1 ex1 => ?_)
  obtain rfl : 1 = x1 := (ex1.trans (by decide)).symm
  refine va_sld hx hb hX hbl hbA hS (vp_in_iff.mpr (by decide)) dL_law_525 ?_
  refine lv_topi (fun x2 ex2 => ?_)
  obtain rfl : xs 1 = x2 := (ex2.trans rfl).symm
  refine lv_aload_n hx hb dL_law_526 rfl (lv_at hl 3 rfl) ?_
  refine lv_iload_n hx hb dL_law_527 rfl (lv_at hl 0 rfl) ?_
  refine lv_iconst (v := 2) hx hb dL_law_528 (by decide) ?_
  refine lv_iadd hx hb dL_law_529 ?_
  refine lv_topi (fun x3 ex3 => ?_)
  obtain rfl : 2 = x3 := (ex3.trans (by decide)).symm
  refine va_sld hx hb hX hbl hbA hS (vp_in_iff.mpr (by decide)) dL_law_530 ?_
  refine lv_topi (fun x4 ex4 => ?_)
  obtain rfl : xs 2 = x4 := (ex4.trans rfl).symm
  refine goV (As := [.int (xs 1), .int (xs 2)]) (rest := []) (wr := [(k0, .inr (12, [.int 0, .int 0, .ref k0_2, .ref k0_3, .ref k0_4, .ref k0_5, .int 0, .int 0, .int 0, .ref k0_9, .ref k0_10, .ref k0_11, .int 0, .int 0, .int 0, .int 0, .long 0, .int (-1), .int 0, .int 0, .ref k0_20, .int 0, .ref k0_22, .ref k0_23, .int 0, .ref k0_25, .ref k0_26, .int 0, .int 0, .ref k0_29, .ref k0_30, .ref k0_31, .ref k0_32, .int 0, .long 0, .long 0, .long 0, .long 0, .int 0, .ref k0_39, .ref k0_40, .int 0, .ref k0_42, .int 0, .ref k0_44, .ref k0_45, .int 0, .int 0, .int 0, .int 0, .int 0, .int 0])), (k0_2, .inl (cI, 35942, .inl mrow))]) ⟨hx, hb, hml, hown, hts⟩ (c_X11_tells l G cI cJ cZ cD cR cT h0 (xs 1) (xs 2) h0_0 h0_1 h0_2 h0_3 h0_6 h0_7 h0_8 h0_10 h0_11 h0_13 h0_0_0 h0_0_1 h0_0_2 h0_0_3 h0_0_4 h0_0_5 h0_0_8 h0_0_15 h0_0_16 h0_0_1_1 h0_0_1_2 h0_0_1_3 h0_0_1_4 h0_0_1_5 h0_0_1_6 h0_0_1_7 h0_0_1_9 h0_0_1_10 h0_0_1_11 _) (cwV 2 hts gv_law8_49_X11_tells rfl rfl rfl (by decide +kernel) ⟨Nat.le_of_ble_eq_true rfl, Nat.le_of_ble_eq_true rfl⟩) 0 rfl rfl rfl hKK hP hD hS hA [0, 1, 2] [3, 4] rfl rfl (by decide +kernel) (by decide +kernel) (by decide +kernel) rfl hl.1 rfl (lv_room (Nat.le_of_ble_eq_true rfl)) dL_law_531 ⟨Nat.le_of_ble_eq_true rfl, Nat.le_of_ble_eq_true rfl⟩ (fun v6 q5 gq5 H locs hv6 => appW (ws' := [(k0, .inr (12, [.int 0, .int 0, .ref k0_2, .ref k0_3, .ref k0_4, .ref k0_5, .int 0, .int 0, .int 0, .ref k0_9, .ref k0_10, .ref k0_11, .int 0, .int 0, .int 0, .int 0, .long 0, .int (-1), .int 0, .int 0, .ref k0_20, .int 0, .ref k0_22, .ref k0_23, .int 0, .ref k0_25, .ref k0_26, .int 0, .int 0, .ref k0_29, .ref k0_30, .ref k0_31, .ref k0_32, .int 0, .long 0, .long 0, .long 0, .long 0, .int 0, .ref k0_39, .ref k0_40, .int 0, .ref k0_42, .int 0, .ref k0_44, .ref k0_45, .int 0, .int 0, .int 0, .int 0, .int 0, .int 0])), (k0_2, .inl (cI, 35942, .inl mrow))]) rfl (fun hP hD hS => ?_))
  obtain ⟨r7, rfl, hr7⟩ := hv6
  refine lv_aload_n hx hb dL_law_534 rfl (lv_at hl 1 rfl) ?_
  refine lv_aload_n hx hb dL_law_535 rfl (lv_at hl 3 rfl) ?_
  refine lv_iload_n hx hb dL_law_536 rfl (lv_at hl 0 rfl) ?_
  refine lv_iconst (v := 1) hx hb dL_law_537 (by decide) ?_
  refine lv_iadd hx hb dL_law_538 ?_
  refine lv_topi (fun x8 ex8 => ?_)
  obtain rfl : 1 = x8 := (ex8.trans (by decide)).symm
  refine va_sld hx hb hX hbl hbA hS (vp_in_iff.mpr (by decide)) dL_law_539 ?_
  refine lv_topi (fun x9 ex9 => ?_)
  obtain rfl : xs 1 = x9 := (ex9.trans rfl).symm
  refine lv_aload_n hx hb dL_law_540 rfl (lv_at hl 3 rfl) ?_
  refine lv_iload_n hx hb dL_law_541 rfl (lv_at hl 0 rfl) ?_
  refine lv_iconst (v := 2) hx hb dL_law_542 (by decide) ?_
  refine lv_iadd hx hb dL_law_543 ?_
  refine lv_topi (fun x10 ex10 => ?_)
  obtain rfl : 2 = x10 := (ex10.trans (by decide)).symm
  refine va_sld hx hb hX hbl hbA hS (vp_in_iff.mpr (by decide)) dL_law_544 ?_
  refine lv_topi (fun x11 ex11 => ?_)
  obtain rfl : xs 2 = x11 := (ex11.trans rfl).symm
  refine goV (As := [.int (xs 1), .int (xs 2)]) (rest := [.int r7]) (wr := []) ⟨hx, hb, hml, hown, hts⟩ (c_X12_tells l G cI cJ cZ cD cR cT k0 (xs 1) (xs 2) k0_2 k0_3 k0_4 k0_5 k0_9 k0_10 k0_11 k0_20 k0_22 k0_23 k0_25 k0_26 k0_29 k0_30 k0_31 k0_32 k0_39 k0_40 k0_42 k0_44 k0_45 _) (cwV 2 hts gv_law8_52_X12_tells rfl rfl rfl (by decide +kernel) ⟨Nat.le_of_ble_eq_true rfl, Nat.le_of_ble_eq_true rfl⟩) 0 rfl rfl rfl hKK hP hD hS hA [0, 1] [] rfl rfl (by decide +kernel) (by decide +kernel) (by decide +kernel) rfl hl.1 rfl (lv_room (Nat.le_of_ble_eq_true rfl)) dL_law_545 ⟨Nat.le_of_ble_eq_true rfl, Nat.le_of_ble_eq_true rfl⟩ (fun v13 q12 gq12 H locs hv13 => appW (ws' := []) rfl (fun hP hD hS => ?_))
  obtain ⟨r14, rfl, hr14⟩ := hv13
  refine lv_icmp_eq (tgt := 1678) hx hb dL_law_548 (by decide) (fun _ => ?_) (fun c => absurd (hr7.trans hr14.symm) c)
  refine lv_iinc (v := 6) (lv' := [(3, .int 6), (2, .ref k0), (1, .ref h0), (0, .ref b)]) hx hb dL_law_1678 hl (k := 0) rfl (by decide) (by decide) rfl (fun ls hl => ?_)
  refine lv_goto (tgt := 18) hx hb dL_law_1681 (by decide) ?_
  refine lv_iload_n hx hb dL_law_18 rfl (lv_at hl 0 rfl) ?_
  refine lv_aload_n hx hb dL_law_19 rfl (lv_at hl 3 rfl) ?_
  refine va_slen hx hb hX hbl hbA hS dL_law_20 ?_
  refine lv_topi (fun x15 ex15 => ?_)
  obtain rfl : 6 = x15 := (ex15.trans rfl).symm
  refine lv_bipush (v := 6) hx hb dL_law_21 (by decide) ?_
  refine lv_isub hx hb dL_law_23 ?_
  refine lv_topi (fun x16 ex16 => ?_)
  obtain rfl : 0 = x16 := (ex16.trans (by decide)).symm
  refine lv_icmp_gt (tgt := 1684) hx hb dL_law_24 (by decide) (fun _ => ?_) (fun c => absurd c (by decide))
  refine lv_iconst (v := 1) hx hb dL_law_1684 (by decide) ?_
  refine va_forget (fun q h => hS.2.2 q h) ?_
  refine W.widen (k := 600000) (n := 7302250) (Nat.le_of_ble_eq_true rfl) (Nat.le_of_ble_eq_true rfl) ?_
  exact W.base (lw_ret (Drawn.sameBut.refl s.drawn lw_cs) hx hb hr hlocks dL_law_1685)
set_option maxRecDepth 20000 in
theorem gv_law9_53_X11_owner : GoodIn lw_tbl (wsV RL 53 RX11 yX11_owner v_X11_owner) := goodIn_app (goodIn_r _ [768, 769, 770, 103] (by decide +kernel) (by decide +kernel)) (gi tb_X11_owner gd_X11_owner)
set_option maxRecDepth 20000 in
theorem gv_law9_56_X12_owner : GoodIn lw_tbl (wsV RL 56 RX12 yX12_owner v_X12_owner) := goodIn_app (goodIn_r _ [1707, 1708, 1709, 114] (by decide +kernel) (by decide +kernel)) (gi tb_X12_owner gd_X12_owner)
set_option maxHeartbeats 4000000 in
set_option maxRecDepth 100000 in
theorem law_case_9 {p : Program} {e : Env} {s : State} {m : MethodId} {below : List Frame} {meth : Method} {c : Code} (l : Launch) (G : va_G) (cI cJ cZ cD cR cT : ClassId) {b : Nat} {xs : Nat → Int32} (h0 k0 h0_0 h0_1 h0_2 h0_3 h0_6 h0_7 h0_8 h0_10 h0_11 h0_13 h0_0_0 h0_0_1 h0_0_2 h0_0_3 h0_0_4 h0_0_5 h0_0_8 h0_0_15 h0_0_16 h0_0_1_1 h0_0_1_2 h0_0_1_3 h0_0_1_4 h0_0_1_5 h0_0_1_6 h0_0_1_7 h0_0_1_9 h0_0_1_10 h0_0_1_11 k0_2 k0_3 k0_4 k0_5 k0_9 k0_10 k0_11 k0_20 k0_22 k0_23 k0_25 k0_26 k0_29 k0_30 k0_31 k0_32 k0_39 k0_40 k0_42 k0_44 k0_45 : Nat) {H : Heap} {locs : List Loc} {ls : Array Slot} (hx : p.tables.exec = Jvm.exec) (hb : c.code = code) (hr : meth.sig.returnType = ret) (hml : c.maxLocals = 4) (hown : s.vm.findClass RL = some m.cls) (hts : ∀ w ∈ lw_tbl, w.before #[Value.ref b] s = true) (hX : va_X b 6 xs s s.heap) (hbl : b < s.heap.size) (hlocks : meth.locks = false) (hKK : KK G (tys6 cI cJ cZ cD cR cT) s) (hP : va_P G vwCl [(h0, .inr (11, [.ref h0_0, .ref h0_1, .ref h0_2, .ref h0_3, .int 0, .int 0, .ref h0_6, .ref h0_7, .ref h0_8, .int 0, .ref h0_10, .ref h0_11, .int 0, .ref h0_13, .int 0, .int 0])), (h0_0, .inr (0, [.ref h0_0_0, .ref h0_0_1, .ref h0_0_2, .ref h0_0_3, .ref h0_0_4, .ref h0_0_5, .int 0, .int 0, .ref h0_0_8, .int 0, .int 0, .int 0, .int 0, .long 0, .int 0, .ref h0_0_15, .ref h0_0_16])), (h0_0_1, .inr (1, [.int 0, .ref h0_0_1_1, .ref h0_0_1_2, .ref h0_0_1_3, .ref h0_0_1_4, .ref h0_0_1_5, .ref h0_0_1_6, .ref h0_0_1_7, .int 0, .ref h0_0_1_9, .ref h0_0_1_10, .ref h0_0_1_11, .int (-1), .long 0, .long 0])), (k0, .inr (12, [.int 0, .int 0, .ref k0_2, .ref k0_3, .ref k0_4, .ref k0_5, .int 0, .int 0, .int 0, .ref k0_9, .ref k0_10, .ref k0_11, .int 0, .int 0, .int 0, .int 0, .long 0, .int (-1), .int 0, .int 0, .ref k0_20, .int 0, .ref k0_22, .ref k0_23, .int 0, .ref k0_25, .ref k0_26, .int 0, .int 0, .ref k0_29, .ref k0_30, .ref k0_31, .ref k0_32, .int 0, .long 0, .long 0, .long 0, .long 0, .int 0, .ref k0_39, .ref k0_40, .int 0, .ref k0_42, .int 0, .ref k0_44, .ref k0_45, .int 0, .int 0, .int 0, .int 0, .int 0, .int 0])), (k0_2, .inl (cI, 35942, .inl mrow))] H) (hD : va_D (fun q : Nat => s.heap.size ≤ q) [(h0, .inr (11, [.ref h0_0, .ref h0_1, .ref h0_2, .ref h0_3, .int 0, .int 0, .ref h0_6, .ref h0_7, .ref h0_8, .int 0, .ref h0_10, .ref h0_11, .int 0, .ref h0_13, .int 0, .int 0])), (h0_0, .inr (0, [.ref h0_0_0, .ref h0_0_1, .ref h0_0_2, .ref h0_0_3, .ref h0_0_4, .ref h0_0_5, .int 0, .int 0, .ref h0_0_8, .int 0, .int 0, .int 0, .int 0, .long 0, .int 0, .ref h0_0_15, .ref h0_0_16])), (h0_0_1, .inr (1, [.int 0, .ref h0_0_1_1, .ref h0_0_1_2, .ref h0_0_1_3, .ref h0_0_1_4, .ref h0_0_1_5, .ref h0_0_1_6, .ref h0_0_1_7, .int 0, .ref h0_0_1_9, .ref h0_0_1_10, .ref h0_0_1_11, .int (-1), .long 0, .long 0])), (k0, .inr (12, [.int 0, .int 0, .ref k0_2, .ref k0_3, .ref k0_4, .ref k0_5, .int 0, .int 0, .int 0, .ref k0_9, .ref k0_10, .ref k0_11, .int 0, .int 0, .int 0, .int 0, .long 0, .int (-1), .int 0, .int 0, .ref k0_20, .int 0, .ref k0_22, .ref k0_23, .int 0, .ref k0_25, .ref k0_26, .int 0, .int 0, .ref k0_29, .ref k0_30, .ref k0_31, .ref k0_32, .int 0, .long 0, .long 0, .long 0, .long 0, .int 0, .ref k0_39, .ref k0_40, .int 0, .ref k0_42, .int 0, .ref k0_44, .ref k0_45, .int 0, .int 0, .int 0, .int 0, .int 0, .int 0])), (k0_2, .inl (cI, 35942, .inl mrow))]) (hS : va_S (fun q : Nat => s.heap.size ≤ q) s.heap H locs) (hl : lv_has ls 4 [(3, .int 0), (2, .ref k0), (1, .ref h0), (0, .ref b)]) : W p l e room_1 s m #[Value.ref b] below meth c H locs 221 158368 (lw_Z below #[Value.ref b] s) (F0 m 553 ls []) := by
  have hK := hKK.1
  have hA : ∀ q : Nat, s.heap.size ≤ q → (fun q : Nat => s.heap.size ≤ q) q := fun _ h => h
  have hbA : ¬ (fun q : Nat => s.heap.size ≤ q) b := Nat.not_le.mpr hbl
  refine lv_aload_n hx hb dL_law_553 rfl (lv_at hl 2 rfl) ?_
  refine lv_aload_n hx hb dL_law_554 rfl (lv_at hl 3 rfl) ?_
  refine lv_iload_n hx hb dL_law_555 rfl (lv_at hl 0 rfl) ?_
  refine lv_iconst (v := 1) hx hb dL_law_556 (by decide) ?_
  refine lv_iadd hx hb dL_law_557 ?_
  refine lv_topi (fun x1 ex1 => ?_)
  obtain rfl : 1 = x1 := (ex1.trans (by decide)).symm
  refine va_sld hx hb hX hbl hbA hS (vp_in_iff.mpr (by decide)) dL_law_558 ?_
  refine lv_topi (fun x2 ex2 => ?_)
  obtain rfl : xs 1 = x2 := (ex2.trans rfl).symm
  refine lv_aload_n hx hb dL_law_559 rfl (lv_at hl 3 rfl) ?_
  refine lv_iload_n hx hb dL_law_560 rfl (lv_at hl 0 rfl) ?_
  refine lv_iconst (v := 2) hx hb dL_law_561 (by decide) ?_
  refine lv_iadd hx hb dL_law_562 ?_
  refine lv_topi (fun x3 ex3 => ?_)
  obtain rfl : 2 = x3 := (ex3.trans (by decide)).symm
  refine va_sld hx hb hX hbl hbA hS (vp_in_iff.mpr (by decide)) dL_law_563 ?_
  refine lv_topi (fun x4 ex4 => ?_)
  obtain rfl : xs 2 = x4 := (ex4.trans rfl).symm
  refine goV (As := [.int (xs 1), .int (xs 2)]) (rest := []) (wr := [(k0, .inr (12, [.int 0, .int 0, .ref k0_2, .ref k0_3, .ref k0_4, .ref k0_5, .int 0, .int 0, .int 0, .ref k0_9, .ref k0_10, .ref k0_11, .int 0, .int 0, .int 0, .int 0, .long 0, .int (-1), .int 0, .int 0, .ref k0_20, .int 0, .ref k0_22, .ref k0_23, .int 0, .ref k0_25, .ref k0_26, .int 0, .int 0, .ref k0_29, .ref k0_30, .ref k0_31, .ref k0_32, .int 0, .long 0, .long 0, .long 0, .long 0, .int 0, .ref k0_39, .ref k0_40, .int 0, .ref k0_42, .int 0, .ref k0_44, .ref k0_45, .int 0, .int 0, .int 0, .int 0, .int 0, .int 0])), (k0_2, .inl (cI, 35942, .inl mrow))]) ⟨hx, hb, hml, hown, hts⟩ (c_X11_owner l G cI cJ cZ cD cR cT h0 (xs 1) (xs 2) h0_0 h0_1 h0_2 h0_3 h0_6 h0_7 h0_8 h0_10 h0_11 h0_13 h0_0_0 h0_0_1 h0_0_2 h0_0_3 h0_0_4 h0_0_5 h0_0_8 h0_0_15 h0_0_16 h0_0_1_1 h0_0_1_2 h0_0_1_3 h0_0_1_4 h0_0_1_5 h0_0_1_6 h0_0_1_7 h0_0_1_9 h0_0_1_10 h0_0_1_11 _) (cwV 2 hts gv_law9_53_X11_owner rfl rfl rfl (by decide +kernel) ⟨Nat.le_of_ble_eq_true rfl, Nat.le_of_ble_eq_true rfl⟩) 0 rfl rfl rfl hKK hP hD hS hA [0, 1, 2] [3, 4] rfl rfl (by decide +kernel) (by decide +kernel) (by decide +kernel) rfl hl.1 rfl (lv_room (Nat.le_of_ble_eq_true rfl)) dL_law_564 ⟨Nat.le_of_ble_eq_true rfl, Nat.le_of_ble_eq_true rfl⟩ (fun v6 q5 gq5 H locs hv6 => appW (ws' := [(k0, .inr (12, [.int 0, .int 0, .ref k0_2, .ref k0_3, .ref k0_4, .ref k0_5, .int 0, .int 0, .int 0, .ref k0_9, .ref k0_10, .ref k0_11, .int 0, .int 0, .int 0, .int 0, .long 0, .int (-1), .int 0, .int 0, .ref k0_20, .int 0, .ref k0_22, .ref k0_23, .int 0, .ref k0_25, .ref k0_26, .int 0, .int 0, .ref k0_29, .ref k0_30, .ref k0_31, .ref k0_32, .int 0, .long 0, .long 0, .long 0, .long 0, .int 0, .ref k0_39, .ref k0_40, .int 0, .ref k0_42, .int 0, .ref k0_44, .ref k0_45, .int 0, .int 0, .int 0, .int 0, .int 0, .int 0])), (k0_2, .inl (cI, 35942, .inl mrow))]) rfl (fun hP hD hS => ?_))
  obtain ⟨r7, rfl, hr7⟩ := hv6
  refine lv_aload_n hx hb dL_law_567 rfl (lv_at hl 1 rfl) ?_
  refine lv_aload_n hx hb dL_law_568 rfl (lv_at hl 3 rfl) ?_
  refine lv_iload_n hx hb dL_law_569 rfl (lv_at hl 0 rfl) ?_
  refine lv_iconst (v := 1) hx hb dL_law_570 (by decide) ?_
  refine lv_iadd hx hb dL_law_571 ?_
  refine lv_topi (fun x8 ex8 => ?_)
  obtain rfl : 1 = x8 := (ex8.trans (by decide)).symm
  refine va_sld hx hb hX hbl hbA hS (vp_in_iff.mpr (by decide)) dL_law_572 ?_
  refine lv_topi (fun x9 ex9 => ?_)
  obtain rfl : xs 1 = x9 := (ex9.trans rfl).symm
  refine lv_aload_n hx hb dL_law_573 rfl (lv_at hl 3 rfl) ?_
  refine lv_iload_n hx hb dL_law_574 rfl (lv_at hl 0 rfl) ?_
  refine lv_iconst (v := 2) hx hb dL_law_575 (by decide) ?_
  refine lv_iadd hx hb dL_law_576 ?_
  refine lv_topi (fun x10 ex10 => ?_)
  obtain rfl : 2 = x10 := (ex10.trans (by decide)).symm
  refine va_sld hx hb hX hbl hbA hS (vp_in_iff.mpr (by decide)) dL_law_577 ?_
  refine lv_topi (fun x11 ex11 => ?_)
  obtain rfl : xs 2 = x11 := (ex11.trans rfl).symm
  refine goV (As := [.int (xs 1), .int (xs 2)]) (rest := [.int r7]) (wr := []) ⟨hx, hb, hml, hown, hts⟩ (c_X12_owner l G cI cJ cZ cD cR cT k0 (xs 1) (xs 2) k0_2 k0_3 k0_4 k0_5 k0_9 k0_10 k0_11 k0_20 k0_22 k0_23 k0_25 k0_26 k0_29 k0_30 k0_31 k0_32 k0_39 k0_40 k0_42 k0_44 k0_45 _) (cwV 2 hts gv_law9_56_X12_owner rfl rfl rfl (by decide +kernel) ⟨Nat.le_of_ble_eq_true rfl, Nat.le_of_ble_eq_true rfl⟩) 0 rfl rfl rfl hKK hP hD hS hA [0, 1] [] rfl rfl (by decide +kernel) (by decide +kernel) (by decide +kernel) rfl hl.1 rfl (lv_room (Nat.le_of_ble_eq_true rfl)) dL_law_578 ⟨Nat.le_of_ble_eq_true rfl, Nat.le_of_ble_eq_true rfl⟩ (fun v13 q12 gq12 H locs hv13 => appW (ws' := []) rfl (fun hP hD hS => ?_))
  obtain ⟨r14, rfl, hr14⟩ := hv13
  refine lv_icmp_eq (tgt := 1678) hx hb dL_law_581 (by decide) (fun _ => ?_) (fun c => absurd (hr7.trans hr14.symm) c)
  refine lv_iinc (v := 6) (lv' := [(3, .int 6), (2, .ref k0), (1, .ref h0), (0, .ref b)]) hx hb dL_law_1678 hl (k := 0) rfl (by decide) (by decide) rfl (fun ls hl => ?_)
  refine lv_goto (tgt := 18) hx hb dL_law_1681 (by decide) ?_
  refine lv_iload_n hx hb dL_law_18 rfl (lv_at hl 0 rfl) ?_
  refine lv_aload_n hx hb dL_law_19 rfl (lv_at hl 3 rfl) ?_
  refine va_slen hx hb hX hbl hbA hS dL_law_20 ?_
  refine lv_topi (fun x15 ex15 => ?_)
  obtain rfl : 6 = x15 := (ex15.trans rfl).symm
  refine lv_bipush (v := 6) hx hb dL_law_21 (by decide) ?_
  refine lv_isub hx hb dL_law_23 ?_
  refine lv_topi (fun x16 ex16 => ?_)
  obtain rfl : 0 = x16 := (ex16.trans (by decide)).symm
  refine lv_icmp_gt (tgt := 1684) hx hb dL_law_24 (by decide) (fun _ => ?_) (fun c => absurd c (by decide))
  refine lv_iconst (v := 1) hx hb dL_law_1684 (by decide) ?_
  refine va_forget (fun q h => hS.2.2 q h) ?_
  refine W.widen (k := 600000) (n := 7302250) (Nat.le_of_ble_eq_true rfl) (Nat.le_of_ble_eq_true rfl) ?_
  exact W.base (lw_ret (Drawn.sameBut.refl s.drawn lw_cs) hx hb hr hlocks dL_law_1685)
set_option maxRecDepth 20000 in
theorem gv_law10_57_X11_fund : GoodIn lw_tbl (wsV RL 57 RX11 yX11_fund v_X11_fund) := goodIn_app (goodIn_r _ [772, 773, 774, 103] (by decide +kernel) (by decide +kernel)) (gi tb_X11_fund gd_X11_fund)
set_option maxRecDepth 20000 in
theorem gv_law10_61_X12_fund : GoodIn lw_tbl (wsV RL 61 RX12 yX12_fund v_X12_fund) := goodIn_app (goodIn_r _ [1711, 1712, 1713, 114] (by decide +kernel) (by decide +kernel)) (gi tb_X12_fund gd_X12_fund)
set_option maxHeartbeats 4000000 in
set_option maxRecDepth 100000 in
theorem law_case_10 {p : Program} {e : Env} {s : State} {m : MethodId} {below : List Frame} {meth : Method} {c : Code} (l : Launch) (G : va_G) (cI cJ cZ cD cR cT : ClassId) {b : Nat} {xs : Nat → Int32} (h0 k0 h0_0 h0_1 h0_2 h0_3 h0_6 h0_7 h0_8 h0_10 h0_11 h0_13 h0_0_0 h0_0_1 h0_0_2 h0_0_3 h0_0_4 h0_0_5 h0_0_8 h0_0_15 h0_0_16 h0_0_5_4 h0_0_5_5 k0_2 k0_3 k0_4 k0_5 k0_9 k0_10 k0_11 k0_20 k0_22 k0_23 k0_25 k0_26 k0_29 k0_30 k0_31 k0_32 k0_39 k0_40 k0_42 k0_44 k0_45 : Nat) {H : Heap} {locs : List Loc} {ls : Array Slot} (hx : p.tables.exec = Jvm.exec) (hb : c.code = code) (hr : meth.sig.returnType = ret) (hml : c.maxLocals = 4) (hown : s.vm.findClass RL = some m.cls) (hts : ∀ w ∈ lw_tbl, w.before #[Value.ref b] s = true) (hX : va_X b 6 xs s s.heap) (hbl : b < s.heap.size) (hlocks : meth.locks = false) (hKK : KK G (tys6 cI cJ cZ cD cR cT) s) (hP : va_P G vwCl [(h0, .inr (11, [.ref h0_0, .ref h0_1, .ref h0_2, .ref h0_3, .int 0, .int 0, .ref h0_6, .ref h0_7, .ref h0_8, .int 0, .ref h0_10, .ref h0_11, .int 0, .ref h0_13, .int 0, .int 0])), (h0_0, .inr (0, [.ref h0_0_0, .ref h0_0_1, .ref h0_0_2, .ref h0_0_3, .ref h0_0_4, .ref h0_0_5, .int 0, .int 0, .ref h0_0_8, .int 0, .int 0, .int 0, .int 0, .long 0, .int 0, .ref h0_0_15, .ref h0_0_16])), (h0_0_5, .inr (3, [.int 0, .int 50, .int 0, .int 0, .ref h0_0_5_4, .ref h0_0_5_5])), (k0, .inr (12, [.int 0, .int 0, .ref k0_2, .ref k0_3, .ref k0_4, .ref k0_5, .int 0, .int 0, .int 0, .ref k0_9, .ref k0_10, .ref k0_11, .int 0, .int 0, .int 0, .int 0, .long 0, .int (-1), .int 0, .int 0, .ref k0_20, .int 0, .ref k0_22, .ref k0_23, .int 0, .ref k0_25, .ref k0_26, .int 0, .int 0, .ref k0_29, .ref k0_30, .ref k0_31, .ref k0_32, .int 0, .long 0, .long 0, .long 0, .long 0, .int 0, .ref k0_39, .ref k0_40, .int 0, .ref k0_42, .int 0, .ref k0_44, .ref k0_45, .int 0, .int 0, .int 0, .int 0, .int 0, .int 0])), (k0_2, .inl (cI, 35942, .inl mrow))] H) (hD : va_D (fun q : Nat => s.heap.size ≤ q) [(h0, .inr (11, [.ref h0_0, .ref h0_1, .ref h0_2, .ref h0_3, .int 0, .int 0, .ref h0_6, .ref h0_7, .ref h0_8, .int 0, .ref h0_10, .ref h0_11, .int 0, .ref h0_13, .int 0, .int 0])), (h0_0, .inr (0, [.ref h0_0_0, .ref h0_0_1, .ref h0_0_2, .ref h0_0_3, .ref h0_0_4, .ref h0_0_5, .int 0, .int 0, .ref h0_0_8, .int 0, .int 0, .int 0, .int 0, .long 0, .int 0, .ref h0_0_15, .ref h0_0_16])), (h0_0_5, .inr (3, [.int 0, .int 50, .int 0, .int 0, .ref h0_0_5_4, .ref h0_0_5_5])), (k0, .inr (12, [.int 0, .int 0, .ref k0_2, .ref k0_3, .ref k0_4, .ref k0_5, .int 0, .int 0, .int 0, .ref k0_9, .ref k0_10, .ref k0_11, .int 0, .int 0, .int 0, .int 0, .long 0, .int (-1), .int 0, .int 0, .ref k0_20, .int 0, .ref k0_22, .ref k0_23, .int 0, .ref k0_25, .ref k0_26, .int 0, .int 0, .ref k0_29, .ref k0_30, .ref k0_31, .ref k0_32, .int 0, .long 0, .long 0, .long 0, .long 0, .int 0, .ref k0_39, .ref k0_40, .int 0, .ref k0_42, .int 0, .ref k0_44, .ref k0_45, .int 0, .int 0, .int 0, .int 0, .int 0, .int 0])), (k0_2, .inl (cI, 35942, .inl mrow))]) (hS : va_S (fun q : Nat => s.heap.size ≤ q) s.heap H locs) (hl : lv_has ls 4 [(3, .int 0), (2, .ref k0), (1, .ref h0), (0, .ref b)]) : W p l e room_1 s m #[Value.ref b] below meth c H locs 221 158368 (lw_Z below #[Value.ref b] s) (F0 m 586 ls []) := by
  have hK := hKK.1
  have hA : ∀ q : Nat, s.heap.size ≤ q → (fun q : Nat => s.heap.size ≤ q) q := fun _ h => h
  have hbA : ¬ (fun q : Nat => s.heap.size ≤ q) b := Nat.not_le.mpr hbl
  refine lv_aload_n hx hb dL_law_586 rfl (lv_at hl 2 rfl) ?_
  refine goV (As := []) (rest := []) (wr := [(k0, .inr (12, [.int 0, .int 0, .ref k0_2, .ref k0_3, .ref k0_4, .ref k0_5, .int 0, .int 0, .int 0, .ref k0_9, .ref k0_10, .ref k0_11, .int 0, .int 0, .int 0, .int 0, .long 0, .int (-1), .int 0, .int 0, .ref k0_20, .int 0, .ref k0_22, .ref k0_23, .int 0, .ref k0_25, .ref k0_26, .int 0, .int 0, .ref k0_29, .ref k0_30, .ref k0_31, .ref k0_32, .int 0, .long 0, .long 0, .long 0, .long 0, .int 0, .ref k0_39, .ref k0_40, .int 0, .ref k0_42, .int 0, .ref k0_44, .ref k0_45, .int 0, .int 0, .int 0, .int 0, .int 0, .int 0])), (k0_2, .inl (cI, 35942, .inl mrow))]) ⟨hx, hb, hml, hown, hts⟩ (c_X11_fund l G cI cJ cZ cD cR cT h0 h0_0 h0_1 h0_2 h0_3 h0_6 h0_7 h0_8 h0_10 h0_11 h0_13 h0_0_0 h0_0_1 h0_0_2 h0_0_3 h0_0_4 h0_0_5 h0_0_8 h0_0_15 h0_0_16 h0_0_5_4 h0_0_5_5 _) (cwV 0 hts gv_law10_57_X11_fund rfl rfl rfl (by decide +kernel) ⟨Nat.le_of_ble_eq_true rfl, Nat.le_of_ble_eq_true rfl⟩) 0 rfl rfl rfl hKK hP hD hS hA [0, 1, 2] [3, 4] rfl rfl (by decide +kernel) (by decide +kernel) (by decide +kernel) rfl hl.1 rfl (lv_room (Nat.le_of_ble_eq_true rfl)) dL_law_587 ⟨Nat.le_of_ble_eq_true rfl, Nat.le_of_ble_eq_true rfl⟩ (fun v2 q1 gq1 H locs hv2 => appW (ws' := [(k0, .inr (12, [.int 0, .int 0, .ref k0_2, .ref k0_3, .ref k0_4, .ref k0_5, .int 0, .int 0, .int 0, .ref k0_9, .ref k0_10, .ref k0_11, .int 0, .int 0, .int 0, .int 0, .long 0, .int (-1), .int 0, .int 0, .ref k0_20, .int 0, .ref k0_22, .ref k0_23, .int 0, .ref k0_25, .ref k0_26, .int 0, .int 0, .ref k0_29, .ref k0_30, .ref k0_31, .ref k0_32, .int 0, .long 0, .long 0, .long 0, .long 0, .int 0, .ref k0_39, .ref k0_40, .int 0, .ref k0_42, .int 0, .ref k0_44, .ref k0_45, .int 0, .int 0, .int 0, .int 0, .int 0, .int 0])), (k0_2, .inl (cI, 35942, .inl mrow))]) rfl (fun hP hD hS => ?_))
  obtain ⟨r3, rfl, hr3⟩ := hv2
  refine lv_aload_n hx hb dL_law_590 rfl (lv_at hl 1 rfl) ?_
  refine goV (As := []) (rest := [.int r3]) (wr := []) ⟨hx, hb, hml, hown, hts⟩ (c_X12_fund l G cI cJ cZ cD cR cT k0 k0_2 k0_3 k0_4 k0_5 k0_9 k0_10 k0_11 k0_20 k0_22 k0_23 k0_25 k0_26 k0_29 k0_30 k0_31 k0_32 k0_39 k0_40 k0_42 k0_44 k0_45 _) (cwV 0 hts gv_law10_61_X12_fund rfl rfl rfl (by decide +kernel) ⟨Nat.le_of_ble_eq_true rfl, Nat.le_of_ble_eq_true rfl⟩) 0 rfl rfl rfl hKK hP hD hS hA [0, 1] [] rfl rfl (by decide +kernel) (by decide +kernel) (by decide +kernel) rfl hl.1 rfl (lv_room (Nat.le_of_ble_eq_true rfl)) dL_law_591 ⟨Nat.le_of_ble_eq_true rfl, Nat.le_of_ble_eq_true rfl⟩ (fun v5 q4 gq4 H locs hv5 => appW (ws' := []) rfl (fun hP hD hS => ?_))
  obtain ⟨r6, rfl, hr6⟩ := hv5
  refine lv_icmp_eq (tgt := 1678) hx hb dL_law_594 (by decide) (fun _ => ?_) (fun c => absurd (hr3.trans hr6.symm) c)
  refine lv_iinc (v := 6) (lv' := [(3, .int 6), (2, .ref k0), (1, .ref h0), (0, .ref b)]) hx hb dL_law_1678 hl (k := 0) rfl (by decide) (by decide) rfl (fun ls hl => ?_)
  refine lv_goto (tgt := 18) hx hb dL_law_1681 (by decide) ?_
  refine lv_iload_n hx hb dL_law_18 rfl (lv_at hl 0 rfl) ?_
  refine lv_aload_n hx hb dL_law_19 rfl (lv_at hl 3 rfl) ?_
  refine va_slen hx hb hX hbl hbA hS dL_law_20 ?_
  refine lv_topi (fun x7 ex7 => ?_)
  obtain rfl : 6 = x7 := (ex7.trans rfl).symm
  refine lv_bipush (v := 6) hx hb dL_law_21 (by decide) ?_
  refine lv_isub hx hb dL_law_23 ?_
  refine lv_topi (fun x8 ex8 => ?_)
  obtain rfl : 0 = x8 := (ex8.trans (by decide)).symm
  refine lv_icmp_gt (tgt := 1684) hx hb dL_law_24 (by decide) (fun _ => ?_) (fun c => absurd c (by decide))
  refine lv_iconst (v := 1) hx hb dL_law_1684 (by decide) ?_
  refine va_forget (fun q h => hS.2.2 q h) ?_
  refine W.widen (k := 600000) (n := 7302250) (Nat.le_of_ble_eq_true rfl) (Nat.le_of_ble_eq_true rfl) ?_
  exact W.base (lw_ret (Drawn.sameBut.refl s.drawn lw_cs) hx hb hr hlocks dL_law_1685)
set_option maxRecDepth 20000 in
theorem gv_law11_62_X11_price : GoodIn lw_tbl (wsV RL 62 RX11 yX11_price v_X11_price) := goodIn_app (goodIn_r _ [776, 777, 778, 103] (by decide +kernel) (by decide +kernel)) (gi tb_X11_price gd_X11_price)
set_option maxRecDepth 20000 in
theorem gv_law11_65_X12_price : GoodIn lw_tbl (wsV RL 65 RX12 yX12_price v_X12_price) := goodIn_app (goodIn_r _ [1715, 1716, 1717, 114] (by decide +kernel) (by decide +kernel)) (gi tb_X12_price gd_X12_price)
set_option maxHeartbeats 4000000 in
set_option maxRecDepth 100000 in
theorem law_case_11 {p : Program} {e : Env} {s : State} {m : MethodId} {below : List Frame} {meth : Method} {c : Code} (l : Launch) (G : va_G) (cI cJ cZ cD cR cT : ClassId) {b : Nat} {xs : Nat → Int32} (h0 k0 h0_0 h0_1 h0_2 h0_3 h0_6 h0_7 h0_8 h0_10 h0_11 h0_13 h0_0_0 h0_0_1 h0_0_2 h0_0_3 h0_0_4 h0_0_5 h0_0_8 h0_0_15 h0_0_16 h0_0_3_0 h0_0_3_1 k0_2 k0_3 k0_4 k0_5 k0_9 k0_10 k0_11 k0_20 k0_22 k0_23 k0_25 k0_26 k0_29 k0_30 k0_31 k0_32 k0_39 k0_40 k0_42 k0_44 k0_45 : Nat) {H : Heap} {locs : List Loc} {ls : Array Slot} (hx : p.tables.exec = Jvm.exec) (hb : c.code = code) (hr : meth.sig.returnType = ret) (hml : c.maxLocals = 4) (hown : s.vm.findClass RL = some m.cls) (hts : ∀ w ∈ lw_tbl, w.before #[Value.ref b] s = true) (hX : va_X b 6 xs s s.heap) (hbl : b < s.heap.size) (hlocks : meth.locks = false) (hKK : KK G (tys6 cI cJ cZ cD cR cT) s) (hP : va_P G vwCl [(h0, .inr (11, [.ref h0_0, .ref h0_1, .ref h0_2, .ref h0_3, .int 0, .int 0, .ref h0_6, .ref h0_7, .ref h0_8, .int 0, .ref h0_10, .ref h0_11, .int 0, .ref h0_13, .int 0, .int 0])), (h0_0, .inr (0, [.ref h0_0_0, .ref h0_0_1, .ref h0_0_2, .ref h0_0_3, .ref h0_0_4, .ref h0_0_5, .int 0, .int 0, .ref h0_0_8, .int 0, .int 0, .int 0, .int 0, .long 0, .int 0, .ref h0_0_15, .ref h0_0_16])), (h0_0_3, .inr (7, [.ref h0_0_3_0, .ref h0_0_3_1])), (h0_0_3_0, .inl (cI, 400, .inl (fillU (fun _ => 0) (-1) 400))), (k0, .inr (12, [.int 0, .int 0, .ref k0_2, .ref k0_3, .ref k0_4, .ref k0_5, .int 0, .int 0, .int 0, .ref k0_9, .ref k0_10, .ref k0_11, .int 0, .int 0, .int 0, .int 0, .long 0, .int (-1), .int 0, .int 0, .ref k0_20, .int 0, .ref k0_22, .ref k0_23, .int 0, .ref k0_25, .ref k0_26, .int 0, .int 0, .ref k0_29, .ref k0_30, .ref k0_31, .ref k0_32, .int 0, .long 0, .long 0, .long 0, .long 0, .int 0, .ref k0_39, .ref k0_40, .int 0, .ref k0_42, .int 0, .ref k0_44, .ref k0_45, .int 0, .int 0, .int 0, .int 0, .int 0, .int 0])), (k0_2, .inl (cI, 35942, .inl mrow))] H) (hD : va_D (fun q : Nat => s.heap.size ≤ q) [(h0, .inr (11, [.ref h0_0, .ref h0_1, .ref h0_2, .ref h0_3, .int 0, .int 0, .ref h0_6, .ref h0_7, .ref h0_8, .int 0, .ref h0_10, .ref h0_11, .int 0, .ref h0_13, .int 0, .int 0])), (h0_0, .inr (0, [.ref h0_0_0, .ref h0_0_1, .ref h0_0_2, .ref h0_0_3, .ref h0_0_4, .ref h0_0_5, .int 0, .int 0, .ref h0_0_8, .int 0, .int 0, .int 0, .int 0, .long 0, .int 0, .ref h0_0_15, .ref h0_0_16])), (h0_0_3, .inr (7, [.ref h0_0_3_0, .ref h0_0_3_1])), (h0_0_3_0, .inl (cI, 400, .inl (fillU (fun _ => 0) (-1) 400))), (k0, .inr (12, [.int 0, .int 0, .ref k0_2, .ref k0_3, .ref k0_4, .ref k0_5, .int 0, .int 0, .int 0, .ref k0_9, .ref k0_10, .ref k0_11, .int 0, .int 0, .int 0, .int 0, .long 0, .int (-1), .int 0, .int 0, .ref k0_20, .int 0, .ref k0_22, .ref k0_23, .int 0, .ref k0_25, .ref k0_26, .int 0, .int 0, .ref k0_29, .ref k0_30, .ref k0_31, .ref k0_32, .int 0, .long 0, .long 0, .long 0, .long 0, .int 0, .ref k0_39, .ref k0_40, .int 0, .ref k0_42, .int 0, .ref k0_44, .ref k0_45, .int 0, .int 0, .int 0, .int 0, .int 0, .int 0])), (k0_2, .inl (cI, 35942, .inl mrow))]) (hS : va_S (fun q : Nat => s.heap.size ≤ q) s.heap H locs) (hl : lv_has ls 4 [(3, .int 0), (2, .ref k0), (1, .ref h0), (0, .ref b)]) : W p l e room_1 s m #[Value.ref b] below meth c H locs 221 158368 (lw_Z below #[Value.ref b] s) (F0 m 599 ls []) := by
  have hK := hKK.1
  have hA : ∀ q : Nat, s.heap.size ≤ q → (fun q : Nat => s.heap.size ≤ q) q := fun _ h => h
  have hbA : ¬ (fun q : Nat => s.heap.size ≤ q) b := Nat.not_le.mpr hbl
  refine lv_aload_n hx hb dL_law_599 rfl (lv_at hl 2 rfl) ?_
  refine lv_aload_n hx hb dL_law_600 rfl (lv_at hl 3 rfl) ?_
  refine lv_iload_n hx hb dL_law_601 rfl (lv_at hl 0 rfl) ?_
  refine lv_iconst (v := 1) hx hb dL_law_602 (by decide) ?_
  refine lv_iadd hx hb dL_law_603 ?_
  refine lv_topi (fun x1 ex1 => ?_)
  obtain rfl : 1 = x1 := (ex1.trans (by decide)).symm
  refine va_sld hx hb hX hbl hbA hS (vp_in_iff.mpr (by decide)) dL_law_604 ?_
  refine lv_topi (fun x2 ex2 => ?_)
  obtain rfl : xs 1 = x2 := (ex2.trans rfl).symm
  refine lv_aload_n hx hb dL_law_605 rfl (lv_at hl 3 rfl) ?_
  refine lv_iload_n hx hb dL_law_606 rfl (lv_at hl 0 rfl) ?_
  refine lv_iconst (v := 2) hx hb dL_law_607 (by decide) ?_
  refine lv_iadd hx hb dL_law_608 ?_
  refine lv_topi (fun x3 ex3 => ?_)
  obtain rfl : 2 = x3 := (ex3.trans (by decide)).symm
  refine va_sld hx hb hX hbl hbA hS (vp_in_iff.mpr (by decide)) dL_law_609 ?_
  refine lv_topi (fun x4 ex4 => ?_)
  obtain rfl : xs 2 = x4 := (ex4.trans rfl).symm
  refine goV (As := [.int (xs 1), .int (xs 2)]) (rest := []) (wr := [(k0, .inr (12, [.int 0, .int 0, .ref k0_2, .ref k0_3, .ref k0_4, .ref k0_5, .int 0, .int 0, .int 0, .ref k0_9, .ref k0_10, .ref k0_11, .int 0, .int 0, .int 0, .int 0, .long 0, .int (-1), .int 0, .int 0, .ref k0_20, .int 0, .ref k0_22, .ref k0_23, .int 0, .ref k0_25, .ref k0_26, .int 0, .int 0, .ref k0_29, .ref k0_30, .ref k0_31, .ref k0_32, .int 0, .long 0, .long 0, .long 0, .long 0, .int 0, .ref k0_39, .ref k0_40, .int 0, .ref k0_42, .int 0, .ref k0_44, .ref k0_45, .int 0, .int 0, .int 0, .int 0, .int 0, .int 0])), (k0_2, .inl (cI, 35942, .inl mrow))]) ⟨hx, hb, hml, hown, hts⟩ (c_X11_price l G cI cJ cZ cD cR cT h0 (xs 1) (xs 2) h0_0 h0_1 h0_2 h0_3 h0_6 h0_7 h0_8 h0_10 h0_11 h0_13 h0_0_0 h0_0_1 h0_0_2 h0_0_3 h0_0_4 h0_0_5 h0_0_8 h0_0_15 h0_0_16 h0_0_3_0 h0_0_3_1 _) (cwV 2 hts gv_law11_62_X11_price rfl rfl rfl (by decide +kernel) ⟨Nat.le_of_ble_eq_true rfl, Nat.le_of_ble_eq_true rfl⟩) 0 rfl rfl rfl hKK hP hD hS hA [0, 1, 2, 3] [4, 5] rfl rfl (by decide +kernel) (by decide +kernel) (by decide +kernel) rfl hl.1 rfl (lv_room (Nat.le_of_ble_eq_true rfl)) dL_law_610 ⟨Nat.le_of_ble_eq_true rfl, Nat.le_of_ble_eq_true rfl⟩ (fun v6 q5 gq5 H locs hv6 => appW (ws' := [(k0, .inr (12, [.int 0, .int 0, .ref k0_2, .ref k0_3, .ref k0_4, .ref k0_5, .int 0, .int 0, .int 0, .ref k0_9, .ref k0_10, .ref k0_11, .int 0, .int 0, .int 0, .int 0, .long 0, .int (-1), .int 0, .int 0, .ref k0_20, .int 0, .ref k0_22, .ref k0_23, .int 0, .ref k0_25, .ref k0_26, .int 0, .int 0, .ref k0_29, .ref k0_30, .ref k0_31, .ref k0_32, .int 0, .long 0, .long 0, .long 0, .long 0, .int 0, .ref k0_39, .ref k0_40, .int 0, .ref k0_42, .int 0, .ref k0_44, .ref k0_45, .int 0, .int 0, .int 0, .int 0, .int 0, .int 0])), (k0_2, .inl (cI, 35942, .inl mrow))]) rfl (fun hP hD hS => ?_))
  obtain ⟨r7, rfl, hr7⟩ := hv6
  refine lv_aload_n hx hb dL_law_613 rfl (lv_at hl 1 rfl) ?_
  refine lv_aload_n hx hb dL_law_614 rfl (lv_at hl 3 rfl) ?_
  refine lv_iload_n hx hb dL_law_615 rfl (lv_at hl 0 rfl) ?_
  refine lv_iconst (v := 1) hx hb dL_law_616 (by decide) ?_
  refine lv_iadd hx hb dL_law_617 ?_
  refine lv_topi (fun x8 ex8 => ?_)
  obtain rfl : 1 = x8 := (ex8.trans (by decide)).symm
  refine va_sld hx hb hX hbl hbA hS (vp_in_iff.mpr (by decide)) dL_law_618 ?_
  refine lv_topi (fun x9 ex9 => ?_)
  obtain rfl : xs 1 = x9 := (ex9.trans rfl).symm
  refine lv_aload_n hx hb dL_law_619 rfl (lv_at hl 3 rfl) ?_
  refine lv_iload_n hx hb dL_law_620 rfl (lv_at hl 0 rfl) ?_
  refine lv_iconst (v := 2) hx hb dL_law_621 (by decide) ?_
  refine lv_iadd hx hb dL_law_622 ?_
  refine lv_topi (fun x10 ex10 => ?_)
  obtain rfl : 2 = x10 := (ex10.trans (by decide)).symm
  refine va_sld hx hb hX hbl hbA hS (vp_in_iff.mpr (by decide)) dL_law_623 ?_
  refine lv_topi (fun x11 ex11 => ?_)
  obtain rfl : xs 2 = x11 := (ex11.trans rfl).symm
  refine goV (As := [.int (xs 1), .int (xs 2)]) (rest := [.int r7]) (wr := []) ⟨hx, hb, hml, hown, hts⟩ (c_X12_price l G cI cJ cZ cD cR cT k0 (xs 1) (xs 2) k0_2 k0_3 k0_4 k0_5 k0_9 k0_10 k0_11 k0_20 k0_22 k0_23 k0_25 k0_26 k0_29 k0_30 k0_31 k0_32 k0_39 k0_40 k0_42 k0_44 k0_45 _) (cwV 2 hts gv_law11_65_X12_price rfl rfl rfl (by decide +kernel) ⟨Nat.le_of_ble_eq_true rfl, Nat.le_of_ble_eq_true rfl⟩) 0 rfl rfl rfl hKK hP hD hS hA [0, 1] [] rfl rfl (by decide +kernel) (by decide +kernel) (by decide +kernel) rfl hl.1 rfl (lv_room (Nat.le_of_ble_eq_true rfl)) dL_law_624 ⟨Nat.le_of_ble_eq_true rfl, Nat.le_of_ble_eq_true rfl⟩ (fun v13 q12 gq12 H locs hv13 => appW (ws' := []) rfl (fun hP hD hS => ?_))
  obtain ⟨r14, rfl, hr14⟩ := hv13
  refine lv_icmp_eq (tgt := 1678) hx hb dL_law_627 (by decide) (fun _ => ?_) (fun c => absurd (hr7.trans hr14.symm) c)
  refine lv_iinc (v := 6) (lv' := [(3, .int 6), (2, .ref k0), (1, .ref h0), (0, .ref b)]) hx hb dL_law_1678 hl (k := 0) rfl (by decide) (by decide) rfl (fun ls hl => ?_)
  refine lv_goto (tgt := 18) hx hb dL_law_1681 (by decide) ?_
  refine lv_iload_n hx hb dL_law_18 rfl (lv_at hl 0 rfl) ?_
  refine lv_aload_n hx hb dL_law_19 rfl (lv_at hl 3 rfl) ?_
  refine va_slen hx hb hX hbl hbA hS dL_law_20 ?_
  refine lv_topi (fun x15 ex15 => ?_)
  obtain rfl : 6 = x15 := (ex15.trans rfl).symm
  refine lv_bipush (v := 6) hx hb dL_law_21 (by decide) ?_
  refine lv_isub hx hb dL_law_23 ?_
  refine lv_topi (fun x16 ex16 => ?_)
  obtain rfl : 0 = x16 := (ex16.trans (by decide)).symm
  refine lv_icmp_gt (tgt := 1684) hx hb dL_law_24 (by decide) (fun _ => ?_) (fun c => absurd c (by decide))
  refine lv_iconst (v := 1) hx hb dL_law_1684 (by decide) ?_
  refine va_forget (fun q h => hS.2.2 q h) ?_
  refine W.widen (k := 600000) (n := 7302250) (Nat.le_of_ble_eq_true rfl) (Nat.le_of_ble_eq_true rfl) ?_
  exact W.base (lw_ret (Drawn.sameBut.refl s.drawn lw_cs) hx hb hr hlocks dL_law_1685)
