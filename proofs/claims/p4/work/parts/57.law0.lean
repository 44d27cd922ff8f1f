
theorem dL_law_236 : decode cL_law 236 = .ok (.aload_n 1, 1) := by decide +kernel
theorem dL_law_237 : decode cL_law 237 = .ok (.aload_n 0, 1) := by decide +kernel
theorem dL_law_238 : decode cL_law 238 = .ok (.iload_n 3, 1) := by decide +kernel
theorem dL_law_239 : decode cL_law 239 = .ok (.iconst 1, 1) := by decide +kernel
theorem dL_law_240 : decode cL_law 240 = .ok (.iadd, 1) := by decide +kernel
theorem dL_law_241 : decode cL_law 241 = .ok (.iaload, 1) := by decide +kernel
theorem dL_law_242 : decode cL_law 242 = .ok (.aload_n 0, 1) := by decide +kernel
theorem dL_law_243 : decode cL_law 243 = .ok (.iload_n 3, 1) := by decide +kernel
theorem dL_law_244 : decode cL_law 244 = .ok (.iconst 2, 1) := by decide +kernel
theorem dL_law_245 : decode cL_law 245 = .ok (.iadd, 1) := by decide +kernel
theorem dL_law_246 : decode cL_law 246 = .ok (.iaload, 1) := by decide +kernel
theorem dL_law_247 : decode cL_law 247 = .ok (.aload_n 0, 1) := by decide +kernel
theorem dL_law_248 : decode cL_law 248 = .ok (.iload_n 3, 1) := by decide +kernel
theorem dL_law_249 : decode cL_law 249 = .ok (.iconst 3, 1) := by decide +kernel
theorem dL_law_250 : decode cL_law 250 = .ok (.iadd, 1) := by decide +kernel
theorem dL_law_251 : decode cL_law 251 = .ok (.iaload, 1) := by decide +kernel
theorem dL_law_252 : decode cL_law 252 = .ok (.invokevirtual 13, 3) := by decide +kernel
theorem dL_law_255 : decode cL_law 255 = .ok (.pop, 1) := by decide +kernel
theorem dL_law_256 : decode cL_law 256 = .ok (.aload_n 2, 1) := by decide +kernel
theorem dL_law_257 : decode cL_law 257 = .ok (.aload_n 0, 1) := by decide +kernel
theorem dL_law_258 : decode cL_law 258 = .ok (.iload_n 3, 1) := by decide +kernel
theorem dL_law_259 : decode cL_law 259 = .ok (.iconst 1, 1) := by decide +kernel
theorem dL_law_260 : decode cL_law 260 = .ok (.iadd, 1) := by decide +kernel
theorem dL_law_261 : decode cL_law 261 = .ok (.iaload, 1) := by decide +kernel
theorem dL_law_262 : decode cL_law 262 = .ok (.aload_n 0, 1) := by decide +kernel
theorem dL_law_263 : decode cL_law 263 = .ok (.iload_n 3, 1) := by decide +kernel
theorem dL_law_264 : decode cL_law 264 = .ok (.iconst 2, 1) := by decide +kernel
theorem dL_law_265 : decode cL_law 265 = .ok (.iadd, 1) := by decide +kernel
theorem dL_law_266 : decode cL_law 266 = .ok (.iaload, 1) := by decide +kernel
theorem dL_law_267 : decode cL_law 267 = .ok (.aload_n 0, 1) := by decide +kernel
theorem dL_law_268 : decode cL_law 268 = .ok (.iload_n 3, 1) := by decide +kernel
theorem dL_law_269 : decode cL_law 269 = .ok (.iconst 3, 1) := by decide +kernel
theorem dL_law_270 : decode cL_law 270 = .ok (.iadd, 1) := by decide +kernel
theorem dL_law_271 : decode cL_law 271 = .ok (.iaload, 1) := by decide +kernel
theorem dL_law_272 : decode cL_law 272 = .ok (.invokevirtual 17, 3) := by decide +kernel
theorem dL_law_275 : decode cL_law 275 = .ok (.pop, 1) := by decide +kernel
theorem dL_law_276 : decode cL_law 276 = .ok (.goto 1401, 3) := by decide +kernel
theorem dL_law_279 : decode cL_law 279 = .ok (.aload_n 1, 1) := by decide +kernel
theorem dL_law_280 : decode cL_law 280 = .ok (.aload_n 0, 1) := by decide +kernel
theorem dL_law_281 : decode cL_law 281 = .ok (.iload_n 3, 1) := by decide +kernel
theorem dL_law_282 : decode cL_law 282 = .ok (.iconst 1, 1) := by decide +kernel
theorem dL_law_283 : decode cL_law 283 = .ok (.iadd, 1) := by decide +kernel
theorem dL_law_284 : decode cL_law 284 = .ok (.iaload, 1) := by decide +kernel
theorem dL_law_285 : decode cL_law 285 = .ok (.aload_n 0, 1) := by decide +kernel
theorem dL_law_286 : decode cL_law 286 = .ok (.iload_n 3, 1) := by decide +kernel
theorem dL_law_287 : decode cL_law 287 = .ok (.iconst 2, 1) := by decide +kernel
theorem dL_law_288 : decode cL_law 288 = .ok (.iadd, 1) := by decide +kernel
theorem dL_law_289 : decode cL_law 289 = .ok (.iaload, 1) := by decide +kernel
theorem dL_law_290 : decode cL_law 290 = .ok (.invokevirtual 18, 3) := by decide +kernel
theorem dL_law_293 : decode cL_law 293 = .ok (.pop, 1) := by decide +kernel
theorem dL_law_294 : decode cL_law 294 = .ok (.aload_n 2, 1) := by decide +kernel
theorem dL_law_295 : decode cL_law 295 = .ok (.aload_n 0, 1) := by decide +kernel
theorem dL_law_296 : decode cL_law 296 = .ok (.iload_n 3, 1) := by decide +kernel
theorem dL_law_297 : decode cL_law 297 = .ok (.iconst 1, 1) := by decide +kernel
theorem dL_law_298 : decode cL_law 298 = .ok (.iadd, 1) := by decide +kernel
theorem dL_law_299 : decode cL_law 299 = .ok (.iaload, 1) := by decide +kernel
theorem dL_law_300 : decode cL_law 300 = .ok (.aload_n 0, 1) := by decide +kernel
theorem dL_law_301 : decode cL_law 301 = .ok (.iload_n 3, 1) := by decide +kernel
theorem dL_law_302 : decode cL_law 302 = .ok (.iconst 2, 1) := by decide +kernel
theorem dL_law_303 : decode cL_law 303 = .ok (.iadd, 1) := by decide +kernel
theorem dL_law_304 : decode cL_law 304 = .ok (.iaload, 1) := by decide +kernel
theorem dL_law_305 : decode cL_law 305 = .ok (.invokevirtual 22, 3) := by decide +kernel
theorem dL_law_308 : decode cL_law 308 = .ok (.pop, 1) := by decide +kernel
theorem dL_law_309 : decode cL_law 309 = .ok (.goto 1368, 3) := by decide +kernel
theorem dL_law_312 : decode cL_law 312 = .ok (.aload_n 1, 1) := by decide +kernel
theorem dL_law_313 : decode cL_law 313 = .ok (.aload_n 0, 1) := by decide +kernel
theorem dL_law_314 : decode cL_law 314 = .ok (.iload_n 3, 1) := by decide +kernel
theorem dL_law_315 : decode cL_law 315 = .ok (.iconst 1, 1) := by decide +kernel
theorem dL_law_316 : decode cL_law 316 = .ok (.iadd, 1) := by decide +kernel
theorem dL_law_317 : decode cL_law 317 = .ok (.iaload, 1) := by decide +kernel
theorem dL_law_318 : decode cL_law 318 = .ok (.aload_n 0, 1) := by decide +kernel
theorem dL_law_319 : decode cL_law 319 = .ok (.iload_n 3, 1) := by decide +kernel
theorem dL_law_320 : decode cL_law 320 = .ok (.iconst 2, 1) := by decide +kernel
theorem dL_law_321 : decode cL_law 321 = .ok (.iadd, 1) := by decide +kernel
theorem dL_law_322 : decode cL_law 322 = .ok (.iaload, 1) := by decide +kernel
theorem dL_law_323 : decode cL_law 323 = .ok (.invokevirtual 23, 3) := by decide +kernel
theorem dL_law_326 : decode cL_law 326 = .ok (.aload_n 2, 1) := by decide +kernel
theorem dL_law_327 : decode cL_law 327 = .ok (.aload_n 0, 1) := by decide +kernel
theorem dL_law_328 : decode cL_law 328 = .ok (.iload_n 3, 1) := by decide +kernel
theorem dL_law_329 : decode cL_law 329 = .ok (.iconst 1, 1) := by decide +kernel
theorem dL_law_330 : decode cL_law 330 = .ok (.iadd, 1) := by decide +kernel
theorem dL_law_331 : decode cL_law 331 = .ok (.iaload, 1) := by decide +kernel
theorem dL_law_332 : decode cL_law 332 = .ok (.aload_n 0, 1) := by decide +kernel
theorem dL_law_333 : decode cL_law 333 = .ok (.iload_n 3, 1) := by decide +kernel
theorem dL_law_334 : decode cL_law 334 = .ok (.iconst 2, 1) := by decide +kernel
theorem dL_law_335 : decode cL_law 335 = .ok (.iadd, 1) := by decide +kernel
theorem dL_law_336 : decode cL_law 336 = .ok (.iaload, 1) := by decide +kernel
theorem dL_law_337 : decode cL_law 337 = .ok (.invokevirtual 26, 3) := by decide +kernel
theorem dL_law_340 : decode cL_law 340 = .ok (.if_icmp .eq 1337, 3) := by decide +kernel
theorem dL_law_345 : decode cL_law 345 = .ok (.aload_n 1, 1) := by decide +kernel
theorem dL_law_346 : decode cL_law 346 = .ok (.aload_n 0, 1) := by decide +kernel
theorem dL_law_347 : decode cL_law 347 = .ok (.iload_n 3, 1) := by decide +kernel
theorem dL_law_348 : decode cL_law 348 = .ok (.iconst 1, 1) := by decide +kernel
theorem dL_law_349 : decode cL_law 349 = .ok (.iadd, 1) := by decide +kernel
theorem dL_law_350 : decode cL_law 350 = .ok (.iaload, 1) := by decide +kernel
theorem dL_law_351 : decode cL_law 351 = .ok (.aload_n 0, 1) := by decide +kernel
theorem dL_law_352 : decode cL_law 352 = .ok (.iload_n 3, 1) := by decide +kernel
theorem dL_law_353 : decode cL_law 353 = .ok (.iconst 2, 1) := by decide +kernel
theorem dL_law_354 : decode cL_law 354 = .ok (.iadd, 1) := by decide +kernel
theorem dL_law_355 : decode cL_law 355 = .ok (.iaload, 1) := by decide +kernel
theorem dL_law_356 : decode cL_law 356 = .ok (.invokevirtual 27, 3) := by decide +kernel
theorem dL_law_359 : decode cL_law 359 = .ok (.pop, 1) := by decide +kernel
theorem dL_law_360 : decode cL_law 360 = .ok (.aload_n 2, 1) := by decide +kernel
theorem dL_law_361 : decode cL_law 361 = .ok (.aload_n 0, 1) := by decide +kernel
theorem dL_law_362 : decode cL_law 362 = .ok (.iload_n 3, 1) := by decide +kernel
theorem dL_law_363 : decode cL_law 363 = .ok (.iconst 1, 1) := by decide +kernel
theorem dL_law_364 : decode cL_law 364 = .ok (.iadd, 1) := by decide +kernel
theorem dL_law_365 : decode cL_law 365 = .ok (.iaload, 1) := by decide +kernel
theorem dL_law_366 : decode cL_law 366 = .ok (.aload_n 0, 1) := by decide +kernel
theorem dL_law_367 : decode cL_law 367 = .ok (.iload_n 3, 1) := by decide +kernel
theorem dL_law_368 : decode cL_law 368 = .ok (.iconst 2, 1) := by decide +kernel
theorem dL_law_369 : decode cL_law 369 = .ok (.iadd, 1) := by decide +kernel
theorem dL_law_370 : decode cL_law 370 = .ok (.iaload, 1) := by decide +kernel
theorem dL_law_371 : decode cL_law 371 = .ok (.invokevirtual 30, 3) := by decide +kernel
theorem dL_law_374 : decode cL_law 374 = .ok (.pop, 1) := by decide +kernel
theorem dL_law_375 : decode cL_law 375 = .ok (.goto 1302, 3) := by decide +kernel
theorem dL_law_378 : decode cL_law 378 = .ok (.aload_n 1, 1) := by decide +kernel
theorem dL_law_379 : decode cL_law 379 = .ok (.aload_n 0, 1) := by decide +kernel
theorem dL_law_380 : decode cL_law 380 = .ok (.iload_n 3, 1) := by decide +kernel
theorem dL_law_381 : decode cL_law 381 = .ok (.iconst 1, 1) := by decide +kernel
theorem dL_law_382 : decode cL_law 382 = .ok (.iadd, 1) := by decide +kernel
theorem dL_law_383 : decode cL_law 383 = .ok (.iaload, 1) := by decide +kernel
theorem dL_law_384 : decode cL_law 384 = .ok (.invokevirtual 31, 3) := by decide +kernel
theorem dL_law_387 : decode cL_law 387 = .ok (.pop, 1) := by decide +kernel
theorem dL_law_388 : decode cL_law 388 = .ok (.aload_n 2, 1) := by decide +kernel
theorem dL_law_389 : decode cL_law 389 = .ok (.aload_n 0, 1) := by decide +kernel
theorem dL_law_390 : decode cL_law 390 = .ok (.iload_n 3, 1) := by decide +kernel
theorem dL_law_391 : decode cL_law 391 = .ok (.iconst 1, 1) := by decide +kernel
theorem dL_law_392 : decode cL_law 392 = .ok (.iadd, 1) := by decide +kernel
theorem dL_law_393 : decode cL_law 393 = .ok (.iaload, 1) := by decide +kernel
theorem dL_law_394 : decode cL_law 394 = .ok (.invokevirtual 35, 3) := by decide +kernel
theorem dL_law_397 : decode cL_law 397 = .ok (.pop, 1) := by decide +kernel
theorem dL_law_398 : decode cL_law 398 = .ok (.goto 1279, 3) := by decide +kernel
theorem dL_law_401 : decode cL_law 401 = .ok (.aload_n 1, 1) := by decide +kernel
theorem dL_law_402 : decode cL_law 402 = .ok (.aload_n 0, 1) := by decide +kernel
theorem dL_law_403 : decode cL_law 403 = .ok (.iload_n 3, 1) := by decide +kernel
theorem dL_law_404 : decode cL_law 404 = .ok (.iconst 1, 1) := by decide +kernel
theorem dL_law_405 : decode cL_law 405 = .ok (.iadd, 1) := by decide +kernel
theorem dL_law_406 : decode cL_law 406 = .ok (.iaload, 1) := by decide +kernel
theorem dL_law_407 : decode cL_law 407 = .ok (.aload_n 0, 1) := by decide +kernel
theorem dL_law_408 : decode cL_law 408 = .ok (.iload_n 3, 1) := by decide +kernel
theorem dL_law_409 : decode cL_law 409 = .ok (.iconst 2, 1) := by decide +kernel
theorem dL_law_410 : decode cL_law 410 = .ok (.iadd, 1) := by decide +kernel
theorem dL_law_411 : decode cL_law 411 = .ok (.iaload, 1) := by decide +kernel
theorem dL_law_412 : decode cL_law 412 = .ok (.invokevirtual 36, 3) := by decide +kernel
theorem dL_law_415 : decode cL_law 415 = .ok (.pop, 1) := by decide +kernel
theorem dL_law_416 : decode cL_law 416 = .ok (.aload_n 2, 1) := by decide +kernel
theorem dL_law_417 : decode cL_law 417 = .ok (.aload_n 0, 1) := by decide +kernel
theorem dL_law_418 : decode cL_law 418 = .ok (.iload_n 3, 1) := by decide +kernel
theorem dL_law_419 : decode cL_law 419 = .ok (.iconst 1, 1) := by decide +kernel
theorem dL_law_420 : decode cL_law 420 = .ok (.iadd, 1) := by decide +kernel
theorem dL_law_421 : decode cL_law 421 = .ok (.iaload, 1) := by decide +kernel
theorem dL_law_422 : decode cL_law 422 = .ok (.aload_n 0, 1) := by decide +kernel
theorem dL_law_423 : decode cL_law 423 = .ok (.iload_n 3, 1) := by decide +kernel
theorem dL_law_424 : decode cL_law 424 = .ok (.iconst 2, 1) := by decide +kernel
theorem dL_law_425 : decode cL_law 425 = .ok (.iadd, 1) := by decide +kernel
theorem dL_law_426 : decode cL_law 426 = .ok (.iaload, 1) := by decide +kernel
theorem dL_law_427 : decode cL_law 427 = .ok (.invokevirtual 39, 3) := by decide +kernel
theorem dL_law_430 : decode cL_law 430 = .ok (.pop, 1) := by decide +kernel
theorem dL_law_431 : decode cL_law 431 = .ok (.goto 1246, 3) := by decide +kernel
theorem dL_law_434 : decode cL_law 434 = .ok (.aload_n 1, 1) := by decide +kernel
theorem dL_law_435 : decode cL_law 435 = .ok (.aload_n 0, 1) := by decide +kernel
theorem dL_law_436 : decode cL_law 436 = .ok (.iload_n 3, 1) := by decide +kernel
theorem dL_law_437 : decode cL_law 437 = .ok (.iconst 1, 1) := by decide +kernel
theorem dL_law_438 : decode cL_law 438 = .ok (.iadd, 1) := by decide +kernel
theorem dL_law_439 : decode cL_law 439 = .ok (.iaload, 1) := by decide +kernel
theorem dL_law_440 : decode cL_law 440 = .ok (.aload_n 0, 1) := by decide +kernel
theorem dL_law_441 : decode cL_law 441 = .ok (.iload_n 3, 1) := by decide +kernel
theorem dL_law_442 : decode cL_law 442 = .ok (.iconst 2, 1) := by decide +kernel
theorem dL_law_443 : decode cL_law 443 = .ok (.iadd, 1) := by decide +kernel
theorem dL_law_444 : decode cL_law 444 = .ok (.iaload, 1) := by decide +kernel
theorem dL_law_445 : decode cL_law 445 = .ok (.aload_n 0, 1) := by decide +kernel
theorem dL_law_446 : decode cL_law 446 = .ok (.iload_n 3, 1) := by decide +kernel
theorem dL_law_447 : decode cL_law 447 = .ok (.iconst 3, 1) := by decide +kernel
theorem dL_law_448 : decode cL_law 448 = .ok (.iadd, 1) := by decide +kernel
theorem dL_law_449 : decode cL_law 449 = .ok (.iaload, 1) := by decide +kernel
theorem dL_law_450 : decode cL_law 450 = .ok (.aload_n 0, 1) := by decide +kernel
theorem dL_law_451 : decode cL_law 451 = .ok (.iload_n 3, 1) := by decide +kernel
theorem dL_law_452 : decode cL_law 452 = .ok (.iconst 4, 1) := by decide +kernel
theorem dL_law_453 : decode cL_law 453 = .ok (.iadd, 1) := by decide +kernel
theorem dL_law_454 : decode cL_law 454 = .ok (.iaload, 1) := by decide +kernel
theorem dL_law_455 : decode cL_law 455 = .ok (.invokevirtual 40, 3) := by decide +kernel
theorem dL_law_458 : decode cL_law 458 = .ok (.pop, 1) := by decide +kernel
theorem dL_law_459 : decode cL_law 459 = .ok (.aload_n 2, 1) := by decide +kernel
theorem dL_law_460 : decode cL_law 460 = .ok (.aload_n 0, 1) := by decide +kernel
theorem dL_law_461 : decode cL_law 461 = .ok (.iload_n 3, 1) := by decide +kernel
theorem dL_law_462 : decode cL_law 462 = .ok (.iconst 1, 1) := by decide +kernel
theorem dL_law_463 : decode cL_law 463 = .ok (.iadd, 1) := by decide +kernel
theorem dL_law_464 : decode cL_law 464 = .ok (.iaload, 1) := by decide +kernel
theorem dL_law_465 : decode cL_law 465 = .ok (.aload_n 0, 1) := by decide +kernel
theorem dL_law_466 : decode cL_law 466 = .ok (.iload_n 3, 1) := by decide +kernel
theorem dL_law_467 : decode cL_law 467 = .ok (.iconst 2, 1) := by decide +kernel
theorem dL_law_468 : decode cL_law 468 = .ok (.iadd, 1) := by decide +kernel
theorem dL_law_469 : decode cL_law 469 = .ok (.iaload, 1) := by decide +kernel
theorem dL_law_470 : decode cL_law 470 = .ok (.aload_n 0, 1) := by decide +kernel
theorem dL_law_471 : decode cL_law 471 = .ok (.iload_n 3, 1) := by decide +kernel
theorem dL_law_472 : decode cL_law 472 = .ok (.iconst 3, 1) := by decide +kernel
theorem dL_law_473 : decode cL_law 473 = .ok (.iadd, 1) := by decide +kernel
theorem dL_law_474 : decode cL_law 474 = .ok (.iaload, 1) := by decide +kernel
theorem dL_law_475 : decode cL_law 475 = .ok (.aload_n 0, 1) := by decide +kernel
theorem dL_law_476 : decode cL_law 476 = .ok (.iload_n 3, 1) := by decide +kernel
theorem dL_law_477 : decode cL_law 477 = .ok (.iconst 4, 1) := by decide +kernel
theorem dL_law_478 : decode cL_law 478 = .ok (.iadd, 1) := by decide +kernel
theorem dL_law_479 : decode cL_law 479 = .ok (.iaload, 1) := by decide +kernel
theorem dL_law_480 : decode cL_law 480 = .ok (.invokevirtual 44, 3) := by decide +kernel
theorem dL_law_483 : decode cL_law 483 = .ok (.pop, 1) := by decide +kernel
theorem dL_law_484 : decode cL_law 484 = .ok (.goto 1193, 3) := by decide +kernel
theorem dL_law_487 : decode cL_law 487 = .ok (.aload_n 1, 1) := by decide +kernel
theorem dL_law_488 : decode cL_law 488 = .ok (.aload_n 0, 1) := by decide +kernel
theorem dL_law_489 : decode cL_law 489 = .ok (.iload_n 3, 1) := by decide +kernel
theorem dL_law_490 : decode cL_law 490 = .ok (.iconst 1, 1) := by decide +kernel
theorem dL_law_491 : decode cL_law 491 = .ok (.iadd, 1) := by decide +kernel
theorem dL_law_492 : decode cL_law 492 = .ok (.iaload, 1) := by decide +kernel
theorem dL_law_493 : decode cL_law 493 = .ok (.aload_n 0, 1) := by decide +kernel
theorem dL_law_494 : decode cL_law 494 = .ok (.iload_n 3, 1) := by decide +kernel
theorem dL_law_495 : decode cL_law 495 = .ok (.iconst 2, 1) := by decide +kernel
theorem dL_law_496 : decode cL_law 496 = .ok (.iadd, 1) := by decide +kernel
theorem dL_law_497 : decode cL_law 497 = .ok (.iaload, 1) := by decide +kernel
theorem dL_law_498 : decode cL_law 498 = .ok (.invokevirtual 45, 3) := by decide +kernel
theorem dL_law_501 : decode cL_law 501 = .ok (.pop, 1) := by decide +kernel
theorem dL_law_502 : decode cL_law 502 = .ok (.aload_n 2, 1) := by decide +kernel
theorem dL_law_503 : decode cL_law 503 = .ok (.aload_n 0, 1) := by decide +kernel
theorem dL_law_504 : decode cL_law 504 = .ok (.iload_n 3, 1) := by decide +kernel
theorem dL_law_505 : decode cL_law 505 = .ok (.iconst 1, 1) := by decide +kernel
theorem dL_law_506 : decode cL_law 506 = .ok (.iadd, 1) := by decide +kernel
theorem dL_law_507 : decode cL_law 507 = .ok (.iaload, 1) := by decide +kernel
theorem dL_law_508 : decode cL_law 508 = .ok (.aload_n 0, 1) := by decide +kernel
theorem dL_law_509 : decode cL_law 509 = .ok (.iload_n 3, 1) := by decide +kernel
theorem dL_law_510 : decode cL_law 510 = .ok (.iconst 2, 1) := by decide +kernel
theorem dL_law_511 : decode cL_law 511 = .ok (.iadd, 1) := by decide +kernel
theorem dL_law_512 : decode cL_law 512 = .ok (.iaload, 1) := by decide +kernel
theorem dL_law_513 : decode cL_law 513 = .ok (.invokevirtual 48, 3) := by decide +kernel
theorem dL_law_516 : decode cL_law 516 = .ok (.pop, 1) := by decide +kernel
theorem dL_law_517 : decode cL_law 517 = .ok (.goto 1160, 3) := by decide +kernel
theorem dL_law_520 : decode cL_law 520 = .ok (.aload_n 1, 1) := by decide +kernel
theorem dL_law_521 : decode cL_law 521 = .ok (.aload_n 0, 1) := by decide +kernel
theorem dL_law_522 : decode cL_law 522 = .ok (.iload_n 3, 1) := by decide +kernel
theorem dL_law_523 : decode cL_law 523 = .ok (.iconst 1, 1) := by decide +kernel
theorem dL_law_524 : decode cL_law 524 = .ok (.iadd, 1) := by decide +kernel
theorem dL_law_525 : decode cL_law 525 = .ok (.iaload, 1) := by decide +kernel
theorem dL_law_526 : decode cL_law 526 = .ok (.aload_n 0, 1) := by decide +kernel
theorem dL_law_527 : decode cL_law 527 = .ok (.iload_n 3, 1) := by decide +kernel
theorem dL_law_528 : decode cL_law 528 = .ok (.iconst 2, 1) := by decide +kernel
theorem dL_law_529 : decode cL_law 529 = .ok (.iadd, 1) := by decide +kernel
theorem dL_law_530 : decode cL_law 530 = .ok (.iaload, 1) := by decide +kernel
theorem dL_law_531 : decode cL_law 531 = .ok (.invokevirtual 49, 3) := by decide +kernel
theorem dL_law_534 : decode cL_law 534 = .ok (.pop, 1) := by decide +kernel
theorem dL_law_535 : decode cL_law 535 = .ok (.aload_n 2, 1) := by decide +kernel
theorem dL_law_536 : decode cL_law 536 = .ok (.aload_n 0, 1) := by decide +kernel
theorem dL_law_537 : decode cL_law 537 = .ok (.iload_n 3, 1) := by decide +kernel
theorem dL_law_538 : decode cL_law 538 = .ok (.iconst 1, 1) := by decide +kernel
theorem dL_law_539 : decode cL_law 539 = .ok (.iadd, 1) := by decide +kernel
theorem dL_law_540 : decode cL_law 540 = .ok (.iaload, 1) := by decide +kernel
theorem dL_law_541 : decode cL_law 541 = .ok (.aload_n 0, 1) := by decide +kernel
theorem dL_law_542 : decode cL_law 542 = .ok (.iload_n 3, 1) := by decide +kernel
theorem dL_law_543 : decode cL_law 543 = .ok (.iconst 2, 1) := by decide +kernel
theorem dL_law_544 : decode cL_law 544 = .ok (.iadd, 1) := by decide +kernel
theorem dL_law_545 : decode cL_law 545 = .ok (.iaload, 1) := by decide +kernel
theorem dL_law_546 : decode cL_law 546 = .ok (.invokevirtual 52, 3) := by decide +kernel
theorem dL_law_549 : decode cL_law 549 = .ok (.pop, 1) := by decide +kernel
theorem dL_law_550 : decode cL_law 550 = .ok (.goto 1127, 3) := by decide +kernel
theorem dL_law_553 : decode cL_law 553 = .ok (.aload_n 1, 1) := by decide +kernel
theorem dL_law_554 : decode cL_law 554 = .ok (.aload_n 0, 1) := by decide +kernel
theorem dL_law_555 : decode cL_law 555 = .ok (.iload_n 3, 1) := by decide +kernel
theorem dL_law_556 : decode cL_law 556 = .ok (.iconst 1, 1) := by decide +kernel
theorem dL_law_557 : decode cL_law 557 = .ok (.iadd, 1) := by decide +kernel
theorem dL_law_558 : decode cL_law 558 = .ok (.iaload, 1) := by decide +kernel
theorem dL_law_559 : decode cL_law 559 = .ok (.aload_n 0, 1) := by decide +kernel
theorem dL_law_560 : decode cL_law 560 = .ok (.iload_n 3, 1) := by decide +kernel
theorem dL_law_561 : decode cL_law 561 = .ok (.iconst 2, 1) := by decide +kernel
theorem dL_law_562 : decode cL_law 562 = .ok (.iadd, 1) := by decide +kernel
theorem dL_law_563 : decode cL_law 563 = .ok (.iaload, 1) := by decide +kernel
theorem dL_law_564 : decode cL_law 564 = .ok (.invokevirtual 53, 3) := by decide +kernel
theorem dL_law_567 : decode cL_law 567 = .ok (.pop, 1) := by decide +kernel
theorem dL_law_568 : decode cL_law 568 = .ok (.aload_n 2, 1) := by decide +kernel
theorem dL_law_569 : decode cL_law 569 = .ok (.aload_n 0, 1) := by decide +kernel
theorem dL_law_570 : decode cL_law 570 = .ok (.iload_n 3, 1) := by decide +kernel
theorem dL_law_571 : decode cL_law 571 = .ok (.iconst 1, 1) := by decide +kernel
theorem dL_law_572 : decode cL_law 572 = .ok (.iadd, 1) := by decide +kernel
theorem dL_law_573 : decode cL_law 573 = .ok (.iaload, 1) := by decide +kernel
theorem dL_law_574 : decode cL_law 574 = .ok (.aload_n 0, 1) := by decide +kernel
theorem dL_law_575 : decode cL_law 575 = .ok (.iload_n 3, 1) := by decide +kernel
theorem dL_law_576 : decode cL_law 576 = .ok (.iconst 2, 1) := by decide +kernel
theorem dL_law_577 : decode cL_law 577 = .ok (.iadd, 1) := by decide +kernel
theorem dL_law_578 : decode cL_law 578 = .ok (.iaload, 1) := by decide +kernel
theorem dL_law_579 : decode cL_law 579 = .ok (.invokevirtual 56, 3) := by decide +kernel
theorem dL_law_582 : decode cL_law 582 = .ok (.pop, 1) := by decide +kernel
theorem dL_law_583 : decode cL_law 583 = .ok (.goto 1094, 3) := by decide +kernel
theorem dL_law_586 : decode cL_law 586 = .ok (.aload_n 1, 1) := by decide +kernel
theorem dL_law_587 : decode cL_law 587 = .ok (.invokevirtual 57, 3) := by decide +kernel
theorem dL_law_590 : decode cL_law 590 = .ok (.pop, 1) := by decide +kernel
theorem dL_law_591 : decode cL_law 591 = .ok (.aload_n 2, 1) := by decide +kernel
theorem dL_law_592 : decode cL_law 592 = .ok (.invokevirtual 61, 3) := by decide +kernel
theorem dL_law_595 : decode cL_law 595 = .ok (.pop, 1) := by decide +kernel
theorem dL_law_596 : decode cL_law 596 = .ok (.goto 1081, 3) := by decide +kernel
theorem dL_law_599 : decode cL_law 599 = .ok (.aload_n 1, 1) := by decide +kernel
theorem dL_law_600 : decode cL_law 600 = .ok (.aload_n 0, 1) := by decide +kernel
theorem dL_law_601 : decode cL_law 601 = .ok (.iload_n 3, 1) := by decide +kernel
theorem dL_law_602 : decode cL_law 602 = .ok (.iconst 1, 1) := by decide +kernel
theorem dL_law_603 : decode cL_law 603 = .ok (.iadd, 1) := by decide +kernel
theorem dL_law_604 : decode cL_law 604 = .ok (.iaload, 1) := by decide +kernel
theorem dL_law_605 : decode cL_law 605 = .ok (.aload_n 0, 1) := by decide +kernel
theorem dL_law_606 : decode cL_law 606 = .ok (.iload_n 3, 1) := by decide +kernel
theorem dL_law_607 : decode cL_law 607 = .ok (.iconst 2, 1) := by decide +kernel
theorem dL_law_608 : decode cL_law 608 = .ok (.iadd, 1) := by decide +kernel
theorem dL_law_609 : decode cL_law 609 = .ok (.iaload, 1) := by decide +kernel
theorem dL_law_610 : decode cL_law 610 = .ok (.invokevirtual 62, 3) := by decide +kernel
theorem dL_law_613 : decode cL_law 613 = .ok (.pop, 1) := by decide +kernel
theorem dL_law_614 : decode cL_law 614 = .ok (.aload_n 2, 1) := by decide +kernel
theorem dL_law_615 : decode cL_law 615 = .ok (.aload_n 0, 1) := by decide +kernel
theorem dL_law_616 : decode cL_law 616 = .ok (.iload_n 3, 1) := by decide +kernel
theorem dL_law_617 : decode cL_law 617 = .ok (.iconst 1, 1) := by decide +kernel
theorem dL_law_618 : decode cL_law 618 = .ok (.iadd, 1) := by decide +kernel
theorem dL_law_619 : decode cL_law 619 = .ok (.iaload, 1) := by decide +kernel
theorem dL_law_620 : decode cL_law 620 = .ok (.aload_n 0, 1) := by decide +kernel
theorem dL_law_621 : decode cL_law 621 = .ok (.iload_n 3, 1) := by decide +kernel
theorem dL_law_622 : decode cL_law 622 = .ok (.iconst 2, 1) := by decide +kernel
theorem dL_law_623 : decode cL_law 623 = .ok (.iadd, 1) := by decide +kernel
theorem dL_law_624 : decode cL_law 624 = .ok (.iaload, 1) := by decide +kernel
theorem dL_law_625 : decode cL_law 625 = .ok (.invokevirtual 65, 3) := by decide +kernel
theorem dL_law_628 : decode cL_law 628 = .ok (.pop, 1) := by decide +kernel
theorem dL_law_629 : decode cL_law 629 = .ok (.goto 1048, 3) := by decide +kernel
set_option maxHeartbeats 4000000 in
set_option maxRecDepth 100000 in
theorem law_case_0 (l : Launch) (G : va_G) (cI cJ cZ cD cR cT : ClassId) (σ : SE) (x k b Ls : Nat) (xs : Nat → Int32) (p : Program) (e : Env) (s : State) (m : MethodId) (below : List Frame) (meth : Method) (c : Code) (A : Nat → Prop) (Q : State → Prop) (i : Int32) (E : EV G cI cJ cZ cD cR cT A cL_law ret 4 RL p s m ([.ref b] : List Value).toArray meth c) (hSX : SX σ A s s.heap) (hCA : CA s) (hX : va_X b Ls xs s s.heap) (hbl : b < s.heap.size) (hbA : ¬ A b) (hi : 0 ≤ i.toInt ∧ i.toInt + 6 ≤ (Ls : Int) ∧ Ls ≤ 3072) (cells slots : Nat) (hc : cells + 8 ≤ room_1.cells) (hs : slots + 2810 ≤ room_1.slots) (kp : Nat → Nat) (L : List Nat) (f : Nat → va_E) (S : State) (ls : Array Slot) (H : Heap) (locs : List Loc) (hI : LWS G cI cJ cZ cD cR cT A kp L f x k s S H locs) (hl : lv_has ls 4 [(3, .int i), (2, .ref k), (1, .ref x), (0, .ref b)])
  (hend : ∀ (kp : Nat → Nat) (L : List Nat) (f : Nat → va_E) (S : State) (ls : Array Slot) (H : Heap) (locs : List Loc), LWS G cI cJ cZ cD cR cT A kp L f x k s S H locs → lv_has ls 4 [(3, .int i), (2, .ref k), (1, .ref x), (0, .ref b)] → W p l e room_1 S m ([.ref b] : List Value).toArray below meth c H locs (cells + 8) (slots + 2810) Q (F0 m 1677 ls [])) : W p l e room_1 S m ([.ref b] : List Value).toArray below meth c H locs cells slots Q (F0 m 236 ls []) := by
  obtain ⟨hdr, hW, rx, rk, hT, hZ⟩ := hI
  have hq := hs_S hdr
  have ES := ev_S E hdr
  have hXS := xx_S hdr hX
  have hTH := hW.2.2.2
  obtain ⟨hx, hb, -, hml, hown, hts, -, -, -⟩ := id ES
  have rx0 := rx
  have rk0 := rk
  refine lv_aload_n hx hb dL_law_236 rfl (lv_at hl 2 rfl) ?_
  refine law_arg (k := 1) hx hb hl hXS (by rw [hq]; exact hbl) hbA hW.2.2.1 hi rfl (by decide) dL_law_237 dL_law_238 dL_law_239 dL_law_240 dL_law_241 ?_
  refine law_arg (k := 2) hx hb hl hXS (by rw [hq]; exact hbl) hbA hW.2.2.1 hi rfl (by decide) dL_law_242 dL_law_243 dL_law_244 dL_law_245 dL_law_246 ?_
  refine law_arg (k := 3) hx hb hl hXS (by rw [hq]; exact hbl) hbA hW.2.2.1 hi rfl (by decide) dL_law_247 dL_law_248 dL_law_249 dL_law_250 dL_law_251 ?_
  refine t_callV (As := [.int (ag xs i 1), .int (ag xs i 2), .int (ag xs i 3)]) (rest := []) ES hW (c_X11_person_u l G cI cJ cZ cD cR cT kp L f hW.2.2.2 _ x (ag xs i 1) (ag xs i 2) (ag xs i 3) rx) rx (by decide) rfl wk_X11_person tw_595 rfl ⟨Nat.le_of_ble_eq_true rfl, Nat.le_of_ble_eq_true rfl⟩ ⟨rfl, rfl⟩ hl.1 rfl (Nat.le_of_ble_eq_true rfl) dL_law_252 ⟨by omega, by omega⟩ (fun v f1 H locs q hW1 => ?_)
  obtain ⟨⟨r1, rfl, p1⟩, g1, w1⟩ := q
  have hT1 := txi_fm hTH hT g1 rk0 rfl rfl rfl rfl
  have hR1 := re_fm g1 rx0 (rfl : NO KR _ = true)
  have row1 := row_fm hTH rk0 g1 rfl
  have tp := tie_pe hZ
  have tl := tie_le hZ
  have bn := th_iv hW (rk2 hTH (rk4 hTH rx0).1).1 (by decide) (k := 0) (by decide) rfl
  have bo := th_iv hW (rk2 hTH (rk4 hTH rx0).1).2 (by decide) (k := 3) (by decide) rfl
  have hW := hW1
  refine lv_pop hx hb dL_law_255 rfl ?_
  refine lv_aload_n hx hb dL_law_256 rfl (lv_at hl 1 rfl) ?_
  refine law_arg (k := 1) hx hb hl hXS (by rw [hq]; exact hbl) hbA hW.2.2.1 hi rfl (by decide) dL_law_257 dL_law_258 dL_law_259 dL_law_260 dL_law_261 ?_
  refine law_arg (k := 2) hx hb hl hXS (by rw [hq]; exact hbl) hbA hW.2.2.1 hi rfl (by decide) dL_law_262 dL_law_263 dL_law_264 dL_law_265 dL_law_266 ?_
  refine law_arg (k := 3) hx hb hl hXS (by rw [hq]; exact hbl) hbA hW.2.2.1 hi rfl (by decide) dL_law_267 dL_law_268 dL_law_269 dL_law_270 dL_law_271 ?_
  refine t_callV (As := [.int (ag xs i 1), .int (ag xs i 2), .int (ag xs i 3)]) (rest := []) ES hW1 (c_X12_person_u l G cI cJ cZ cD cR cT kp L f1 hW1.2.2.2 _ k (ag xs i 1) (ag xs i 2) (ag xs i 3) rk) rk (by decide) rfl wk_X12_person tw_1565 rfl ⟨Nat.le_of_ble_eq_true rfl, Nat.le_of_ble_eq_true rfl⟩ ⟨rfl, rfl⟩ hl.1 rfl (Nat.le_of_ble_eq_true rfl) dL_law_272 ⟨by omega, by omega⟩ (fun v f2 H locs q hW2 => ?_)
  obtain ⟨⟨r2, rfl, p2⟩, g2, hR⟩ := q
  have hT2 := txi_rf hW1.2.2.2 hT1 g2 rk rfl rfl rfl hR (by decide) (by decide)
  rw [row1, ← tp.1] at p2
  have z := p1.trans p2.symm
  have r12 : r1.toInt = r2.toInt := congrArg Prod.fst z
  have hp : P8 f1 (oR (f (oR (f x) 0)) 0) = RP (aI (f2 (oR (f1 k) 2))) 0 := congrArg Prod.snd z
  have e2 : oR (f2 k) 2 = oR (f1 k) 2 := fm_R g2 rk rfl
  have hv : SA (V8 f1 (oR (f x) 0)) (R8 (aI (f2 (oR (f2 k) 2))) 0) := by
    refine ⟨?_, ?_⟩
    · rw [own_p hR1 (rk4 hTH rx0).1 hTH w1 (nd_pl (nd_l hZ.1)).1]
      unfold R8
      rw [e2, hp, rl_rf hR rfl (by decide +kernel), row1, tl]
    · show HC (RP (aI (f2 (oR (f2 k) 2))) 0)
      rw [e2, ← hp]
      have q : P8 f1 (oR (f (oR (f x) 0)) 0) = _ := congrArg Prod.snd p1
      rw [q]
      have hc : HC (P8 f (oR (f (oR (f x) 0)) 0)) := by rw [tp.1]; exact tp.2
      exact hc_sPerson hc bn.1
  have hZ2 := tie_own hTH hW1.2.2.2 hZ g1 g2 w1 (fun q h => by simp only [T8, List.mem_cons, List.not_mem_nil, or_false] at h ⊢; omega) rx rk rfl rfl rfl rfl rfl rfl rfl rfl rfl hv
  refine lv_pop hx hb dL_law_275 rfl ?_
  refine lv_goto (tgt := 1677) hx hb dL_law_276 (by decide) ?_
  refine W.more (c2 := cells + 8) (s2 := slots + 2810) (by omega) (by omega) ?_
  exact hend kp L f2 S ls H locs ⟨hdr, hW2, rx, rk, hT2, hZ2⟩ hl
set_option maxHeartbeats 4000000 in
set_option maxRecDepth 100000 in
theorem law_case_1 (l : Launch) (G : va_G) (cI cJ cZ cD cR cT : ClassId) (σ : SE) (x k b Ls : Nat) (xs : Nat → Int32) (p : Program) (e : Env) (s : State) (m : MethodId) (below : List Frame) (meth : Method) (c : Code) (A : Nat → Prop) (Q : State → Prop) (i : Int32) (E : EV G cI cJ cZ cD cR cT A cL_law ret 4 RL p s m ([.ref b] : List Value).toArray meth c) (hSX : SX σ A s s.heap) (hCA : CA s) (hX : va_X b Ls xs s s.heap) (hbl : b < s.heap.size) (hbA : ¬ A b) (hi : 0 ≤ i.toInt ∧ i.toInt + 6 ≤ (Ls : Int) ∧ Ls ≤ 3072) (cells slots : Nat) (hc : cells + 8 ≤ room_1.cells) (hs : slots + 2810 ≤ room_1.slots) (kp : Nat → Nat) (L : List Nat) (f : Nat → va_E) (S : State) (ls : Array Slot) (H : Heap) (locs : List Loc) (hI : LWS G cI cJ cZ cD cR cT A kp L f x k s S H locs) (hl : lv_has ls 4 [(3, .int i), (2, .ref k), (1, .ref x), (0, .ref b)])
  (hend : ∀ (kp : Nat → Nat) (L : List Nat) (f : Nat → va_E) (S : State) (ls : Array Slot) (H : Heap) (locs : List Loc), LWS G cI cJ cZ cD cR cT A kp L f x k s S H locs → lv_has ls 4 [(3, .int i), (2, .ref k), (1, .ref x), (0, .ref b)] → W p l e room_1 S m ([.ref b] : List Value).toArray below meth c H locs (cells + 8) (slots + 2810) Q (F0 m 1677 ls [])) : W p l e room_1 S m ([.ref b] : List Value).toArray below meth c H locs cells slots Q (F0 m 279 ls []) := by
  obtain ⟨hdr, hW, rx, rk, hT, hZ⟩ := hI
  have hq := hs_S hdr
  have ES := ev_S E hdr
  have hXS := xx_S hdr hX
  have hTH := hW.2.2.2
  obtain ⟨hx, hb, -, hml, hown, hts, -, -, -⟩ := id ES
  have rx0 := rx
  have rk0 := rk
  refine lv_aload_n hx hb dL_law_279 rfl (lv_at hl 2 rfl) ?_
  refine law_arg (k := 1) hx hb hl hXS (by rw [hq]; exact hbl) hbA hW.2.2.1 hi rfl (by decide) dL_law_280 dL_law_281 dL_law_282 dL_law_283 dL_law_284 ?_
  refine law_arg (k := 2) hx hb hl hXS (by rw [hq]; exact hbl) hbA hW.2.2.1 hi rfl (by decide) dL_law_285 dL_law_286 dL_law_287 dL_law_288 dL_law_289 ?_
  refine t_callV (As := [.int (ag xs i 1), .int (ag xs i 2)]) (rest := []) ES hW (c_X11_heed_u l G cI cJ cZ cD cR cT kp L f hW.2.2.2 _ x (ag xs i 1) (ag xs i 2) rx) rx (by decide) rfl wk_X11_heed tw_615 rfl ⟨Nat.le_of_ble_eq_true rfl, Nat.le_of_ble_eq_true rfl⟩ ⟨rfl, rfl⟩ hl.1 rfl (Nat.le_of_ble_eq_true rfl) dL_law_290 ⟨by omega, by omega⟩ (fun v f1 H locs q hW1 => ?_)
  obtain ⟨⟨r1, rfl, p1⟩, g1, w1⟩ := q
  have hT1 := txi_fm hTH hT g1 rk0 rfl rfl rfl rfl
  have hR1 := re_fm g1 rx0 (rfl : NO KR _ = true)
  have row1 := row_fm hTH rk0 g1 rfl
  have tp := tie_pe hZ
  have tl := tie_le hZ
  have bn := th_iv hW (rk2 hTH (rk4 hTH rx0).1).1 (by decide) (k := 0) (by decide) rfl
  have bo := th_iv hW (rk2 hTH (rk4 hTH rx0).1).2 (by decide) (k := 3) (by decide) rfl
  have hW := hW1
  refine lv_pop hx hb dL_law_293 rfl ?_
  refine lv_aload_n hx hb dL_law_294 rfl (lv_at hl 1 rfl) ?_
  refine law_arg (k := 1) hx hb hl hXS (by rw [hq]; exact hbl) hbA hW.2.2.1 hi rfl (by decide) dL_law_295 dL_law_296 dL_law_297 dL_law_298 dL_law_299 ?_
  refine law_arg (k := 2) hx hb hl hXS (by rw [hq]; exact hbl) hbA hW.2.2.1 hi rfl (by decide) dL_law_300 dL_law_301 dL_law_302 dL_law_303 dL_law_304 ?_
  refine t_callV (As := [.int (ag xs i 1), .int (ag xs i 2)]) (rest := []) ES hW1 (c_X12_heed_u l G cI cJ cZ cD cR cT kp L f1 hW1.2.2.2 _ k (ag xs i 1) (ag xs i 2) rk) rk (by decide) rfl wk_X12_heed tw_1579 rfl ⟨Nat.le_of_ble_eq_true rfl, Nat.le_of_ble_eq_true rfl⟩ ⟨rfl, rfl⟩ hl.1 rfl (Nat.le_of_ble_eq_true rfl) dL_law_305 ⟨by omega, by omega⟩ (fun v f2 H locs q hW2 => ?_)
  obtain ⟨⟨r2, rfl, p2⟩, g2, hR⟩ := q
  have hT2 := txi_rf hW1.2.2.2 hT1 g2 rk rfl rfl rfl hR (by decide) (by decide)
  rw [row1, ← tp.1] at p2
  have z := p1.trans p2.symm
  have r12 : r1.toInt = r2.toInt := congrArg Prod.fst z
  have hp : P8 f1 (oR (f (oR (f x) 0)) 0) = RP (aI (f2 (oR (f1 k) 2))) 0 := congrArg Prod.snd z
  have e2 : oR (f2 k) 2 = oR (f1 k) 2 := fm_R g2 rk rfl
  have hv : SA (V8 f1 (oR (f x) 0)) (R8 (aI (f2 (oR (f2 k) 2))) 0) := by
    refine ⟨?_, ?_⟩
    · rw [own_p hR1 (rk4 hTH rx0).1 hTH w1 (nd_pl (nd_l hZ.1)).1]
      unfold R8
      rw [e2, hp, rl_rf hR rfl (by decide +kernel), row1, tl]
    · show HC (RP (aI (f2 (oR (f2 k) 2))) 0)
      rw [e2, ← hp]
      have q : P8 f1 (oR (f (oR (f x) 0)) 0) = _ := congrArg Prod.snd p1
      rw [q]
      have hc : HC (P8 f (oR (f (oR (f x) 0)) 0)) := by rw [tp.1]; exact tp.2
      exact hc_sHeed hc
  have hZ2 := tie_own hTH hW1.2.2.2 hZ g1 g2 w1 (fun q h => by simp only [T8, List.mem_cons, List.not_mem_nil, or_false] at h ⊢; omega) rx rk rfl rfl rfl rfl rfl rfl rfl rfl rfl hv
  refine lv_pop hx hb dL_law_308 rfl ?_
  refine lv_goto (tgt := 1677) hx hb dL_law_309 (by decide) ?_
  refine W.more (c2 := cells + 8) (s2 := slots + 2810) (by omega) (by omega) ?_
  exact hend kp L f2 S ls H locs ⟨hdr, hW2, rx, rk, hT2, hZ2⟩ hl
set_option maxHeartbeats 4000000 in
set_option maxRecDepth 100000 in
theorem law_case_2 (l : Launch) (G : va_G) (cI cJ cZ cD cR cT : ClassId) (σ : SE) (x k b Ls : Nat) (xs : Nat → Int32) (p : Program) (e : Env) (s : State) (m : MethodId) (below : List Frame) (meth : Method) (c : Code) (A : Nat → Prop) (Q : State → Prop) (i : Int32) (E : EV G cI cJ cZ cD cR cT A cL_law ret 4 RL p s m ([.ref b] : List Value).toArray meth c) (hSX : SX σ A s s.heap) (hCA : CA s) (hX : va_X b Ls xs s s.heap) (hbl : b < s.heap.size) (hbA : ¬ A b) (hi : 0 ≤ i.toInt ∧ i.toInt + 6 ≤ (Ls : Int) ∧ Ls ≤ 3072) (cells slots : Nat) (hc : cells + 8 ≤ room_1.cells) (hs : slots + 2810 ≤ room_1.slots) (kp : Nat → Nat) (L : List Nat) (f : Nat → va_E) (S : State) (ls : Array Slot) (H : Heap) (locs : List Loc) (hI : LWS G cI cJ cZ cD cR cT A kp L f x k s S H locs) (hl : lv_has ls 4 [(3, .int i), (2, .ref k), (1, .ref x), (0, .ref b)])
  (hend : ∀ (kp : Nat → Nat) (L : List Nat) (f : Nat → va_E) (S : State) (ls : Array Slot) (H : Heap) (locs : List Loc), LWS G cI cJ cZ cD cR cT A kp L f x k s S H locs → lv_has ls 4 [(3, .int i), (2, .ref k), (1, .ref x), (0, .ref b)] → W p l e room_1 S m ([.ref b] : List Value).toArray below meth c H locs (cells + 8) (slots + 2810) Q (F0 m 1677 ls [])) : W p l e room_1 S m ([.ref b] : List Value).toArray below meth c H locs cells slots Q (F0 m 312 ls []) := by
  obtain ⟨hdr, hW, rx, rk, hT, hZ⟩ := hI
  have hq := hs_S hdr
  have ES := ev_S E hdr
  have hXS := xx_S hdr hX
  have hTH := hW.2.2.2
  obtain ⟨hx, hb, -, hml, hown, hts, -, -, -⟩ := id ES
  have rx0 := rx
  have rk0 := rk
  refine lv_aload_n hx hb dL_law_312 rfl (lv_at hl 2 rfl) ?_
  refine law_arg (k := 1) hx hb hl hXS (by rw [hq]; exact hbl) hbA hW.2.2.1 hi rfl (by decide) dL_law_313 dL_law_314 dL_law_315 dL_law_316 dL_law_317 ?_
  refine law_arg (k := 2) hx hb hl hXS (by rw [hq]; exact hbl) hbA hW.2.2.1 hi rfl (by decide) dL_law_318 dL_law_319 dL_law_320 dL_law_321 dL_law_322 ?_
  refine t_callV (As := [.int (ag xs i 1), .int (ag xs i 2)]) (rest := []) ES hW (c_X11_goes_u l G cI cJ cZ cD cR cT kp L f hW.2.2.2 _ x (ag xs i 1) (ag xs i 2) rx) rx (by decide) rfl wk_X11_goes tw_623 rfl ⟨Nat.le_of_ble_eq_true rfl, Nat.le_of_ble_eq_true rfl⟩ ⟨rfl, rfl⟩ hl.1 rfl (Nat.le_of_ble_eq_true rfl) dL_law_323 ⟨by omega, by omega⟩ (fun v f1 H locs q hW1 => ?_)
  obtain ⟨⟨r1, rfl, p1⟩, g1, w1⟩ := q
  have hT1 := txi_fm hTH hT g1 rk0 rfl rfl rfl rfl
  have hR1 := re_fm g1 rx0 (rfl : NO KR _ = true)
  have row1 := row_fm hTH rk0 g1 rfl
  have tp := tie_pe hZ
  have tl := tie_le hZ
  have bn := th_iv hW (rk2 hTH (rk4 hTH rx0).1).1 (by decide) (k := 0) (by decide) rfl
  have bo := th_iv hW (rk2 hTH (rk4 hTH rx0).1).2 (by decide) (k := 3) (by decide) rfl
  have hW := hW1
  refine lv_aload_n hx hb dL_law_326 rfl (lv_at hl 1 rfl) ?_
  refine law_arg (k := 1) hx hb hl hXS (by rw [hq]; exact hbl) hbA hW.2.2.1 hi rfl (by decide) dL_law_327 dL_law_328 dL_law_329 dL_law_330 dL_law_331 ?_
  refine law_arg (k := 2) hx hb hl hXS (by rw [hq]; exact hbl) hbA hW.2.2.1 hi rfl (by decide) dL_law_332 dL_law_333 dL_law_334 dL_law_335 dL_law_336 ?_
  refine t_callV (As := [.int (ag xs i 1), .int (ag xs i 2)]) (rest := [.int r1]) ES hW1 (c_X12_goes_u l G cI cJ cZ cD cR cT kp L f1 hW1.2.2.2 _ k (ag xs i 1) (ag xs i 2) rk) rk (by decide) rfl wk_X12_goes tw_1587 rfl ⟨Nat.le_of_ble_eq_true rfl, Nat.le_of_ble_eq_true rfl⟩ ⟨rfl, rfl⟩ hl.1 rfl (Nat.le_of_ble_eq_true rfl) dL_law_337 ⟨by omega, by omega⟩ (fun v f2 H locs q hW2 => ?_)
  obtain ⟨⟨r2, rfl, p2⟩, g2, hR⟩ := q
  have hT2 := txi_rf hW1.2.2.2 hT1 g2 rk rfl rfl rfl hR (by decide) (by decide)
  rw [row1, ← tp.1] at p2
  have z := p1.trans p2.symm
  have r12 : r1.toInt = r2.toInt := congrArg Prod.fst z
  have hp : P8 f1 (oR (f (oR (f x) 0)) 0) = RP (aI (f2 (oR (f1 k) 2))) 0 := congrArg Prod.snd z
  have e2 : oR (f2 k) 2 = oR (f1 k) 2 := fm_R g2 rk rfl
  have hv : SA (V8 f1 (oR (f x) 0)) (R8 (aI (f2 (oR (f2 k) 2))) 0) := by
    refine ⟨?_, ?_⟩
    · rw [own_p hR1 (rk4 hTH rx0).1 hTH w1 (nd_pl (nd_l hZ.1)).1]
      unfold R8
      rw [e2, hp, rl_rf hR rfl (by decide +kernel), row1, tl]
    · show HC (RP (aI (f2 (oR (f2 k) 2))) 0)
      rw [e2, ← hp]
      have q : P8 f1 (oR (f (oR (f x) 0)) 0) = _ := congrArg Prod.snd p1
      rw [q]
      have hc : HC (P8 f (oR (f (oR (f x) 0)) 0)) := by rw [tp.1]; exact tp.2
      exact hc_sGoes hc
  have hZ2 := tie_own hTH hW1.2.2.2 hZ g1 g2 w1 (fun q h => by simp only [T8, List.mem_cons, List.not_mem_nil, or_false] at h ⊢; omega) rx rk rfl rfl rfl rfl rfl rfl rfl rfl rfl hv
  refine q_icmp_eq (tgt := 1677) hx hb dL_law_340 (by decide) rfl rfl (fun _ => ?_) (fun c => absurd r12 c)
  refine W.more (c2 := cells + 8) (s2 := slots + 2810) (by omega) (by omega) ?_
  exact hend kp L f2 S ls H locs ⟨hdr, hW2, rx, rk, hT2, hZ2⟩ hl
set_option maxHeartbeats 4000000 in
set_option maxRecDepth 100000 in
theorem law_case_3 (l : Launch) (G : va_G) (cI cJ cZ cD cR cT : ClassId) (σ : SE) (x k b Ls : Nat) (xs : Nat → Int32) (p : Program) (e : Env) (s : State) (m : MethodId) (below : List Frame) (meth : Method) (c : Code) (A : Nat → Prop) (Q : State → Prop) (i : Int32) (E : EV G cI cJ cZ cD cR cT A cL_law ret 4 RL p s m ([.ref b] : List Value).toArray meth c) (hSX : SX σ A s s.heap) (hCA : CA s) (hX : va_X b Ls xs s s.heap) (hbl : b < s.heap.size) (hbA : ¬ A b) (hi : 0 ≤ i.toInt ∧ i.toInt + 6 ≤ (Ls : Int) ∧ Ls ≤ 3072) (cells slots : Nat) (hc : cells + 8 ≤ room_1.cells) (hs : slots + 2810 ≤ room_1.slots) (kp : Nat → Nat) (L : List Nat) (f : Nat → va_E) (S : State) (ls : Array Slot) (H : Heap) (locs : List Loc) (hI : LWS G cI cJ cZ cD cR cT A kp L f x k s S H locs) (hl : lv_has ls 4 [(3, .int i), (2, .ref k), (1, .ref x), (0, .ref b)])
  (hend : ∀ (kp : Nat → Nat) (L : List Nat) (f : Nat → va_E) (S : State) (ls : Array Slot) (H : Heap) (locs : List Loc), LWS G cI cJ cZ cD cR cT A kp L f x k s S H locs → lv_has ls 4 [(3, .int i), (2, .ref k), (1, .ref x), (0, .ref b)] → W p l e room_1 S m ([.ref b] : List Value).toArray below meth c H locs (cells + 8) (slots + 2810) Q (F0 m 1677 ls [])) : W p l e room_1 S m ([.ref b] : List Value).toArray below meth c H locs cells slots Q (F0 m 345 ls []) := by
  obtain ⟨hdr, hW, rx, rk, hT, hZ⟩ := hI
  have hq := hs_S hdr
  have ES := ev_S E hdr
  have hXS := xx_S hdr hX
  have hTH := hW.2.2.2
  obtain ⟨hx, hb, -, hml, hown, hts, -, -, -⟩ := id ES
  have rx0 := rx
  have rk0 := rk
  refine lv_aload_n hx hb dL_law_345 rfl (lv_at hl 2 rfl) ?_
  refine law_arg (k := 1) hx hb hl hXS (by rw [hq]; exact hbl) hbA hW.2.2.1 hi rfl (by decide) dL_law_346 dL_law_347 dL_law_348 dL_law_349 dL_law_350 ?_
  refine law_arg (k := 2) hx hb hl hXS (by rw [hq]; exact hbl) hbA hW.2.2.1 hi rfl (by decide) dL_law_351 dL_law_352 dL_law_353 dL_law_354 dL_law_355 ?_
  refine t_callV (As := [.int (ag xs i 1), .int (ag xs i 2)]) (rest := []) ES hW (c_X11_coin l G cI cJ cZ cD cR cT kp L f hW.2.2.2 _ x (ag xs i 1) (ag xs i 2) rx) rx (by decide) rfl wk_X11_coin tw_627 rfl ⟨Nat.le_of_ble_eq_true rfl, Nat.le_of_ble_eq_true rfl⟩ ⟨rfl, rfl⟩ hl.1 rfl (Nat.le_of_ble_eq_true rfl) dL_law_356 ⟨by omega, by omega⟩ (fun v f1 H locs q hW1 => ?_)
  obtain ⟨⟨r1, rfl, p1⟩, g1⟩ := q
  have hT1 := txi_fm hTH hT g1 rk0 rfl rfl rfl rfl
  have hZ1 := tie_fm hTH hZ g1 rx0 rk0 rfl rfl rfl rfl rfl rfl
  have hW := hW1
  refine lv_pop hx hb dL_law_359 rfl ?_
  refine lv_aload_n hx hb dL_law_360 rfl (lv_at hl 1 rfl) ?_
  refine law_arg (k := 1) hx hb hl hXS (by rw [hq]; exact hbl) hbA hW.2.2.1 hi rfl (by decide) dL_law_361 dL_law_362 dL_law_363 dL_law_364 dL_law_365 ?_
  refine law_arg (k := 2) hx hb hl hXS (by rw [hq]; exact hbl) hbA hW.2.2.1 hi rfl (by decide) dL_law_366 dL_law_367 dL_law_368 dL_law_369 dL_law_370 ?_
  refine t_callV (As := [.int (ag xs i 1), .int (ag xs i 2)]) (rest := []) ES hW1 (c_X12_coin_u l G cI cJ cZ cD cR cT kp L f1 hW1.2.2.2 _ k (ag xs i 1) (ag xs i 2) rk) rk (by decide) rfl wk_X12_coin tw_1592 rfl ⟨Nat.le_of_ble_eq_true rfl, Nat.le_of_ble_eq_true rfl⟩ ⟨rfl, rfl⟩ hl.1 rfl (Nat.le_of_ble_eq_true rfl) dL_law_371 ⟨by omega, by omega⟩ (fun v f2 H locs q hW2 => ?_)
  obtain ⟨⟨r2, rfl, p2⟩, g2, hP, hR⟩ := q
  have hT2 := txi_rf hW1.2.2.2 hT1 g2 rk rfl rfl rfl hR (by decide) (by decide)
  have hZ2 := tie_row hW1.2.2.2 hZ1 g2 rx rk rfl rfl rfl rfl rfl (r8_pl rk g2 rfl hR (by decide +kernel) hP)
  refine lv_pop hx hb dL_law_374 rfl ?_
  refine lv_goto (tgt := 1677) hx hb dL_law_375 (by decide) ?_
  refine W.more (c2 := cells + 8) (s2 := slots + 2810) (by omega) (by omega) ?_
  exact hend kp L f2 S ls H locs ⟨hdr, hW2, rx, rk, hT2, hZ2⟩ hl
set_option maxHeartbeats 4000000 in
set_option maxRecDepth 100000 in
theorem law_case_4 (l : Launch) (G : va_G) (cI cJ cZ cD cR cT : ClassId) (σ : SE) (x k b Ls : Nat) (xs : Nat → Int32) (p : Program) (e : Env) (s : State) (m : MethodId) (below : List Frame) (meth : Method) (c : Code) (A : Nat → Prop) (Q : State → Prop) (i : Int32) (E : EV G cI cJ cZ cD cR cT A cL_law ret 4 RL p s m ([.ref b] : List Value).toArray meth c) (hSX : SX σ A s s.heap) (hCA : CA s) (hX : va_X b Ls xs s s.heap) (hbl : b < s.heap.size) (hbA : ¬ A b) (hi : 0 ≤ i.toInt ∧ i.toInt + 6 ≤ (Ls : Int) ∧ Ls ≤ 3072) (cells slots : Nat) (hc : cells + 8 ≤ room_1.cells) (hs : slots + 2810 ≤ room_1.slots) (kp : Nat → Nat) (L : List Nat) (f : Nat → va_E) (S : State) (ls : Array Slot) (H : Heap) (locs : List Loc) (hI : LWS G cI cJ cZ cD cR cT A kp L f x k s S H locs) (hl : lv_has ls 4 [(3, .int i), (2, .ref k), (1, .ref x), (0, .ref b)])
  (hend : ∀ (kp : Nat → Nat) (L : List Nat) (f : Nat → va_E) (S : State) (ls : Array Slot) (H : Heap) (locs : List Loc), LWS G cI cJ cZ cD cR cT A kp L f x k s S H locs → lv_has ls 4 [(3, .int i), (2, .ref k), (1, .ref x), (0, .ref b)] → W p l e room_1 S m ([.ref b] : List Value).toArray below meth c H locs (cells + 8) (slots + 2810) Q (F0 m 1677 ls [])) : W p l e room_1 S m ([.ref b] : List Value).toArray below meth c H locs cells slots Q (F0 m 378 ls []) := by
  obtain ⟨hdr, hW, rx, rk, hT, hZ⟩ := hI
  have hq := hs_S hdr
  have ES := ev_S E hdr
  have hXS := xx_S hdr hX
  have hTH := hW.2.2.2
  obtain ⟨hx, hb, -, hml, hown, hts, -, -, -⟩ := id ES
  have rx0 := rx
  have rk0 := rk
  refine lv_aload_n hx hb dL_law_378 rfl (lv_at hl 2 rfl) ?_
  refine law_arg (k := 1) hx hb hl hXS (by rw [hq]; exact hbl) hbA hW.2.2.1 hi rfl (by decide) dL_law_379 dL_law_380 dL_law_381 dL_law_382 dL_law_383 ?_
  refine t_callV (As := [.int (ag xs i 1)]) (rest := []) ES hW (c_X11_give l G cI cJ cZ cD cR cT kp L f hW.2.2.2 _ x (ag xs i 1) rx) rx (by decide) rfl wk_X11_give tw_639 rfl ⟨Nat.le_of_ble_eq_true rfl, Nat.le_of_ble_eq_true rfl⟩ ⟨rfl, rfl⟩ hl.1 rfl (Nat.le_of_ble_eq_true rfl) dL_law_384 ⟨by omega, by omega⟩ (fun v f1 H locs q hW1 => ?_)
  obtain ⟨⟨r1, rfl, p1⟩, g1⟩ := q
  have hT1 := txi_fm hTH hT g1 rk0 rfl rfl rfl rfl
  have hZ1 := tie_fm hTH hZ g1 rx0 rk0 rfl rfl rfl rfl rfl rfl
  have hW := hW1
  refine lv_pop hx hb dL_law_387 rfl ?_
  refine lv_aload_n hx hb dL_law_388 rfl (lv_at hl 1 rfl) ?_
  refine law_arg (k := 1) hx hb hl hXS (by rw [hq]; exact hbl) hbA hW.2.2.1 hi rfl (by decide) dL_law_389 dL_law_390 dL_law_391 dL_law_392 dL_law_393 ?_
  refine t_callV (As := [.int (ag xs i 1)]) (rest := []) ES hW1 (c_X12_give l G cI cJ cZ cD cR cT kp L f1 hW1.2.2.2 _ k (ag xs i 1) rk) rk (by decide) rfl wk_X12_give tw_1602 rfl ⟨Nat.le_of_ble_eq_true rfl, Nat.le_of_ble_eq_true rfl⟩ ⟨rfl, rfl⟩ hl.1 rfl (Nat.le_of_ble_eq_true rfl) dL_law_394 ⟨by omega, by omega⟩ (fun v f2 H locs q hW2 => ?_)
  obtain ⟨⟨r2, rfl, p2⟩, g2, hR⟩ := q
  have hT2 := txi_rf hW1.2.2.2 hT1 g2 rk rfl rfl rfl hR (by decide) (by decide)
  have hZ2 := tie_row hW1.2.2.2 hZ1 g2 rx rk rfl rfl rfl rfl rfl (r8_rf rk g2 rfl hR (by decide +kernel) (by decide +kernel))
  refine lv_pop hx hb dL_law_397 rfl ?_
  refine lv_goto (tgt := 1677) hx hb dL_law_398 (by decide) ?_
  refine W.more (c2 := cells + 8) (s2 := slots + 2810) (by omega) (by omega) ?_
  exact hend kp L f2 S ls H locs ⟨hdr, hW2, rx, rk, hT2, hZ2⟩ hl
set_option maxHeartbeats 4000000 in
set_option maxRecDepth 100000 in
theorem law_case_5 (l : Launch) (G : va_G) (cI cJ cZ cD cR cT : ClassId) (σ : SE) (x k b Ls : Nat) (xs : Nat → Int32) (p : Program) (e : Env) (s : State) (m : MethodId) (below : List Frame) (meth : Method) (c : Code) (A : Nat → Prop) (Q : State → Prop) (i : Int32) (E : EV G cI cJ cZ cD cR cT A cL_law ret 4 RL p s m ([.ref b] : List Value).toArray meth c) (hSX : SX σ A s s.heap) (hCA : CA s) (hX : va_X b Ls xs s s.heap) (hbl : b < s.heap.size) (hbA : ¬ A b) (hi : 0 ≤ i.toInt ∧ i.toInt + 6 ≤ (Ls : Int) ∧ Ls ≤ 3072) (cells slots : Nat) (hc : cells + 8 ≤ room_1.cells) (hs : slots + 2810 ≤ room_1.slots) (kp : Nat → Nat) (L : List Nat) (f : Nat → va_E) (S : State) (ls : Array Slot) (H : Heap) (locs : List Loc) (hI : LWS G cI cJ cZ cD cR cT A kp L f x k s S H locs) (hl : lv_has ls 4 [(3, .int i), (2, .ref k), (1, .ref x), (0, .ref b)])
  (hend : ∀ (kp : Nat → Nat) (L : List Nat) (f : Nat → va_E) (S : State) (ls : Array Slot) (H : Heap) (locs : List Loc), LWS G cI cJ cZ cD cR cT A kp L f x k s S H locs → lv_has ls 4 [(3, .int i), (2, .ref k), (1, .ref x), (0, .ref b)] → W p l e room_1 S m ([.ref b] : List Value).toArray below meth c H locs (cells + 8) (slots + 2810) Q (F0 m 1677 ls [])) : W p l e room_1 S m ([.ref b] : List Value).toArray below meth c H locs cells slots Q (F0 m 401 ls []) := by
  obtain ⟨hdr, hW, rx, rk, hT, hZ⟩ := hI
  have hq := hs_S hdr
  have ES := ev_S E hdr
  have hXS := xx_S hdr hX
  have hTH := hW.2.2.2
  obtain ⟨hx, hb, -, hml, hown, hts, -, -, -⟩ := id ES
  have rx0 := rx
  have rk0 := rk
  refine lv_aload_n hx hb dL_law_401 rfl (lv_at hl 2 rfl) ?_
  refine law_arg (k := 1) hx hb hl hXS (by rw [hq]; exact hbl) hbA hW.2.2.1 hi rfl (by decide) dL_law_402 dL_law_403 dL_law_404 dL_law_405 dL_law_406 ?_
  refine law_arg (k := 2) hx hb hl hXS (by rw [hq]; exact hbl) hbA hW.2.2.1 hi rfl (by decide) dL_law_407 dL_law_408 dL_law_409 dL_law_410 dL_law_411 ?_
  refine t_callV (As := [.int (ag xs i 1), .int (ag xs i 2)]) (rest := []) ES hW (c_X11_estate l G cI cJ cZ cD cR cT kp L f hW.2.2.2 _ x (ag xs i 1) (ag xs i 2) rx) rx (by decide) rfl wk_X11_estate tw_646 rfl ⟨Nat.le_of_ble_eq_true rfl, Nat.le_of_ble_eq_true rfl⟩ ⟨rfl, rfl⟩ hl.1 rfl (Nat.le_of_ble_eq_true rfl) dL_law_412 ⟨by omega, by omega⟩ (fun v f1 H locs q hW1 => ?_)
  obtain ⟨⟨r1, rfl, p1⟩, g1⟩ := q
  have hT1 := txi_fm hTH hT g1 rk0 rfl rfl rfl rfl
  have hZ1 := tie_fm hTH hZ g1 rx0 rk0 rfl rfl rfl rfl rfl rfl
  have hW := hW1
  refine lv_pop hx hb dL_law_415 rfl ?_
  refine lv_aload_n hx hb dL_law_416 rfl (lv_at hl 1 rfl) ?_
  refine law_arg (k := 1) hx hb hl hXS (by rw [hq]; exact hbl) hbA hW.2.2.1 hi rfl (by decide) dL_law_417 dL_law_418 dL_law_419 dL_law_420 dL_law_421 ?_
  refine law_arg (k := 2) hx hb hl hXS (by rw [hq]; exact hbl) hbA hW.2.2.1 hi rfl (by decide) dL_law_422 dL_law_423 dL_law_424 dL_law_425 dL_law_426 ?_
  refine t_callV (As := [.int (ag xs i 1), .int (ag xs i 2)]) (rest := []) ES hW1 (c_X12_estate l G cI cJ cZ cD cR cT kp L f1 hW1.2.2.2 _ k (ag xs i 1) (ag xs i 2) rk) rk (by decide) rfl wk_X12_estate tw_1607 rfl ⟨Nat.le_of_ble_eq_true rfl, Nat.le_of_ble_eq_true rfl⟩ ⟨rfl, rfl⟩ hl.1 rfl (Nat.le_of_ble_eq_true rfl) dL_law_427 ⟨by omega, by omega⟩ (fun v f2 H locs q hW2 => ?_)
  obtain ⟨⟨r2, rfl, p2⟩, g2, hR⟩ := q
  have hT2 := txi_rf hW1.2.2.2 hT1 g2 rk rfl rfl rfl hR (by decide) (by decide)
  have hZ2 := tie_row hW1.2.2.2 hZ1 g2 rx rk rfl rfl rfl rfl rfl (r8_rf rk g2 rfl hR (by decide +kernel) (by decide +kernel))
  refine lv_pop hx hb dL_law_430 rfl ?_
  refine lv_goto (tgt := 1677) hx hb dL_law_431 (by decide) ?_
  refine W.more (c2 := cells + 8) (s2 := slots + 2810) (by omega) (by omega) ?_
  exact hend kp L f2 S ls H locs ⟨hdr, hW2, rx, rk, hT2, hZ2⟩ hl
set_option maxHeartbeats 4000000 in
set_option maxRecDepth 100000 in
theorem law_case_6 (l : Launch) (G : va_G) (cI cJ cZ cD cR cT : ClassId) (σ : SE) (x k b Ls : Nat) (xs : Nat → Int32) (p : Program) (e : Env) (s : State) (m : MethodId) (below : List Frame) (meth : Method) (c : Code) (A : Nat → Prop) (Q : State → Prop) (i : Int32) (E : EV G cI cJ cZ cD cR cT A cL_law ret 4 RL p s m ([.ref b] : List Value).toArray meth c) (hSX : SX σ A s s.heap) (hCA : CA s) (hX : va_X b Ls xs s s.heap) (hbl : b < s.heap.size) (hbA : ¬ A b) (hi : 0 ≤ i.toInt ∧ i.toInt + 6 ≤ (Ls : Int) ∧ Ls ≤ 3072) (cells slots : Nat) (hc : cells + 8 ≤ room_1.cells) (hs : slots + 2810 ≤ room_1.slots) (kp : Nat → Nat) (L : List Nat) (f : Nat → va_E) (S : State) (ls : Array Slot) (H : Heap) (locs : List Loc) (hI : LWS G cI cJ cZ cD cR cT A kp L f x k s S H locs) (hl : lv_has ls 4 [(3, .int i), (2, .ref k), (1, .ref x), (0, .ref b)])
  (hend : ∀ (kp : Nat → Nat) (L : List Nat) (f : Nat → va_E) (S : State) (ls : Array Slot) (H : Heap) (locs : List Loc), LWS G cI cJ cZ cD cR cT A kp L f x k s S H locs → lv_has ls 4 [(3, .int i), (2, .ref k), (1, .ref x), (0, .ref b)] → W p l e room_1 S m ([.ref b] : List Value).toArray below meth c H locs (cells + 8) (slots + 2810) Q (F0 m 1677 ls [])) : W p l e room_1 S m ([.ref b] : List Value).toArray below meth c H locs cells slots Q (F0 m 434 ls []) := by
  obtain ⟨hdr, hW, rx, rk, hT, hZ⟩ := hI
  have hq := hs_S hdr
  have ES := ev_S E hdr
  have hXS := xx_S hdr hX
  have hTH := hW.2.2.2
  obtain ⟨hx, hb, -, hml, hown, hts, -, -, -⟩ := id ES
  have rx0 := rx
  have rk0 := rk
  refine lv_aload_n hx hb dL_law_434 rfl (lv_at hl 2 rfl) ?_
  refine law_arg (k := 1) hx hb hl hXS (by rw [hq]; exact hbl) hbA hW.2.2.1 hi rfl (by decide) dL_law_435 dL_law_436 dL_law_437 dL_law_438 dL_law_439 ?_
  refine law_arg (k := 2) hx hb hl hXS (by rw [hq]; exact hbl) hbA hW.2.2.1 hi rfl (by decide) dL_law_440 dL_law_441 dL_law_442 dL_law_443 dL_law_444 ?_
  refine law_arg (k := 3) hx hb hl hXS (by rw [hq]; exact hbl) hbA hW.2.2.1 hi rfl (by decide) dL_law_445 dL_law_446 dL_law_447 dL_law_448 dL_law_449 ?_
  refine law_arg (k := 4) hx hb hl hXS (by rw [hq]; exact hbl) hbA hW.2.2.1 hi rfl (by decide) dL_law_450 dL_law_451 dL_law_452 dL_law_453 dL_law_454 ?_
  refine t_callV (As := [.int (ag xs i 1), .int (ag xs i 2), .int (ag xs i 3), .int (ag xs i 4)]) (rest := []) ES hW (c_X11_field l G cI cJ cZ cD cR cT kp L f hW.2.2.2 _ x (ag xs i 1) (ag xs i 2) (ag xs i 3) (ag xs i 4) rx) rx (by decide) rfl wk_X11_field tw_654 rfl ⟨Nat.le_of_ble_eq_true rfl, Nat.le_of_ble_eq_true rfl⟩ ⟨rfl, rfl⟩ hl.1 rfl (Nat.le_of_ble_eq_true rfl) dL_law_455 ⟨by omega, by omega⟩ (fun v f1 H locs q hW1 => ?_)
  obtain ⟨⟨r1, rfl, p1⟩, g1⟩ := q
  have hT1 := txi_fm hTH hT g1 rk0 rfl rfl rfl rfl
  have hZ1 := tie_fm hTH hZ g1 rx0 rk0 rfl rfl rfl rfl rfl rfl
  have hW := hW1
  refine lv_pop hx hb dL_law_458 rfl ?_
  refine lv_aload_n hx hb dL_law_459 rfl (lv_at hl 1 rfl) ?_
  refine law_arg (k := 1) hx hb hl hXS (by rw [hq]; exact hbl) hbA hW.2.2.1 hi rfl (by decide) dL_law_460 dL_law_461 dL_law_462 dL_law_463 dL_law_464 ?_
  refine law_arg (k := 2) hx hb hl hXS (by rw [hq]; exact hbl) hbA hW.2.2.1 hi rfl (by decide) dL_law_465 dL_law_466 dL_law_467 dL_law_468 dL_law_469 ?_
  refine law_arg (k := 3) hx hb hl hXS (by rw [hq]; exact hbl) hbA hW.2.2.1 hi rfl (by decide) dL_law_470 dL_law_471 dL_law_472 dL_law_473 dL_law_474 ?_
  refine law_arg (k := 4) hx hb hl hXS (by rw [hq]; exact hbl) hbA hW.2.2.1 hi rfl (by decide) dL_law_475 dL_law_476 dL_law_477 dL_law_478 dL_law_479 ?_
  refine t_callV (As := [.int (ag xs i 1), .int (ag xs i 2), .int (ag xs i 3), .int (ag xs i 4)]) (rest := []) ES hW1 (c_X12_field_u l G cI cJ cZ cD cR cT kp L f1 hW1.2.2.2 _ k (ag xs i 1) (ag xs i 2) (ag xs i 3) (ag xs i 4) rk) rk (by decide) rfl wk_X12_field tw_1614 rfl ⟨Nat.le_of_ble_eq_true rfl, Nat.le_of_ble_eq_true rfl⟩ ⟨rfl, rfl⟩ hl.1 rfl (Nat.le_of_ble_eq_true rfl) dL_law_480 ⟨by omega, by omega⟩ (fun v f2 H locs q hW2 => ?_)
  obtain ⟨⟨r2, rfl, p2⟩, g2, hP, hR⟩ := q
  have hT2 := txi_rf hW1.2.2.2 hT1 g2 rk rfl rfl rfl hR (by decide) (by decide)
  have hZ2 := tie_row hW1.2.2.2 hZ1 g2 rx rk rfl rfl rfl rfl rfl (r8_pl rk g2 rfl hR (by decide +kernel) hP)
  refine lv_pop hx hb dL_law_483 rfl ?_
  refine lv_goto (tgt := 1677) hx hb dL_law_484 (by decide) ?_
  refine W.more (c2 := cells + 8) (s2 := slots + 2810) (by omega) (by omega) ?_
  exact hend kp L f2 S ls H locs ⟨hdr, hW2, rx, rk, hT2, hZ2⟩ hl
set_option maxHeartbeats 4000000 in
set_option maxRecDepth 100000 in
theorem law_case_7 (l : Launch) (G : va_G) (cI cJ cZ cD cR cT : ClassId) (σ : SE) (x k b Ls : Nat) (xs : Nat → Int32) (p : Program) (e : Env) (s : State) (m : MethodId) (below : List Frame) (meth : Method) (c : Code) (A : Nat → Prop) (Q : State → Prop) (i : Int32) (E : EV G cI cJ cZ cD cR cT A cL_law ret 4 RL p s m ([.ref b] : List Value).toArray meth c) (hSX : SX σ A s s.heap) (hCA : CA s) (hX : va_X b Ls xs s s.heap) (hbl : b < s.heap.size) (hbA : ¬ A b) (hi : 0 ≤ i.toInt ∧ i.toInt + 6 ≤ (Ls : Int) ∧ Ls ≤ 3072) (cells slots : Nat) (hc : cells + 8 ≤ room_1.cells) (hs : slots + 2810 ≤ room_1.slots) (kp : Nat → Nat) (L : List Nat) (f : Nat → va_E) (S : State) (ls : Array Slot) (H : Heap) (locs : List Loc) (hI : LWS G cI cJ cZ cD cR cT A kp L f x k s S H locs) (hl : lv_has ls 4 [(3, .int i), (2, .ref k), (1, .ref x), (0, .ref b)])
  (hend : ∀ (kp : Nat → Nat) (L : List Nat) (f : Nat → va_E) (S : State) (ls : Array Slot) (H : Heap) (locs : List Loc), LWS G cI cJ cZ cD cR cT A kp L f x k s S H locs → lv_has ls 4 [(3, .int i), (2, .ref k), (1, .ref x), (0, .ref b)] → W p l e room_1 S m ([.ref b] : List Value).toArray below meth c H locs (cells + 8) (slots + 2810) Q (F0 m 1677 ls [])) : W p l e room_1 S m ([.ref b] : List Value).toArray below meth c H locs cells slots Q (F0 m 487 ls []) := by
  obtain ⟨hdr, hW, rx, rk, hT, hZ⟩ := hI
  have hq := hs_S hdr
  have ES := ev_S E hdr
  have hXS := xx_S hdr hX
  have hTH := hW.2.2.2
  obtain ⟨hx, hb, -, hml, hown, hts, -, -, -⟩ := id ES
  have rx0 := rx
  have rk0 := rk
  refine lv_aload_n hx hb dL_law_487 rfl (lv_at hl 2 rfl) ?_
  refine law_arg (k := 1) hx hb hl hXS (by rw [hq]; exact hbl) hbA hW.2.2.1 hi rfl (by decide) dL_law_488 dL_law_489 dL_law_490 dL_law_491 dL_law_492 ?_
  refine law_arg (k := 2) hx hb hl hXS (by rw [hq]; exact hbl) hbA hW.2.2.1 hi rfl (by decide) dL_law_493 dL_law_494 dL_law_495 dL_law_496 dL_law_497 ?_
  refine t_callV (As := [.int (ag xs i 1), .int (ag xs i 2)]) (rest := []) ES hW (c_X11_of l G cI cJ cZ cD cR cT kp L f hW.2.2.2 _ x (ag xs i 1) (ag xs i 2) rx) rx (by decide) rfl wk_X11_of tw_671 rfl ⟨Nat.le_of_ble_eq_true rfl, Nat.le_of_ble_eq_true rfl⟩ ⟨rfl, rfl⟩ hl.1 rfl (Nat.le_of_ble_eq_true rfl) dL_law_498 ⟨by omega, by omega⟩ (fun v f1 H locs q hW1 => ?_)
  obtain ⟨⟨r1, rfl, p1⟩, g1⟩ := q
  have hT1 := txi_fm hTH hT g1 rk0 rfl rfl rfl rfl
  have hZ1 := tie_fm hTH hZ g1 rx0 rk0 rfl rfl rfl rfl rfl rfl
  have hW := hW1
  refine lv_pop hx hb dL_law_501 rfl ?_
  refine lv_aload_n hx hb dL_law_502 rfl (lv_at hl 1 rfl) ?_
  refine law_arg (k := 1) hx hb hl hXS (by rw [hq]; exact hbl) hbA hW.2.2.1 hi rfl (by decide) dL_law_503 dL_law_504 dL_law_505 dL_law_506 dL_law_507 ?_
  refine law_arg (k := 2) hx hb hl hXS (by rw [hq]; exact hbl) hbA hW.2.2.1 hi rfl (by decide) dL_law_508 dL_law_509 dL_law_510 dL_law_511 dL_law_512 ?_
  refine t_callV (As := [.int (ag xs i 1), .int (ag xs i 2)]) (rest := []) ES hW1 (c_X12_of l G cI cJ cZ cD cR cT kp L f1 hW1.2.2.2 _ k (ag xs i 1) (ag xs i 2) rk) rk (by decide) rfl wk_X12_of tw_1627 rfl ⟨Nat.le_of_ble_eq_true rfl, Nat.le_of_ble_eq_true rfl⟩ ⟨rfl, rfl⟩ hl.1 rfl (Nat.le_of_ble_eq_true rfl) dL_law_513 ⟨by omega, by omega⟩ (fun v f2 H locs q hW2 => ?_)
  obtain ⟨⟨r2, rfl, p2⟩, g2⟩ := q
  have hT2 := txi_fm hW1.2.2.2 hT1 g2 rk rfl rfl rfl rfl
  have hZ2 := tie_fm hW1.2.2.2 hZ1 g2 rx rk rfl rfl rfl rfl rfl rfl
  refine lv_pop hx hb dL_law_516 rfl ?_
  refine lv_goto (tgt := 1677) hx hb dL_law_517 (by decide) ?_
  refine W.more (c2 := cells + 8) (s2 := slots + 2810) (by omega) (by omega) ?_
  exact hend kp L f2 S ls H locs ⟨hdr, hW2, rx, rk, hT2, hZ2⟩ hl
set_option maxHeartbeats 4000000 in
set_option maxRecDepth 100000 in
theorem law_case_8 (l : Launch) (G : va_G) (cI cJ cZ cD cR cT : ClassId) (σ : SE) (x k b Ls : Nat) (xs : Nat → Int32) (p : Program) (e : Env) (s : State) (m : MethodId) (below : List Frame) (meth : Method) (c : Code) (A : Nat → Prop) (Q : State → Prop) (i : Int32) (E : EV G cI cJ cZ cD cR cT A cL_law ret 4 RL p s m ([.ref b] : List Value).toArray meth c) (hSX : SX σ A s s.heap) (hCA : CA s) (hX : va_X b Ls xs s s.heap) (hbl : b < s.heap.size) (hbA : ¬ A b) (hi : 0 ≤ i.toInt ∧ i.toInt + 6 ≤ (Ls : Int) ∧ Ls ≤ 3072) (cells slots : Nat) (hc : cells + 8 ≤ room_1.cells) (hs : slots + 2810 ≤ room_1.slots) (kp : Nat → Nat) (L : List Nat) (f : Nat → va_E) (S : State) (ls : Array Slot) (H : Heap) (locs : List Loc) (hI : LWS G cI cJ cZ cD cR cT A kp L f x k s S H locs) (hl : lv_has ls 4 [(3, .int i), (2, .ref k), (1, .ref x), (0, .ref b)])
  (hend : ∀ (kp : Nat → Nat) (L : List Nat) (f : Nat → va_E) (S : State) (ls : Array Slot) (H : Heap) (locs : List Loc), LWS G cI cJ cZ cD cR cT A kp L f x k s S H locs → lv_has ls 4 [(3, .int i), (2, .ref k), (1, .ref x), (0, .ref b)] → W p l e room_1 S m ([.ref b] : List Value).toArray below meth c H locs (cells + 8) (slots + 2810) Q (F0 m 1677 ls [])) : W p l e room_1 S m ([.ref b] : List Value).toArray below meth c H locs cells slots Q (F0 m 520 ls []) := by
  obtain ⟨hdr, hW, rx, rk, hT, hZ⟩ := hI
  have hq := hs_S hdr
  have ES := ev_S E hdr
  have hXS := xx_S hdr hX
  have hTH := hW.2.2.2
  obtain ⟨hx, hb, -, hml, hown, hts, -, -, -⟩ := id ES
  have rx0 := rx
  have rk0 := rk
  refine lv_aload_n hx hb dL_law_520 rfl (lv_at hl 2 rfl) ?_
  refine law_arg (k := 1) hx hb hl hXS (by rw [hq]; exact hbl) hbA hW.2.2.1 hi rfl (by decide) dL_law_521 dL_law_522 dL_law_523 dL_law_524 dL_law_525 ?_
  refine law_arg (k := 2) hx hb hl hXS (by rw [hq]; exact hbl) hbA hW.2.2.1 hi rfl (by decide) dL_law_526 dL_law_527 dL_law_528 dL_law_529 dL_law_530 ?_
  refine t_callV (As := [.int (ag xs i 1), .int (ag xs i 2)]) (rest := []) ES hW (c_X11_tells l G cI cJ cZ cD cR cT kp L f hW.2.2.2 _ x (ag xs i 1) (ag xs i 2) rx) rx (by decide) rfl wk_X11_tells tw_679 rfl ⟨Nat.le_of_ble_eq_true rfl, Nat.le_of_ble_eq_true rfl⟩ ⟨rfl, rfl⟩ hl.1 rfl (Nat.le_of_ble_eq_true rfl) dL_law_531 ⟨by omega, by omega⟩ (fun v f1 H locs q hW1 => ?_)
  obtain ⟨⟨r1, rfl, p1⟩, g1⟩ := q
  have hT1 := txi_fm hTH hT g1 rk0 rfl rfl rfl rfl
  have hZ1 := tie_fm hTH hZ g1 rx0 rk0 rfl rfl rfl rfl rfl rfl
  have hW := hW1
  refine lv_pop hx hb dL_law_534 rfl ?_
  refine lv_aload_n hx hb dL_law_535 rfl (lv_at hl 1 rfl) ?_
  refine law_arg (k := 1) hx hb hl hXS (by rw [hq]; exact hbl) hbA hW.2.2.1 hi rfl (by decide) dL_law_536 dL_law_537 dL_law_538 dL_law_539 dL_law_540 ?_
  refine law_arg (k := 2) hx hb hl hXS (by rw [hq]; exact hbl) hbA hW.2.2.1 hi rfl (by decide) dL_law_541 dL_law_542 dL_law_543 dL_law_544 dL_law_545 ?_
  refine t_callV (As := [.int (ag xs i 1), .int (ag xs i 2)]) (rest := []) ES hW1 (c_X12_tells l G cI cJ cZ cD cR cT kp L f1 hW1.2.2.2 _ k (ag xs i 1) (ag xs i 2) rk hT1.1) rk (by decide) rfl wk_X12_tells tw_1635 rfl ⟨Nat.le_of_ble_eq_true rfl, Nat.le_of_ble_eq_true rfl⟩ ⟨rfl, rfl⟩ hl.1 rfl (Nat.le_of_ble_eq_true rfl) dL_law_546 ⟨by omega, by omega⟩ (fun v f2 H locs q hW2 => ?_)
  obtain ⟨⟨r2, rfl, p2⟩, g2⟩ := q
  have hT2 := txi_fm hW1.2.2.2 hT1 g2 rk rfl rfl rfl rfl
  have hZ2 := tie_fm hW1.2.2.2 hZ1 g2 rx rk rfl rfl rfl rfl rfl rfl
  refine lv_pop hx hb dL_law_549 rfl ?_
  refine lv_goto (tgt := 1677) hx hb dL_law_550 (by decide) ?_
  refine W.more (c2 := cells + 8) (s2 := slots + 2810) (by omega) (by omega) ?_
  exact hend kp L f2 S ls H locs ⟨hdr, hW2, rx, rk, hT2, hZ2⟩ hl
set_option maxHeartbeats 4000000 in
set_option maxRecDepth 100000 in
theorem law_case_9 (l : Launch) (G : va_G) (cI cJ cZ cD cR cT : ClassId) (σ : SE) (x k b Ls : Nat) (xs : Nat → Int32) (p : Program) (e : Env) (s : State) (m : MethodId) (below : List Frame) (meth : Method) (c : Code) (A : Nat → Prop) (Q : State → Prop) (i : Int32) (E : EV G cI cJ cZ cD cR cT A cL_law ret 4 RL p s m ([.ref b] : List Value).toArray meth c) (hSX : SX σ A s s.heap) (hCA : CA s) (hX : va_X b Ls xs s s.heap) (hbl : b < s.heap.size) (hbA : ¬ A b) (hi : 0 ≤ i.toInt ∧ i.toInt + 6 ≤ (Ls : Int) ∧ Ls ≤ 3072) (cells slots : Nat) (hc : cells + 8 ≤ room_1.cells) (hs : slots + 2810 ≤ room_1.slots) (kp : Nat → Nat) (L : List Nat) (f : Nat → va_E) (S : State) (ls : Array Slot) (H : Heap) (locs : List Loc) (hI : LWS G cI cJ cZ cD cR cT A kp L f x k s S H locs) (hl : lv_has ls 4 [(3, .int i), (2, .ref k), (1, .ref x), (0, .ref b)])
  (hend : ∀ (kp : Nat → Nat) (L : List Nat) (f : Nat → va_E) (S : State) (ls : Array Slot) (H : Heap) (locs : List Loc), LWS G cI cJ cZ cD cR cT A kp L f x k s S H locs → lv_has ls 4 [(3, .int i), (2, .ref k), (1, .ref x), (0, .ref b)] → W p l e room_1 S m ([.ref b] : List Value).toArray below meth c H locs (cells + 8) (slots + 2810) Q (F0 m 1677 ls [])) : W p l e room_1 S m ([.ref b] : List Value).toArray below meth c H locs cells slots Q (F0 m 553 ls []) := by
  obtain ⟨hdr, hW, rx, rk, hT, hZ⟩ := hI
  have hq := hs_S hdr
  have ES := ev_S E hdr
  have hXS := xx_S hdr hX
  have hTH := hW.2.2.2
  obtain ⟨hx, hb, -, hml, hown, hts, -, -, -⟩ := id ES
  have rx0 := rx
  have rk0 := rk
  refine lv_aload_n hx hb dL_law_553 rfl (lv_at hl 2 rfl) ?_
  refine law_arg (k := 1) hx hb hl hXS (by rw [hq]; exact hbl) hbA hW.2.2.1 hi rfl (by decide) dL_law_554 dL_law_555 dL_law_556 dL_law_557 dL_law_558 ?_
  refine law_arg (k := 2) hx hb hl hXS (by rw [hq]; exact hbl) hbA hW.2.2.1 hi rfl (by decide) dL_law_559 dL_law_560 dL_law_561 dL_law_562 dL_law_563 ?_
  refine t_callV (As := [.int (ag xs i 1), .int (ag xs i 2)]) (rest := []) ES hW (c_X11_owner l G cI cJ cZ cD cR cT kp L f hW.2.2.2 _ x (ag xs i 1) (ag xs i 2) rx) rx (by decide) rfl wk_X11_owner tw_768 rfl ⟨Nat.le_of_ble_eq_true rfl, Nat.le_of_ble_eq_true rfl⟩ ⟨rfl, rfl⟩ hl.1 rfl (Nat.le_of_ble_eq_true rfl) dL_law_564 ⟨by omega, by omega⟩ (fun v f1 H locs q hW1 => ?_)
  obtain ⟨⟨r1, rfl, p1⟩, g1⟩ := q
  have hT1 := txi_fm hTH hT g1 rk0 rfl rfl rfl rfl
  have hZ1 := tie_fm hTH hZ g1 rx0 rk0 rfl rfl rfl rfl rfl rfl
  have hW := hW1
  refine lv_pop hx hb dL_law_567 rfl ?_
  refine lv_aload_n hx hb dL_law_568 rfl (lv_at hl 1 rfl) ?_
  refine law_arg (k := 1) hx hb hl hXS (by rw [hq]; exact hbl) hbA hW.2.2.1 hi rfl (by decide) dL_law_569 dL_law_570 dL_law_571 dL_law_572 dL_law_573 ?_
  refine law_arg (k := 2) hx hb hl hXS (by rw [hq]; exact hbl) hbA hW.2.2.1 hi rfl (by decide) dL_law_574 dL_law_575 dL_law_576 dL_law_577 dL_law_578 ?_
  refine t_callV (As := [.int (ag xs i 1), .int (ag xs i 2)]) (rest := []) ES hW1 (c_X12_owner l G cI cJ cZ cD cR cT kp L f1 hW1.2.2.2 _ k (ag xs i 1) (ag xs i 2) rk) rk (by decide) rfl wk_X12_owner tw_1707 rfl ⟨Nat.le_of_ble_eq_true rfl, Nat.le_of_ble_eq_true rfl⟩ ⟨rfl, rfl⟩ hl.1 rfl (Nat.le_of_ble_eq_true rfl) dL_law_579 ⟨by omega, by omega⟩ (fun v f2 H locs q hW2 => ?_)
  obtain ⟨⟨r2, rfl, p2⟩, g2⟩ := q
  have hT2 := txi_fm hW1.2.2.2 hT1 g2 rk rfl rfl rfl rfl
  have hZ2 := tie_fm hW1.2.2.2 hZ1 g2 rx rk rfl rfl rfl rfl rfl rfl
  refine lv_pop hx hb dL_law_582 rfl ?_
  refine lv_goto (tgt := 1677) hx hb dL_law_583 (by decide) ?_
  refine W.more (c2 := cells + 8) (s2 := slots + 2810) (by omega) (by omega) ?_
  exact hend kp L f2 S ls H locs ⟨hdr, hW2, rx, rk, hT2, hZ2⟩ hl
set_option maxHeartbeats 4000000 in
set_option maxRecDepth 100000 in
theorem law_case_10 (l : Launch) (G : va_G) (cI cJ cZ cD cR cT : ClassId) (σ : SE) (x k b Ls : Nat) (xs : Nat → Int32) (p : Program) (e : Env) (s : State) (m : MethodId) (below : List Frame) (meth : Method) (c : Code) (A : Nat → Prop) (Q : State → Prop) (i : Int32) (E : EV G cI cJ cZ cD cR cT A cL_law ret 4 RL p s m ([.ref b] : List Value).toArray meth c) (hSX : SX σ A s s.heap) (hCA : CA s) (hX : va_X b Ls xs s s.heap) (hbl : b < s.heap.size) (hbA : ¬ A b) (hi : 0 ≤ i.toInt ∧ i.toInt + 6 ≤ (Ls : Int) ∧ Ls ≤ 3072) (cells slots : Nat) (hc : cells + 8 ≤ room_1.cells) (hs : slots + 2810 ≤ room_1.slots) (kp : Nat → Nat) (L : List Nat) (f : Nat → va_E) (S : State) (ls : Array Slot) (H : Heap) (locs : List Loc) (hI : LWS G cI cJ cZ cD cR cT A kp L f x k s S H locs) (hl : lv_has ls 4 [(3, .int i), (2, .ref k), (1, .ref x), (0, .ref b)])
  (hend : ∀ (kp : Nat → Nat) (L : List Nat) (f : Nat → va_E) (S : State) (ls : Array Slot) (H : Heap) (locs : List Loc), LWS G cI cJ cZ cD cR cT A kp L f x k s S H locs → lv_has ls 4 [(3, .int i), (2, .ref k), (1, .ref x), (0, .ref b)] → W p l e room_1 S m ([.ref b] : List Value).toArray below meth c H locs (cells + 8) (slots + 2810) Q (F0 m 1677 ls [])) : W p l e room_1 S m ([.ref b] : List Value).toArray below meth c H locs cells slots Q (F0 m 586 ls []) := by
  obtain ⟨hdr, hW, rx, rk, hT, hZ⟩ := hI
  have hq := hs_S hdr
  have ES := ev_S E hdr
  have hXS := xx_S hdr hX
  have hTH := hW.2.2.2
  obtain ⟨hx, hb, -, hml, hown, hts, -, -, -⟩ := id ES
  have rx0 := rx
  have rk0 := rk
  refine lv_aload_n hx hb dL_law_586 rfl (lv_at hl 2 rfl) ?_
  refine t_callV (As := []) (rest := []) ES hW (c_X11_fund l G cI cJ cZ cD cR cT kp L f hW.2.2.2 _ x  rx) rx (by decide) rfl wk_X11_fund tw_772 rfl ⟨Nat.le_of_ble_eq_true rfl, Nat.le_of_ble_eq_true rfl⟩ ⟨rfl, rfl⟩ hl.1 rfl (Nat.le_of_ble_eq_true rfl) dL_law_587 ⟨by omega, by omega⟩ (fun v f1 H locs q hW1 => ?_)
  obtain ⟨⟨r1, rfl, p1⟩, g1⟩ := q
  have hT1 := txi_fm hTH hT g1 rk0 rfl rfl rfl rfl
  have hZ1 := tie_fm hTH hZ g1 rx0 rk0 rfl rfl rfl rfl rfl rfl
  have hW := hW1
  refine lv_pop hx hb dL_law_590 rfl ?_
  refine lv_aload_n hx hb dL_law_591 rfl (lv_at hl 1 rfl) ?_
  refine t_callV (As := []) (rest := []) ES hW1 (c_X12_fund l G cI cJ cZ cD cR cT kp L f1 hW1.2.2.2 _ k  rk) rk (by decide) rfl wk_X12_fund tw_1711 rfl ⟨Nat.le_of_ble_eq_true rfl, Nat.le_of_ble_eq_true rfl⟩ ⟨rfl, rfl⟩ hl.1 rfl (Nat.le_of_ble_eq_true rfl) dL_law_592 ⟨by omega, by omega⟩ (fun v f2 H locs q hW2 => ?_)
  obtain ⟨⟨r2, rfl, p2⟩, g2⟩ := q
  have hT2 := txi_fm hW1.2.2.2 hT1 g2 rk rfl rfl rfl rfl
  have hZ2 := tie_fm hW1.2.2.2 hZ1 g2 rx rk rfl rfl rfl rfl rfl rfl
  refine lv_pop hx hb dL_law_595 rfl ?_
  refine lv_goto (tgt := 1677) hx hb dL_law_596 (by decide) ?_
  refine W.more (c2 := cells + 8) (s2 := slots + 2810) (by omega) (by omega) ?_
  exact hend kp L f2 S ls H locs ⟨hdr, hW2, rx, rk, hT2, hZ2⟩ hl
set_option maxHeartbeats 4000000 in
set_option maxRecDepth 100000 in
theorem law_case_11 (l : Launch) (G : va_G) (cI cJ cZ cD cR cT : ClassId) (σ : SE) (x k b Ls : Nat) (xs : Nat → Int32) (p : Program) (e : Env) (s : State) (m : MethodId) (below : List Frame) (meth : Method) (c : Code) (A : Nat → Prop) (Q : State → Prop) (i : Int32) (E : EV G cI cJ cZ cD cR cT A cL_law ret 4 RL p s m ([.ref b] : List Value).toArray meth c) (hSX : SX σ A s s.heap) (hCA : CA s) (hX : va_X b Ls xs s s.heap) (hbl : b < s.heap.size) (hbA : ¬ A b) (hi : 0 ≤ i.toInt ∧ i.toInt + 6 ≤ (Ls : Int) ∧ Ls ≤ 3072) (cells slots : Nat) (hc : cells + 8 ≤ room_1.cells) (hs : slots + 2810 ≤ room_1.slots) (kp : Nat → Nat) (L : List Nat) (f : Nat → va_E) (S : State) (ls : Array Slot) (H : Heap) (locs : List Loc) (hI : LWS G cI cJ cZ cD cR cT A kp L f x k s S H locs) (hl : lv_has ls 4 [(3, .int i), (2, .ref k), (1, .ref x), (0, .ref b)])
  (hend : ∀ (kp : Nat → Nat) (L : List Nat) (f : Nat → va_E) (S : State) (ls : Array Slot) (H : Heap) (locs : List Loc), LWS G cI cJ cZ cD cR cT A kp L f x k s S H locs → lv_has ls 4 [(3, .int i), (2, .ref k), (1, .ref x), (0, .ref b)] → W p l e room_1 S m ([.ref b] : List Value).toArray below meth c H locs (cells + 8) (slots + 2810) Q (F0 m 1677 ls [])) : W p l e room_1 S m ([.ref b] : List Value).toArray below meth c H locs cells slots Q (F0 m 599 ls []) := by
  obtain ⟨hdr, hW, rx, rk, hT, hZ⟩ := hI
  have hq := hs_S hdr
  have ES := ev_S E hdr
  have hXS := xx_S hdr hX
  have hTH := hW.2.2.2
  obtain ⟨hx, hb, -, hml, hown, hts, -, -, -⟩ := id ES
  have rx0 := rx
  have rk0 := rk
  refine lv_aload_n hx hb dL_law_599 rfl (lv_at hl 2 rfl) ?_
  refine law_arg (k := 1) hx hb hl hXS (by rw [hq]; exact hbl) hbA hW.2.2.1 hi rfl (by decide) dL_law_600 dL_law_601 dL_law_602 dL_law_603 dL_law_604 ?_
  refine law_arg (k := 2) hx hb hl hXS (by rw [hq]; exact hbl) hbA hW.2.2.1 hi rfl (by decide) dL_law_605 dL_law_606 dL_law_607 dL_law_608 dL_law_609 ?_
  refine t_callV (As := [.int (ag xs i 1), .int (ag xs i 2)]) (rest := []) ES hW (c_X11_price l G cI cJ cZ cD cR cT kp L f hW.2.2.2 _ x (ag xs i 1) (ag xs i 2) rx) rx (by decide) rfl wk_X11_price tw_776 rfl ⟨Nat.le_of_ble_eq_true rfl, Nat.le_of_ble_eq_true rfl⟩ ⟨rfl, rfl⟩ hl.1 rfl (Nat.le_of_ble_eq_true rfl) dL_law_610 ⟨by omega, by omega⟩ (fun v f1 H locs q hW1 => ?_)
  obtain ⟨⟨r1, rfl, p1⟩, g1⟩ := q
  have hT1 := txi_fm hTH hT g1 rk0 rfl rfl rfl rfl
  have hZ1 := tie_fm hTH hZ g1 rx0 rk0 rfl rfl rfl rfl rfl rfl
  have hW := hW1
  refine lv_pop hx hb dL_law_613 rfl ?_
  refine lv_aload_n hx hb dL_law_614 rfl (lv_at hl 1 rfl) ?_
  refine law_arg (k := 1) hx hb hl hXS (by rw [hq]; exact hbl) hbA hW.2.2.1 hi rfl (by decide) dL_law_615 dL_law_616 dL_law_617 dL_law_618 dL_law_619 ?_
  refine law_arg (k := 2) hx hb hl hXS (by rw [hq]; exact hbl) hbA hW.2.2.1 hi rfl (by decide) dL_law_620 dL_law_621 dL_law_622 dL_law_623 dL_law_624 ?_
  refine t_callV (As := [.int (ag xs i 1), .int (ag xs i 2)]) (rest := []) ES hW1 (c_X12_price l G cI cJ cZ cD cR cT kp L f1 hW1.2.2.2 _ k (ag xs i 1) (ag xs i 2) rk) rk (by decide) rfl wk_X12_price tw_1715 rfl ⟨Nat.le_of_ble_eq_true rfl, Nat.le_of_ble_eq_true rfl⟩ ⟨rfl, rfl⟩ hl.1 rfl (Nat.le_of_ble_eq_true rfl) dL_law_625 ⟨by omega, by omega⟩ (fun v f2 H locs q hW2 => ?_)
  obtain ⟨⟨r2, rfl, p2⟩, g2, hR⟩ := q
  have hT2 := txi_rf hW1.2.2.2 hT1 g2 rk rfl rfl rfl hR (by decide) (by decide)
  have hZ2 := tie_row hW1.2.2.2 hZ1 g2 rx rk rfl rfl rfl rfl rfl (r8_rf rk g2 rfl hR (by decide +kernel) (by decide +kernel))
  refine lv_pop hx hb dL_law_628 rfl ?_
  refine lv_goto (tgt := 1677) hx hb dL_law_629 (by decide) ?_
  refine W.more (c2 := cells + 8) (s2 := slots + 2810) (by omega) (by omega) ?_
  exact hend kp L f2 S ls H locs ⟨hdr, hW2, rx, rk, hT2, hZ2⟩ hl
