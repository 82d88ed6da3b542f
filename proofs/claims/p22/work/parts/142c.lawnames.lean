theorem dL_isStep_171 : decode cL_isStep 171 = .ok (.iload 9, 2) := by decide +kernel
theorem dL_isStep_173 : decode cL_isStep 173 = .ok (.istore 9, 2) := by decide +kernel
theorem dL_isStep_175 : decode cL_isStep 175 = .ok (.aload_n 0, 1) := by decide +kernel
theorem dL_isStep_176 : decode cL_isStep 176 = .ok (.iconst 3, 1) := by decide +kernel
theorem dL_isStep_177 : decode cL_isStep 177 = .ok (.invokevirtual 9, 3) := by decide +kernel
theorem dL_isStep_180 : decode cL_isStep 180 = .ok (.istore 10, 2) := by decide +kernel
theorem dL_isStep_182 : decode cL_isStep 182 = .ok (.iload 10, 2) := by decide +kernel
theorem dL_isStep_184 : decode cL_isStep 184 = .ok (.bipush 100, 2) := by decide +kernel
theorem dL_isStep_186 : decode cL_isStep 186 = .ok (.if_icmp .le 5, 3) := by decide +kernel
theorem dL_isStep_189 : decode cL_isStep 189 = .ok (.iconst 1, 1) := by decide +kernel
theorem dL_isStep_190 : decode cL_isStep 190 = .ok (.ireturn, 1) := by decide +kernel
theorem dL_isStep_191 : decode cL_isStep 191 = .ok (.aload_n 0, 1) := by decide +kernel
theorem dL_isStep_192 : decode cL_isStep 192 = .ok (.iload 6, 2) := by decide +kernel
theorem dL_isStep_194 : decode cL_isStep 194 = .ok (.iload 7, 2) := by decide +kernel
theorem dL_isStep_196 : decode cL_isStep 196 = .ok (.i2c, 1) := by decide +kernel
theorem dL_isStep_197 : decode cL_isStep 197 = .ok (.iload 8, 2) := by decide +kernel
theorem dL_isStep_199 : decode cL_isStep 199 = .ok (.iload 9, 2) := by decide +kernel
theorem dL_isStep_201 : decode cL_isStep 201 = .ok (.invokevirtual 21, 3) := by decide +kernel
theorem dL_isStep_204 : decode cL_isStep 204 = .ok (.istore 11, 2) := by decide +kernel
theorem dL_isStep_206 : decode cL_isStep 206 = .ok (.iload 11, 2) := by decide +kernel
theorem dL_isStep_208 : decode cL_isStep 208 = .ok (.aload_n 1, 1) := by decide +kernel
theorem dL_isStep_209 : decode cL_isStep 209 = .ok (.bipush 9, 2) := by decide +kernel
theorem dL_isStep_211 : decode cL_isStep 211 = .ok (.iload 6, 2) := by decide +kernel
theorem dL_isStep_213 : decode cL_isStep 213 = .ok (.isub, 1) := by decide +kernel
theorem dL_isStep_214 : decode cL_isStep 214 = .ok (.iload 7, 2) := by decide +kernel
theorem dL_isStep_216 : decode cL_isStep 216 = .ok (.invokestatic 25, 3) := by decide +kernel
theorem dL_isStep_219 : decode cL_isStep 219 = .ok (.iload 8, 2) := by decide +kernel
theorem dL_isStep_221 : decode cL_isStep 221 = .ok (.iload 9, 2) := by decide +kernel
theorem dL_isStep_223 : decode cL_isStep 223 = .ok (.invokestatic 29, 3) := by decide +kernel
theorem dL_isStep_226 : decode cL_isStep 226 = .ok (.invokevirtual 21, 3) := by decide +kernel
theorem dL_isStep_229 : decode cL_isStep 229 = .ok (.if_icmp .ne 63, 3) := by decide +kernel
theorem dL_isStep_232 : decode cL_isStep 232 = .ok (.iload 4, 2) := by decide +kernel
theorem dL_isStep_234 : decode cL_isStep 234 = .ok (.bipush 20, 2) := by decide +kernel
theorem dL_isStep_236 : decode cL_isStep 236 = .ok (.if_icmp .ne 13, 3) := by decide +kernel
theorem dL_isStep_239 : decode cL_isStep 239 = .ok (.iload 11, 2) := by decide +kernel
theorem dL_isStep_241 : decode cL_isStep 241 = .ok (.bipush (-3), 2) := by decide +kernel
theorem dL_isStep_243 : decode cL_isStep 243 = .ok (.if_icmp .ne 49, 3) := by decide +kernel
theorem dL_isStep_246 : decode cL_isStep 246 = .ok (.goto 42, 3) := by decide +kernel
theorem dL_isStep_249 : decode cL_isStep 249 = .ok (.iload 11, 2) := by decide +kernel
theorem dL_isStep_251 : decode cL_isStep 251 = .ok (.iload 4, 2) := by decide +kernel
theorem dL_isStep_253 : decode cL_isStep 253 = .ok (.if_icmp .ne 39, 3) := by decide +kernel
theorem dL_isStep_256 : decode cL_isStep 256 = .ok (.aload_n 0, 1) := by decide +kernel
theorem dL_isStep_257 : decode cL_isStep 257 = .ok (.iload 4, 2) := by decide +kernel
theorem dL_isStep_259 : decode cL_isStep 259 = .ok (.iconst 2, 1) := by decide +kernel
theorem dL_isStep_260 : decode cL_isStep 260 = .ok (.invokevirtual 32, 3) := by decide +kernel
theorem dL_isStep_263 : decode cL_isStep 263 = .ok (.iload 8, 2) := by decide +kernel
theorem dL_isStep_265 : decode cL_isStep 265 = .ok (.if_icmp .ne 27, 3) := by decide +kernel
theorem dL_isStep_268 : decode cL_isStep 268 = .ok (.aload_n 0, 1) := by decide +kernel
theorem dL_isStep_269 : decode cL_isStep 269 = .ok (.bipush 9, 2) := by decide +kernel
theorem dL_isStep_271 : decode cL_isStep 271 = .ok (.invokevirtual 9, 3) := by decide +kernel
theorem dL_isStep_274 : decode cL_isStep 274 = .ok (.iconst 1, 1) := by decide +kernel
theorem dL_isStep_275 : decode cL_isStep 275 = .ok (.if_icmp .eq 13, 3) := by decide +kernel
theorem dL_isStep_278 : decode cL_isStep 278 = .ok (.aload_n 0, 1) := by decide +kernel
theorem dL_isStep_279 : decode cL_isStep 279 = .ok (.iconst 3, 1) := by decide +kernel
theorem dL_isStep_280 : decode cL_isStep 280 = .ok (.invokevirtual 9, 3) := by decide +kernel
theorem dL_isStep_283 : decode cL_isStep 283 = .ok (.iload 10, 2) := by decide +kernel
theorem dL_isStep_285 : decode cL_isStep 285 = .ok (.if_icmp .lt 7, 3) := by decide +kernel
theorem dL_isStep_288 : decode cL_isStep 288 = .ok (.iconst 1, 1) := by decide +kernel
theorem dL_isStep_289 : decode cL_isStep 289 = .ok (.goto 4, 3) := by decide +kernel
theorem dL_isStep_292 : decode cL_isStep 292 = .ok (.iconst 0, 1) := by decide +kernel
theorem dL_isStep_293 : decode cL_isStep 293 = .ok (.ireturn, 1) := by decide +kernel
theorem dL_isStep_294 : decode cL_isStep 294 = .ok (.aload_n 0, 1) := by decide +kernel
theorem dL_isStep_295 : decode cL_isStep 295 = .ok (.iload 5, 2) := by decide +kernel
theorem dL_isStep_297 : decode cL_isStep 297 = .ok (.invokevirtual 35, 3) := by decide +kernel
theorem dL_isStep_300 : decode cL_isStep 300 = .ok (.istore 6, 2) := by decide +kernel
theorem dL_isStep_302 : decode cL_isStep 302 = .ok (.iload 6, 2) := by decide +kernel
theorem dL_isStep_304 : decode cL_isStep 304 = .ok (.aload_n 1, 1) := by decide +kernel
theorem dL_isStep_305 : decode cL_isStep 305 = .ok (.iload 5, 2) := by decide +kernel
theorem dL_isStep_307 : decode cL_isStep 307 = .ok (.invokevirtual 35, 3) := by decide +kernel
theorem dL_isStep_310 : decode cL_isStep 310 = .ok (.if_icmp .ne 27, 3) := by decide +kernel
theorem dL_isStep_313 : decode cL_isStep 313 = .ok (.iload 6, 2) := by decide +kernel
theorem dL_isStep_315 : decode cL_isStep 315 = .ok (.iload 5, 2) := by decide +kernel
theorem dL_isStep_317 : decode cL_isStep 317 = .ok (.iload 4, 2) := by decide +kernel
theorem dL_isStep_319 : decode cL_isStep 319 = .ok (.if_icmp .ne 7, 3) := by decide +kernel
theorem dL_isStep_322 : decode cL_isStep 322 = .ok (.iconst (-1), 1) := by decide +kernel
theorem dL_isStep_323 : decode cL_isStep 323 = .ok (.goto 7, 3) := by decide +kernel
theorem dL_isStep_326 : decode cL_isStep 326 = .ok (.iload 4, 2) := by decide +kernel
theorem dL_isStep_328 : decode cL_isStep 328 = .ok (.iconst 1, 1) := by decide +kernel
theorem dL_isStep_329 : decode cL_isStep 329 = .ok (.isub, 1) := by decide +kernel
theorem dL_isStep_330 : decode cL_isStep 330 = .ok (.if_icmp .ne 7, 3) := by decide +kernel
theorem dL_isStep_333 : decode cL_isStep 333 = .ok (.iconst 1, 1) := by decide +kernel
theorem dL_isStep_334 : decode cL_isStep 334 = .ok (.goto 4, 3) := by decide +kernel
theorem dL_isStep_337 : decode cL_isStep 337 = .ok (.iconst 0, 1) := by decide +kernel
theorem dL_isStep_338 : decode cL_isStep 338 = .ok (.ireturn, 1) := by decide +kernel
theorem dL_isStep_339 : decode cL_isStep 339 = .ok (.aload_n 0, 1) := by decide +kernel
theorem dL_isStep_340 : decode cL_isStep 340 = .ok (.aload_n 0, 1) := by decide +kernel
theorem dL_isStep_341 : decode cL_isStep 341 = .ok (.iload 5, 2) := by decide +kernel
theorem dL_isStep_343 : decode cL_isStep 343 = .ok (.iconst 0, 1) := by decide +kernel
theorem dL_isStep_344 : decode cL_isStep 344 = .ok (.invokevirtual 32, 3) := by decide +kernel
theorem dL_isStep_347 : decode cL_isStep 347 = .ok (.iconst 0, 1) := by decide +kernel
theorem dL_isStep_348 : decode cL_isStep 348 = .ok (.invokevirtual 38, 3) := by decide +kernel
theorem dL_isStep_351 : decode cL_isStep 351 = .ok (.istore 6, 2) := by decide +kernel
theorem dL_isStep_353 : decode cL_isStep 353 = .ok (.aload_n 0, 1) := by decide +kernel
theorem dL_isStep_354 : decode cL_isStep 354 = .ok (.iload 5, 2) := by decide +kernel
theorem dL_isStep_356 : decode cL_isStep 356 = .ok (.invokevirtual 41, 3) := by decide +kernel
theorem dL_isStep_359 : decode cL_isStep 359 = .ok (.istore 7, 2) := by decide +kernel
theorem dL_isStep_361 : decode cL_isStep 361 = .ok (.iload 7, 2) := by decide +kernel
theorem dL_isStep_363 : decode cL_isStep 363 = .ok (.aload_n 1, 1) := by decide +kernel
theorem dL_isStep_364 : decode cL_isStep 364 = .ok (.iload 5, 2) := by decide +kernel
theorem dL_isStep_366 : decode cL_isStep 366 = .ok (.invokevirtual 41, 3) := by decide +kernel
theorem dL_isStep_369 : decode cL_isStep 369 = .ok (.if_icmp .ne 66, 3) := by decide +kernel
theorem dL_isStep_372 : decode cL_isStep 372 = .ok (.iload 5, 2) := by decide +kernel
theorem dL_isStep_374 : decode cL_isStep 374 = .ok (.iload 4, 2) := by decide +kernel
theorem dL_isStep_376 : decode cL_isStep 376 = .ok (.if_icmp .ne 12, 3) := by decide +kernel
theorem dL_isStep_379 : decode cL_isStep 379 = .ok (.iload 7, 2) := by decide +kernel
theorem dL_isStep_381 : decode cL_isStep 381 = .ok (.iconst (-1), 1) := by decide +kernel
theorem dL_isStep_382 : decode cL_isStep 382 = .ok (.if_icmp .ne 53, 3) := by decide +kernel
theorem dL_isStep_385 : decode cL_isStep 385 = .ok (.goto 46, 3) := by decide +kernel
theorem dL_isStep_388 : decode cL_isStep 388 = .ok (.iload 7, 2) := by decide +kernel
theorem dL_isStep_390 : decode cL_isStep 390 = .ok (.iload 6, 2) := by decide +kernel
theorem dL_isStep_392 : decode cL_isStep 392 = .ok (.iconst 1, 1) := by decide +kernel
theorem dL_isStep_393 : decode cL_isStep 393 = .ok (.if_icmp .ne 8, 3) := by decide +kernel
theorem dL_isStep_396 : decode cL_isStep 396 = .ok (.bipush (-5), 2) := by decide +kernel
theorem dL_isStep_398 : decode cL_isStep 398 = .ok (.goto 7, 3) := by decide +kernel
theorem dL_isStep_401 : decode cL_isStep 401 = .ok (.iload 6, 2) := by decide +kernel
theorem dL_isStep_403 : decode cL_isStep 403 = .ok (.iconst 1, 1) := by decide +kernel
theorem dL_isStep_404 : decode cL_isStep 404 = .ok (.isub, 1) := by decide +kernel
theorem dL_isStep_405 : decode cL_isStep 405 = .ok (.if_icmp .ne 30, 3) := by decide +kernel
theorem dL_isStep_408 : decode cL_isStep 408 = .ok (.aload_n 0, 1) := by decide +kernel
theorem dL_isStep_409 : decode cL_isStep 409 = .ok (.iconst 0, 1) := by decide +kernel
theorem dL_isStep_410 : decode cL_isStep 410 = .ok (.invokevirtual 9, 3) := by decide +kernel
theorem dL_isStep_413 : decode cL_isStep 413 = .ok (.iload 7, 2) := by decide +kernel
theorem dL_isStep_415 : decode cL_isStep 415 = .ok (.ifCond .ge 8, 3) := by decide +kernel
theorem dL_isStep_418 : decode cL_isStep 418 = .ok (.iload 4, 2) := by decide +kernel
theorem dL_isStep_420 : decode cL_isStep 420 = .ok (.goto 8, 3) := by decide +kernel
theorem dL_isStep_423 : decode cL_isStep 423 = .ok (.iload 4, 2) := by decide +kernel
theorem dL_isStep_425 : decode cL_isStep 425 = .ok (.iload 7, 2) := by decide +kernel
theorem dL_isStep_427 : decode cL_isStep 427 = .ok (.isub, 1) := by decide +kernel
theorem dL_isStep_428 : decode cL_isStep 428 = .ok (.if_icmp .ne 7, 3) := by decide +kernel
theorem dL_isStep_431 : decode cL_isStep 431 = .ok (.iconst 1, 1) := by decide +kernel
theorem dL_isStep_432 : decode cL_isStep 432 = .ok (.goto 4, 3) := by decide +kernel
theorem dL_isStep_435 : decode cL_isStep 435 = .ok (.iconst 0, 1) := by decide +kernel
theorem dL_isStep_436 : decode cL_isStep 436 = .ok (.ireturn, 1) := by decide +kernel
theorem dL_isStep_437 : decode cL_isStep 437 = .ok (.iload_n 3, 1) := by decide +kernel
theorem dL_isStep_438 : decode cL_isStep 438 = .ok (.iconst 2, 1) := by decide +kernel
theorem dL_isStep_439 : decode cL_isStep 439 = .ok (.invokestatic 15, 3) := by decide +kernel
theorem dL_isStep_442 : decode cL_isStep 442 = .ok (.ifCond .ne 7, 3) := by decide +kernel
theorem dL_isStep_445 : decode cL_isStep 445 = .ok (.iconst 1, 1) := by decide +kernel
theorem dL_isStep_446 : decode cL_isStep 446 = .ok (.goto 4, 3) := by decide +kernel
theorem dL_isStep_449 : decode cL_isStep 449 = .ok (.iconst 0, 1) := by decide +kernel
theorem dL_isStep_450 : decode cL_isStep 450 = .ok (.istore 6, 2) := by decide +kernel
theorem dL_isStep_452 : decode cL_isStep 452 = .ok (.aload_n 0, 1) := by decide +kernel
theorem dL_isStep_453 : decode cL_isStep 453 = .ok (.bipush 9, 2) := by decide +kernel
theorem dL_isStep_455 : decode cL_isStep 455 = .ok (.invokevirtual 9, 3) := by decide +kernel
theorem dL_isStep_458 : decode cL_isStep 458 = .ok (.iconst 1, 1) := by decide +kernel
theorem dL_isStep_459 : decode cL_isStep 459 = .ok (.if_icmp .ne 7, 3) := by decide +kernel
theorem dL_isStep_462 : decode cL_isStep 462 = .ok (.iconst 1, 1) := by decide +kernel
theorem dL_isStep_463 : decode cL_isStep 463 = .ok (.goto 4, 3) := by decide +kernel
theorem dL_isStep_466 : decode cL_isStep 466 = .ok (.iconst 0, 1) := by decide +kernel
theorem dL_isStep_467 : decode cL_isStep 467 = .ok (.istore 7, 2) := by decide +kernel
theorem dL_isStep_469 : decode cL_isStep 469 = .ok (.aload_n 0, 1) := by decide +kernel
theorem dL_isStep_470 : decode cL_isStep 470 = .ok (.iload 6, 2) := by decide +kernel
theorem dL_isStep_472 : decode cL_isStep 472 = .ok (.invokevirtual 44, 3) := by decide +kernel
theorem dL_isStep_475 : decode cL_isStep 475 = .ok (.istore 8, 2) := by decide +kernel
theorem dL_isStep_477 : decode cL_isStep 477 = .ok (.iload 8, 2) := by decide +kernel
theorem dL_isStep_479 : decode cL_isStep 479 = .ok (.aload_n 1, 1) := by decide +kernel
theorem dL_isStep_480 : decode cL_isStep 480 = .ok (.iload 6, 2) := by decide +kernel
theorem dL_isStep_482 : decode cL_isStep 482 = .ok (.invokevirtual 44, 3) := by decide +kernel
theorem dL_isStep_485 : decode cL_isStep 485 = .ok (.if_icmp .ne 49, 3) := by decide +kernel
theorem dL_isStep_488 : decode cL_isStep 488 = .ok (.iload 8, 2) := by decide +kernel
theorem dL_isStep_490 : decode cL_isStep 490 = .ok (.iload 7, 2) := by decide +kernel
theorem dL_isStep_492 : decode cL_isStep 492 = .ok (.iload 6, 2) := by decide +kernel
theorem dL_isStep_494 : decode cL_isStep 494 = .ok (.if_icmp .ne 8, 3) := by decide +kernel
theorem dL_isStep_497 : decode cL_isStep 497 = .ok (.bipush (-5), 2) := by decide +kernel
theorem dL_isStep_499 : decode cL_isStep 499 = .ok (.goto 8, 3) := by decide +kernel
theorem dL_isStep_502 : decode cL_isStep 502 = .ok (.aload_n 0, 1) := by decide +kernel
theorem dL_isStep_503 : decode cL_isStep 503 = .ok (.iconst 3, 1) := by decide +kernel
theorem dL_isStep_504 : decode cL_isStep 504 = .ok (.invokevirtual 9, 3) := by decide +kernel
theorem dL_isStep_507 : decode cL_isStep 507 = .ok (.if_icmp .ne 27, 3) := by decide +kernel
theorem dL_isStep_510 : decode cL_isStep 510 = .ok (.aload_n 0, 1) := by decide +kernel
theorem dL_isStep_511 : decode cL_isStep 511 = .ok (.bipush 9, 2) := by decide +kernel
theorem dL_isStep_513 : decode cL_isStep 513 = .ok (.invokevirtual 9, 3) := by decide +kernel
theorem dL_isStep_516 : decode cL_isStep 516 = .ok (.iconst 1, 1) := by decide +kernel
theorem dL_isStep_517 : decode cL_isStep 517 = .ok (.if_icmp .ne 7, 3) := by decide +kernel
theorem dL_isStep_520 : decode cL_isStep 520 = .ok (.iconst 1, 1) := by decide +kernel
theorem dL_isStep_521 : decode cL_isStep 521 = .ok (.goto 4, 3) := by decide +kernel
theorem dL_isStep_524 : decode cL_isStep 524 = .ok (.iconst 0, 1) := by decide +kernel
theorem dL_isStep_525 : decode cL_isStep 525 = .ok (.iload 6, 2) := by decide +kernel
theorem dL_isStep_527 : decode cL_isStep 527 = .ok (.if_icmp .ne 7, 3) := by decide +kernel
theorem dL_isStep_530 : decode cL_isStep 530 = .ok (.iconst 1, 1) := by decide +kernel
theorem dL_isStep_531 : decode cL_isStep 531 = .ok (.goto 4, 3) := by decide +kernel
theorem dL_isStep_534 : decode cL_isStep 534 = .ok (.iconst 0, 1) := by decide +kernel
theorem dL_isStep_535 : decode cL_isStep 535 = .ok (.ireturn, 1) := by decide +kernel
theorem dL_isStep_536 : decode cL_isStep 536 = .ok (.aload_n 0, 1) := by decide +kernel
theorem dL_isStep_537 : decode cL_isStep 537 = .ok (.iconst 1, 1) := by decide +kernel
theorem dL_isStep_538 : decode cL_isStep 538 = .ok (.invokevirtual 9, 3) := by decide +kernel
theorem dL_isStep_541 : decode cL_isStep 541 = .ok (.istore 6, 2) := by decide +kernel
theorem dL_isStep_543 : decode cL_isStep 543 = .ok (.iload_n 3, 1) := by decide +kernel
theorem dL_isStep_544 : decode cL_isStep 544 = .ok (.iconst 4, 1) := by decide +kernel
theorem dL_isStep_545 : decode cL_isStep 545 = .ok (.invokestatic 15, 3) := by decide +kernel
theorem dL_isStep_548 : decode cL_isStep 548 = .ok (.ifCond .le 5, 3) := by decide +kernel
theorem dL_isStep_551 : decode cL_isStep 551 = .ok (.iconst 1, 1) := by decide +kernel
theorem dL_isStep_552 : decode cL_isStep 552 = .ok (.ireturn, 1) := by decide +kernel
theorem dL_isStep_553 : decode cL_isStep 553 = .ok (.aload_n 0, 1) := by decide +kernel
theorem dL_isStep_554 : decode cL_isStep 554 = .ok (.iload_n 3, 1) := by decide +kernel
theorem dL_isStep_555 : decode cL_isStep 555 = .ok (.iconst 2, 1) := by decide +kernel
theorem dL_isStep_556 : decode cL_isStep 556 = .ok (.ishr, 1) := by decide +kernel
theorem dL_isStep_557 : decode cL_isStep 557 = .ok (.iconst 3, 1) := by decide +kernel
theorem dL_isStep_558 : decode cL_isStep 558 = .ok (.invokestatic 15, 3) := by decide +kernel
theorem dL_isStep_561 : decode cL_isStep 561 = .ok (.invokevirtual 48, 3) := by decide +kernel
theorem dL_isStep_564 : decode cL_isStep 564 = .ok (.istore 7, 2) := by decide +kernel
theorem dL_isStep_566 : decode cL_isStep 566 = .ok (.iload 7, 2) := by decide +kernel
theorem dL_isStep_568 : decode cL_isStep 568 = .ok (.aload_n 1, 1) := by decide +kernel
theorem dL_isStep_569 : decode cL_isStep 569 = .ok (.iload_n 3, 1) := by decide +kernel
theorem dL_isStep_570 : decode cL_isStep 570 = .ok (.iconst 2, 1) := by decide +kernel
theorem dL_isStep_571 : decode cL_isStep 571 = .ok (.ishr, 1) := by decide +kernel
theorem dL_isStep_572 : decode cL_isStep 572 = .ok (.iconst 3, 1) := by decide +kernel
theorem dL_isStep_573 : decode cL_isStep 573 = .ok (.invokestatic 15, 3) := by decide +kernel
theorem dL_isStep_576 : decode cL_isStep 576 = .ok (.invokevirtual 48, 3) := by decide +kernel
theorem dL_isStep_579 : decode cL_isStep 579 = .ok (.if_icmp .ne 56, 3) := by decide +kernel
theorem dL_isStep_582 : decode cL_isStep 582 = .ok (.iload 7, 2) := by decide +kernel
theorem dL_isStep_584 : decode cL_isStep 584 = .ok (.iload 4, 2) := by decide +kernel
theorem dL_isStep_586 : decode cL_isStep 586 = .ok (.iload 6, 2) := by decide +kernel
theorem dL_isStep_588 : decode cL_isStep 588 = .ok (.if_icmp .ne 8, 3) := by decide +kernel
theorem dL_isStep_591 : decode cL_isStep 591 = .ok (.bipush (-5), 2) := by decide +kernel
theorem dL_isStep_593 : decode cL_isStep 593 = .ok (.goto 8, 3) := by decide +kernel
theorem dL_isStep_596 : decode cL_isStep 596 = .ok (.iload 4, 2) := by decide +kernel
theorem dL_isStep_598 : decode cL_isStep 598 = .ok (.iload 6, 2) := by decide +kernel
theorem dL_isStep_600 : decode cL_isStep 600 = .ok (.isub, 1) := by decide +kernel
theorem dL_isStep_601 : decode cL_isStep 601 = .ok (.if_icmp .ne 34, 3) := by decide +kernel
theorem dL_isStep_604 : decode cL_isStep 604 = .ok (.aload_n 0, 1) := by decide +kernel
theorem dL_isStep_605 : decode cL_isStep 605 = .ok (.iconst 0, 1) := by decide +kernel
theorem dL_isStep_606 : decode cL_isStep 606 = .ok (.invokevirtual 9, 3) := by decide +kernel
theorem dL_isStep_609 : decode cL_isStep 609 = .ok (.iload 6, 2) := by decide +kernel
theorem dL_isStep_611 : decode cL_isStep 611 = .ok (.if_icmp .ne 24, 3) := by decide +kernel
theorem dL_isStep_614 : decode cL_isStep 614 = .ok (.aload_n 0, 1) := by decide +kernel
theorem dL_isStep_615 : decode cL_isStep 615 = .ok (.iconst 3, 1) := by decide +kernel
theorem dL_isStep_616 : decode cL_isStep 616 = .ok (.invokevirtual 9, 3) := by decide +kernel
theorem dL_isStep_619 : decode cL_isStep 619 = .ok (.iconst 1, 1) := by decide +kernel
theorem dL_isStep_620 : decode cL_isStep 620 = .ok (.if_icmp .ne 15, 3) := by decide +kernel
theorem dL_isStep_623 : decode cL_isStep 623 = .ok (.aload_n 0, 1) := by decide +kernel
theorem dL_isStep_624 : decode cL_isStep 624 = .ok (.iconst 2, 1) := by decide +kernel
theorem dL_isStep_625 : decode cL_isStep 625 = .ok (.invokevirtual 9, 3) := by decide +kernel
theorem dL_isStep_628 : decode cL_isStep 628 = .ok (.ifCond .ne 7, 3) := by decide +kernel
theorem dL_isStep_631 : decode cL_isStep 631 = .ok (.iconst 1, 1) := by decide +kernel
theorem dL_isStep_632 : decode cL_isStep 632 = .ok (.goto 4, 3) := by decide +kernel
theorem dL_isStep_635 : decode cL_isStep 635 = .ok (.iconst 0, 1) := by decide +kernel
theorem dL_isStep_636 : decode cL_isStep 636 = .ok (.ireturn, 1) := by decide +kernel
theorem dL_isStep_637 : decode cL_isStep 637 = .ok (.aload_n 0, 1) := by decide +kernel
theorem dL_isStep_638 : decode cL_isStep 638 = .ok (.bipush 10, 2) := by decide +kernel
theorem dL_isStep_640 : decode cL_isStep 640 = .ok (.invokevirtual 9, 3) := by decide +kernel
theorem dL_isStep_643 : decode cL_isStep 643 = .ok (.ifCond .eq 14, 3) := by decide +kernel
theorem dL_isStep_646 : decode cL_isStep 646 = .ok (.aload_n 0, 1) := by decide +kernel
theorem dL_isStep_647 : decode cL_isStep 647 = .ok (.invokevirtual 51, 3) := by decide +kernel
theorem dL_isStep_650 : decode cL_isStep 650 = .ok (.aload_n 1, 1) := by decide +kernel
theorem dL_isStep_651 : decode cL_isStep 651 = .ok (.invokevirtual 51, 3) := by decide +kernel
theorem dL_isStep_654 : decode cL_isStep 654 = .ok (.if_icmp .ne 7, 3) := by decide +kernel
theorem dL_isStep_657 : decode cL_isStep 657 = .ok (.iconst 1, 1) := by decide +kernel
theorem dL_isStep_658 : decode cL_isStep 658 = .ok (.goto 4, 3) := by decide +kernel
theorem dL_isStep_661 : decode cL_isStep 661 = .ok (.iconst 0, 1) := by decide +kernel
theorem dL_isStep_662 : decode cL_isStep 662 = .ok (.ireturn, 1) := by decide +kernel
theorem dL_isStep_663 : decode cL_isStep 663 = .ok (.aload_n 0, 1) := by decide +kernel
theorem dL_isStep_664 : decode cL_isStep 664 = .ok (.aload_n 1, 1) := by decide +kernel
theorem dL_isStep_665 : decode cL_isStep 665 = .ok (.iload_n 3, 1) := by decide +kernel
theorem dL_isStep_666 : decode cL_isStep 666 = .ok (.bipush 6, 2) := by decide +kernel
theorem dL_isStep_668 : decode cL_isStep 668 = .ok (.invokestatic 15, 3) := by decide +kernel
theorem dL_isStep_671 : decode cL_isStep 671 = .ok (.iload_n 3, 1) := by decide +kernel
theorem dL_isStep_672 : decode cL_isStep 672 = .ok (.iconst 3, 1) := by decide +kernel
theorem dL_isStep_673 : decode cL_isStep 673 = .ok (.ishr, 1) := by decide +kernel
theorem dL_isStep_674 : decode cL_isStep 674 = .ok (.bipush 6, 2) := by decide +kernel
theorem dL_isStep_676 : decode cL_isStep 676 = .ok (.invokestatic 15, 3) := by decide +kernel
theorem dL_isStep_679 : decode cL_isStep 679 = .ok (.bipush 97, 2) := by decide +kernel
theorem dL_isStep_681 : decode cL_isStep 681 = .ok (.iload_n 3, 1) := by decide +kernel
theorem dL_isStep_682 : decode cL_isStep 682 = .ok (.bipush 6, 2) := by decide +kernel
theorem dL_isStep_684 : decode cL_isStep 684 = .ok (.ishr, 1) := by decide +kernel
theorem dL_isStep_685 : decode cL_isStep 685 = .ok (.iconst 5, 1) := by decide +kernel
theorem dL_isStep_686 : decode cL_isStep 686 = .ok (.invokestatic 15, 3) := by decide +kernel
theorem dL_isStep_689 : decode cL_isStep 689 = .ok (.iadd, 1) := by decide +kernel
theorem dL_isStep_690 : decode cL_isStep 690 = .ok (.invokestatic 55, 3) := by decide +kernel
theorem dL_isStep_693 : decode cL_isStep 693 = .ok (.ireturn, 1) := by decide +kernel
set_option maxHeartbeats 1000000 in
set_option maxRecDepth 20000 in
theorem ggL_areAnswers_X5_count_h : GoodIn wsL_areAnswers [.code yX5_count cX5_count 2 (some .int)] := goodIn_r _ [5] (by decide +kernel) (by decide +kernel)
set_option maxHeartbeats 1000000 in
set_option maxRecDepth 20000 in
theorem ggL_areAnswers_X5_count_r1 : GoodIn wsL_areAnswers wsX5_count_r1 := goodIn_r _ [6, 7, 8, 9, 10, 11, 12, 13, 14, 15, 16, 17, 18, 19, 20, 21, 22, 23, 24, 25, 26, 27, 28, 29] (by decide +kernel) (by decide +kernel)
set_option maxHeartbeats 1000000 in
set_option maxRecDepth 20000 in
theorem ggL_areAnswers_X5_count_r2 : GoodIn wsL_areAnswers wsX5_count_r2 := goodIn_r _ [30, 31, 32, 4, 33, 34, 35, 36, 37, 38, 39, 40, 41, 42, 43, 44, 45, 46, 47, 48, 49, 50, 51, 52] (by decide +kernel) (by decide +kernel)
set_option maxHeartbeats 1000000 in
set_option maxRecDepth 20000 in
theorem ggL_areAnswers_X5_count_r3 : GoodIn wsL_areAnswers wsX5_count_r3 := goodIn_r _ [53, 54, 55, 56, 57, 58, 59, 60, 61, 62, 63, 64, 65, 66, 67, 68, 69, 70, 71, 72, 73, 74, 75, 76] (by decide +kernel) (by decide +kernel)
set_option maxHeartbeats 1000000 in
set_option maxRecDepth 20000 in
theorem ggL_areAnswers_X5_count_r4 : GoodIn wsL_areAnswers wsX5_count_r4 := goodIn_r _ [77, 78, 79, 80, 81, 82, 83, 84, 85, 86, 87, 88, 89, 90, 91, 92, 93, 94, 95, 96, 97, 98, 99, 100] (by decide +kernel) (by decide +kernel)
set_option maxHeartbeats 1000000 in
set_option maxRecDepth 20000 in
theorem ggL_areAnswers_X5_count_r5 : GoodIn wsL_areAnswers wsX5_count_r5 := goodIn_r _ [101, 102, 103, 104, 105, 106, 107, 108, 109, 110, 111, 112, 113, 114, 115, 116, 117, 118, 119, 120, 121, 122, 123, 124] (by decide +kernel) (by decide +kernel)
set_option maxHeartbeats 1000000 in
set_option maxRecDepth 20000 in
theorem ggL_areAnswers_X5_count_r6 : GoodIn wsL_areAnswers wsX5_count_r6 := goodIn_r _ [125, 126, 127, 128, 129, 130, 131, 132, 133, 134, 135, 136, 137, 138, 139, 140, 141, 142, 143, 144, 145, 146, 147, 148] (by decide +kernel) (by decide +kernel)
set_option maxHeartbeats 1000000 in
set_option maxRecDepth 20000 in
theorem ggL_areAnswers_X5_count_r7 : GoodIn wsL_areAnswers wsX5_count_r7 := goodIn_r _ [149, 150, 151, 152, 153, 154, 155, 156, 157, 158, 159, 160, 161, 162, 163, 164, 165, 166, 167, 168, 169, 170, 171, 172] (by decide +kernel) (by decide +kernel)
set_option maxHeartbeats 1000000 in
set_option maxRecDepth 20000 in
theorem ggL_areAnswers_X5_count_r8 : GoodIn wsL_areAnswers wsX5_count_r8 := goodIn_r _ [173, 174, 175, 176, 177, 178, 179, 180, 181, 182, 183, 184, 185, 186, 187, 188, 189, 190, 191, 192, 193] (by decide +kernel) (by decide +kernel)
set_option maxHeartbeats 1000000 in
set_option maxRecDepth 20000 in
theorem ggL_areAnswers_X5_count_X5 : GoodIn wsL_areAnswers wsX50 := goodIn_r _ [329, 330, 331, 332, 333, 334, 335] (by decide +kernel) (by decide +kernel)
set_option maxHeartbeats 1000000 in
set_option maxRecDepth 20000 in
theorem ggL_areAnswers_X5_count_X3 : GoodIn wsL_areAnswers wsX30 := goodIn_r _ [336, 337, 338, 339, 340, 341] (by decide +kernel) (by decide +kernel)
set_option maxHeartbeats 1000000 in
set_option maxRecDepth 20000 in
theorem ggL_areAnswers_X5_count_X0 : GoodIn wsL_areAnswers wsX00 := goodIn_r _ [342, 343, 344, 345, 346, 347] (by decide +kernel) (by decide +kernel)
set_option maxHeartbeats 1000000 in
set_option maxRecDepth 20000 in
theorem ggL_areAnswers_X5_count_X1 : GoodIn wsL_areAnswers wsX10 := goodIn_r _ [348, 349, 350] (by decide +kernel) (by decide +kernel)
set_option maxHeartbeats 1000000 in
set_option maxRecDepth 20000 in
theorem ggL_areAnswers_X5_count_X4 : GoodIn wsL_areAnswers wsX40 := goodIn_r _ [351, 352] (by decide +kernel) (by decide +kernel)
set_option maxRecDepth 20000 in
theorem ggL_areAnswers_X5_count : GoodIn wsL_areAnswers wsX5_count := goodIn_app ggL_areAnswers_X5_count_h (goodIn_app (goodIn_app (goodIn_app (goodIn_app (goodIn_app (goodIn_app ggL_areAnswers_X5_count_r1 (goodIn_app ggL_areAnswers_X5_count_r2 (goodIn_app ggL_areAnswers_X5_count_r3 (goodIn_app ggL_areAnswers_X5_count_r4 (goodIn_app ggL_areAnswers_X5_count_r5 (goodIn_app ggL_areAnswers_X5_count_r6 (goodIn_app ggL_areAnswers_X5_count_r7 (ggL_areAnswers_X5_count_r8)))))))) ggL_areAnswers_X5_count_X5) ggL_areAnswers_X5_count_X3) ggL_areAnswers_X5_count_X0) ggL_areAnswers_X5_count_X1) ggL_areAnswers_X5_count_X4)
set_option maxRecDepth 20000 in
theorem gL_areAnswers_X5_count : GoodIn wsL_areAnswers (wsV RL 9 RX5 yX5_count wsX5_count) := goodIn_app (goodIn_of _ (by decide +kernel)) ggL_areAnswers_X5_count
set_option maxHeartbeats 1000000 in
set_option maxRecDepth 20000 in
theorem ggL_areAnswers_X5_way_h : GoodIn wsL_areAnswers [.code yX5_way cX5_way 5 (some .int)] := goodIn_r _ [197] (by decide +kernel) (by decide +kernel)
set_option maxHeartbeats 1000000 in
set_option maxRecDepth 20000 in
theorem ggL_areAnswers_X5_way_r1 : GoodIn wsL_areAnswers wsX5_way_r1 := goodIn_r _ [198, 93, 4, 94, 38, 39, 40, 41, 42, 43, 44, 45, 46, 47, 48, 49, 50, 51, 52, 53, 54, 55, 56, 57] (by decide +kernel) (by decide +kernel)
set_option maxHeartbeats 1000000 in
set_option maxRecDepth 20000 in
theorem ggL_areAnswers_X5_way_r2 : GoodIn wsL_areAnswers wsX5_way_r2 := goodIn_r _ [10, 11, 12, 13, 14, 58, 59, 60, 61, 62, 63, 64, 65, 66, 67, 32, 33, 27, 28, 29, 30, 31, 68, 69] (by decide +kernel) (by decide +kernel)
set_option maxHeartbeats 1000000 in
set_option maxRecDepth 20000 in
theorem ggL_areAnswers_X5_way_r3 : GoodIn wsL_areAnswers wsX5_way_r3 := goodIn_r _ [70, 71, 72, 73, 74, 75, 76, 77, 78, 79, 80, 81, 82, 83, 84, 85, 86, 87, 88, 89, 90, 91, 92, 95] (by decide +kernel) (by decide +kernel)
set_option maxHeartbeats 1000000 in
set_option maxRecDepth 20000 in
theorem ggL_areAnswers_X5_way_r4 : GoodIn wsL_areAnswers wsX5_way_r4 := goodIn_r _ [96, 97, 98, 199, 200, 201, 202, 144, 145, 146, 147, 148, 149, 150, 151, 152, 153, 154, 155, 203, 204, 205, 179, 180] (by decide +kernel) (by decide +kernel)
set_option maxHeartbeats 1000000 in
set_option maxRecDepth 20000 in
theorem ggL_areAnswers_X5_way_r5 : GoodIn wsL_areAnswers wsX5_way_r5 := goodIn_r _ [181, 206, 207, 208, 209, 171, 172, 173, 174, 210, 211, 212, 213, 214, 215, 216, 217, 218, 219, 220, 221, 123, 124, 125] (by decide +kernel) (by decide +kernel)
set_option maxHeartbeats 1000000 in
set_option maxRecDepth 20000 in
theorem ggL_areAnswers_X5_way_r6 : GoodIn wsL_areAnswers wsX5_way_r6 := goodIn_r _ [126, 222, 223, 224, 225] (by decide +kernel) (by decide +kernel)
set_option maxHeartbeats 1000000 in
set_option maxRecDepth 20000 in
theorem ggL_areAnswers_X5_way_X5 : GoodIn wsL_areAnswers wsX50 := goodIn_r _ [329, 330, 331, 332, 333, 334, 335] (by decide +kernel) (by decide +kernel)
set_option maxHeartbeats 1000000 in
set_option maxRecDepth 20000 in
theorem ggL_areAnswers_X5_way_X0 : GoodIn wsL_areAnswers wsX00 := goodIn_r _ [342, 343, 344, 345, 346, 347] (by decide +kernel) (by decide +kernel)
set_option maxHeartbeats 1000000 in
set_option maxRecDepth 20000 in
theorem ggL_areAnswers_X5_way_X3 : GoodIn wsL_areAnswers wsX30 := goodIn_r _ [336, 337, 338, 339, 340, 341] (by decide +kernel) (by decide +kernel)
set_option maxRecDepth 20000 in
theorem ggL_areAnswers_X5_way : GoodIn wsL_areAnswers wsX5_way := goodIn_app ggL_areAnswers_X5_way_h (goodIn_app (goodIn_app (goodIn_app (goodIn_app ggL_areAnswers_X5_way_r1 (goodIn_app ggL_areAnswers_X5_way_r2 (goodIn_app ggL_areAnswers_X5_way_r3 (goodIn_app ggL_areAnswers_X5_way_r4 (goodIn_app ggL_areAnswers_X5_way_r5 (ggL_areAnswers_X5_way_r6)))))) ggL_areAnswers_X5_way_X5) ggL_areAnswers_X5_way_X0) ggL_areAnswers_X5_way_X3)
set_option maxRecDepth 20000 in
theorem gL_areAnswers_X5_way : GoodIn wsL_areAnswers (wsV RL 59 RX5 yX5_way wsX5_way) := goodIn_app (goodIn_of _ (by decide +kernel)) ggL_areAnswers_X5_way
set_option maxHeartbeats 1000000 in
set_option maxRecDepth 20000 in
theorem ggL_areAnswers_X5_value_h : GoodIn wsL_areAnswers [.code yX5_value cX5_value 4 (some .int)] := goodIn_r _ [229] (by decide +kernel) (by decide +kernel)
set_option maxHeartbeats 1000000 in
set_option maxRecDepth 20000 in
theorem ggL_areAnswers_X5_value_r1 : GoodIn wsL_areAnswers wsX5_value_r1 := goodIn_r _ [230, 231, 4, 232, 38, 39, 40, 41, 42, 43, 44, 45, 46, 47, 48, 49, 50, 51, 52, 53, 54, 55, 56, 57] (by decide +kernel) (by decide +kernel)
set_option maxHeartbeats 1000000 in
set_option maxRecDepth 20000 in
theorem ggL_areAnswers_X5_value_r2 : GoodIn wsL_areAnswers wsX5_value_r2 := goodIn_r _ [10, 11, 12, 13, 14, 58, 59, 60, 61, 62, 63, 64, 65, 66, 67, 32, 33, 27, 28, 29, 30, 31, 68, 69] (by decide +kernel) (by decide +kernel)
set_option maxHeartbeats 1000000 in
set_option maxRecDepth 20000 in
theorem ggL_areAnswers_X5_value_r3 : GoodIn wsL_areAnswers wsX5_value_r3 := goodIn_r _ [70, 71, 72, 73, 74, 75, 76, 77, 78, 79, 80, 81, 82, 83, 84, 85, 86, 87, 88, 89, 90, 91, 92, 93] (by decide +kernel) (by decide +kernel)
set_option maxHeartbeats 1000000 in
set_option maxRecDepth 20000 in
theorem ggL_areAnswers_X5_value_r4 : GoodIn wsL_areAnswers wsX5_value_r4 := goodIn_r _ [94, 95, 96, 97, 98, 233, 116, 117, 118, 119, 120, 121, 122, 123, 124, 125, 126, 127, 128, 129, 130, 131, 179, 180] (by decide +kernel) (by decide +kernel)
set_option maxHeartbeats 1000000 in
set_option maxRecDepth 20000 in
theorem ggL_areAnswers_X5_value_r5 : GoodIn wsL_areAnswers wsX5_value_r5 := goodIn_r _ [181, 234, 137, 138, 139, 99, 100, 101, 102, 235, 236, 237, 238] (by decide +kernel) (by decide +kernel)
set_option maxHeartbeats 1000000 in
set_option maxRecDepth 20000 in
theorem ggL_areAnswers_X5_value_X5 : GoodIn wsL_areAnswers wsX50 := goodIn_r _ [329, 330, 331, 332, 333, 334, 335] (by decide +kernel) (by decide +kernel)
set_option maxHeartbeats 1000000 in
set_option maxRecDepth 20000 in
theorem ggL_areAnswers_X5_value_X0 : GoodIn wsL_areAnswers wsX00 := goodIn_r _ [342, 343, 344, 345, 346, 347] (by decide +kernel) (by decide +kernel)
set_option maxHeartbeats 1000000 in
set_option maxRecDepth 20000 in
theorem ggL_areAnswers_X5_value_X3 : GoodIn wsL_areAnswers wsX30 := goodIn_r _ [336, 337, 338, 339, 340, 341] (by decide +kernel) (by decide +kernel)
set_option maxRecDepth 20000 in
theorem ggL_areAnswers_X5_value : GoodIn wsL_areAnswers wsX5_value := goodIn_app ggL_areAnswers_X5_value_h (goodIn_app (goodIn_app (goodIn_app (goodIn_app ggL_areAnswers_X5_value_r1 (goodIn_app ggL_areAnswers_X5_value_r2 (goodIn_app ggL_areAnswers_X5_value_r3 (goodIn_app ggL_areAnswers_X5_value_r4 (ggL_areAnswers_X5_value_r5))))) ggL_areAnswers_X5_value_X5) ggL_areAnswers_X5_value_X0) ggL_areAnswers_X5_value_X3)
set_option maxRecDepth 20000 in
theorem gL_areAnswers_X5_value : GoodIn wsL_areAnswers (wsV RL 63 RX5 yX5_value wsX5_value) := goodIn_app (goodIn_of _ (by decide +kernel)) ggL_areAnswers_X5_value
set_option maxHeartbeats 1000000 in
set_option maxRecDepth 20000 in
theorem ggL_areAnswers_X5_key_h : GoodIn wsL_areAnswers [.code yX5_key cX5_key 3 (some .int)] := goodIn_r _ [242] (by decide +kernel) (by decide +kernel)
set_option maxHeartbeats 1000000 in
set_option maxRecDepth 20000 in
theorem ggL_areAnswers_X5_key_r1 : GoodIn wsL_areAnswers wsX5_key_r1 := goodIn_r _ [6, 198, 93, 4, 94, 243, 24, 25, 12, 26, 14, 27, 28, 29, 30, 31, 32, 33, 38, 39, 40, 41, 42, 43] (by decide +kernel) (by decide +kernel)
set_option maxHeartbeats 1000000 in
set_option maxRecDepth 20000 in
theorem ggL_areAnswers_X5_key_r2 : GoodIn wsL_areAnswers wsX5_key_r2 := goodIn_r _ [44, 45, 46, 47, 48, 49, 50, 51, 52, 53, 54, 55, 56, 57, 10, 11, 13, 58, 59, 60, 61, 62, 63, 64] (by decide +kernel) (by decide +kernel)
set_option maxHeartbeats 1000000 in
set_option maxRecDepth 20000 in
theorem ggL_areAnswers_X5_key_r3 : GoodIn wsL_areAnswers wsX5_key_r3 := goodIn_r _ [65, 66, 67, 68, 69, 70, 71, 72, 73, 74, 75, 76, 77, 78, 79, 80, 81, 82, 83, 84, 85, 86, 87, 88] (by decide +kernel) (by decide +kernel)
set_option maxHeartbeats 1000000 in
set_option maxRecDepth 20000 in
theorem ggL_areAnswers_X5_key_r4 : GoodIn wsL_areAnswers wsX5_key_r4 := goodIn_r _ [89, 90, 91, 92, 95, 96, 97, 98, 244, 245, 246, 247, 248, 249, 250, 251, 252, 253, 254] (by decide +kernel) (by decide +kernel)
set_option maxHeartbeats 1000000 in
set_option maxRecDepth 20000 in
theorem ggL_areAnswers_X5_key_X5 : GoodIn wsL_areAnswers wsX50 := goodIn_r _ [329, 330, 331, 332, 333, 334, 335] (by decide +kernel) (by decide +kernel)
set_option maxHeartbeats 1000000 in
set_option maxRecDepth 20000 in
theorem ggL_areAnswers_X5_key_X3 : GoodIn wsL_areAnswers wsX30 := goodIn_r _ [336, 337, 338, 339, 340, 341] (by decide +kernel) (by decide +kernel)
set_option maxHeartbeats 1000000 in
set_option maxRecDepth 20000 in
theorem ggL_areAnswers_X5_key_X0 : GoodIn wsL_areAnswers wsX00 := goodIn_r _ [342, 343, 344, 345, 346, 347] (by decide +kernel) (by decide +kernel)
set_option maxRecDepth 20000 in
theorem ggL_areAnswers_X5_key : GoodIn wsL_areAnswers wsX5_key := goodIn_app ggL_areAnswers_X5_key_h (goodIn_app (goodIn_app (goodIn_app (goodIn_app ggL_areAnswers_X5_key_r1 (goodIn_app ggL_areAnswers_X5_key_r2 (goodIn_app ggL_areAnswers_X5_key_r3 (ggL_areAnswers_X5_key_r4)))) ggL_areAnswers_X5_key_X5) ggL_areAnswers_X5_key_X3) ggL_areAnswers_X5_key_X0)
set_option maxRecDepth 20000 in
theorem gL_areAnswers_X5_key : GoodIn wsL_areAnswers (wsV RL 38 RX5 yX5_key wsX5_key) := goodIn_app (goodIn_of _ (by decide +kernel)) ggL_areAnswers_X5_key
set_option maxHeartbeats 1000000 in
set_option maxRecDepth 20000 in
theorem ggL_areAnswers_X5_bestMended_h : GoodIn wsL_areAnswers [.code yX5_bestMended cX5_bestMended 5 (some .int)] := goodIn_r _ [258] (by decide +kernel) (by decide +kernel)
set_option maxHeartbeats 1000000 in
set_option maxRecDepth 20000 in
theorem ggL_areAnswers_X5_bestMended_r1 : GoodIn wsL_areAnswers wsX5_bestMended_r1 := goodIn_r _ [6, 198, 93, 4, 94, 38, 39, 40, 41, 42, 43, 44, 45, 46, 47, 48, 49, 50, 51, 52, 53, 54, 55, 56] (by decide +kernel) (by decide +kernel)
set_option maxHeartbeats 1000000 in
set_option maxRecDepth 20000 in
theorem ggL_areAnswers_X5_bestMended_r2 : GoodIn wsL_areAnswers wsX5_bestMended_r2 := goodIn_r _ [57, 10, 11, 12, 13, 14, 58, 59, 60, 61, 62, 63, 64, 65, 66, 67, 32, 33, 27, 28, 29, 30, 31, 68] (by decide +kernel) (by decide +kernel)
set_option maxHeartbeats 1000000 in
set_option maxRecDepth 20000 in
theorem ggL_areAnswers_X5_bestMended_r3 : GoodIn wsL_areAnswers wsX5_bestMended_r3 := goodIn_r _ [69, 70, 71, 72, 73, 74, 75, 76, 77, 78, 79, 80, 81, 82, 83, 84, 85, 86, 87, 88, 89, 90, 91, 92] (by decide +kernel) (by decide +kernel)
set_option maxHeartbeats 1000000 in
set_option maxRecDepth 20000 in
theorem ggL_areAnswers_X5_bestMended_r4 : GoodIn wsL_areAnswers wsX5_bestMended_r4 := goodIn_r _ [95, 96, 97, 98, 259, 260, 261, 262, 263, 200, 201, 202, 144, 145, 146, 147, 148, 149, 150, 151, 152, 153, 154, 155] (by decide +kernel) (by decide +kernel)
