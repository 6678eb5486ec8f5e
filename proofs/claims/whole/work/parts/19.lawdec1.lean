theorem d_L_law_254 : decode code 254 = .ok (.iaload, 1) := by decide +kernel
theorem d_L_law_255 : decode code 255 = .ok (.invokevirtual 86, 3) := by decide +kernel
theorem d_L_law_258 : decode code 258 = .ok (.aload_n 2, 1) := by decide +kernel
theorem d_L_law_259 : decode code 259 = .ok (.invokevirtual 79, 3) := by decide +kernel
theorem d_L_law_262 : decode code 262 = .ok (.iload 5, 2) := by decide +kernel
theorem d_L_law_264 : decode code 264 = .ok (.if_icmp .eq (5), 3) := by decide +kernel
theorem d_L_law_267 : decode code 267 = .ok (.iconst 0, 1) := by decide +kernel
theorem d_L_law_268 : decode code 268 = .ok (.ireturn, 1) := by decide +kernel
theorem d_L_law_269 : decode code 269 = .ok (.goto (884), 3) := by decide +kernel
theorem d_L_law_272 : decode code 272 = .ok (.aload_n 1, 1) := by decide +kernel
theorem d_L_law_273 : decode code 273 = .ok (.aload_n 0, 1) := by decide +kernel
theorem d_L_law_274 : decode code 274 = .ok (.iload 4, 2) := by decide +kernel
theorem d_L_law_276 : decode code 276 = .ok (.iconst 1, 1) := by decide +kernel
theorem d_L_law_277 : decode code 277 = .ok (.iadd, 1) := by decide +kernel
theorem d_L_law_278 : decode code 278 = .ok (.iaload, 1) := by decide +kernel
theorem d_L_law_279 : decode code 279 = .ok (.aload_n 0, 1) := by decide +kernel
theorem d_L_law_280 : decode code 280 = .ok (.iload 4, 2) := by decide +kernel
theorem d_L_law_282 : decode code 282 = .ok (.iconst 2, 1) := by decide +kernel
theorem d_L_law_283 : decode code 283 = .ok (.iadd, 1) := by decide +kernel
theorem d_L_law_284 : decode code 284 = .ok (.iaload, 1) := by decide +kernel
theorem d_L_law_285 : decode code 285 = .ok (.aload_n 0, 1) := by decide +kernel
theorem d_L_law_286 : decode code 286 = .ok (.iload 4, 2) := by decide +kernel
theorem d_L_law_288 : decode code 288 = .ok (.iconst 3, 1) := by decide +kernel
theorem d_L_law_289 : decode code 289 = .ok (.iadd, 1) := by decide +kernel
theorem d_L_law_290 : decode code 290 = .ok (.iaload, 1) := by decide +kernel
theorem d_L_law_291 : decode code 291 = .ok (.invokestatic 87, 3) := by decide +kernel
theorem d_L_law_294 : decode code 294 = .ok (.istore 5, 2) := by decide +kernel
theorem d_L_law_296 : decode code 296 = .ok (.aload_n 2, 1) := by decide +kernel
theorem d_L_law_297 : decode code 297 = .ok (.aload_n 0, 1) := by decide +kernel
theorem d_L_law_298 : decode code 298 = .ok (.iload 4, 2) := by decide +kernel
theorem d_L_law_300 : decode code 300 = .ok (.iconst 1, 1) := by decide +kernel
theorem d_L_law_301 : decode code 301 = .ok (.iadd, 1) := by decide +kernel
theorem d_L_law_302 : decode code 302 = .ok (.iaload, 1) := by decide +kernel
theorem d_L_law_303 : decode code 303 = .ok (.aload_n 0, 1) := by decide +kernel
theorem d_L_law_304 : decode code 304 = .ok (.iload 4, 2) := by decide +kernel
theorem d_L_law_306 : decode code 306 = .ok (.iconst 2, 1) := by decide +kernel
theorem d_L_law_307 : decode code 307 = .ok (.iadd, 1) := by decide +kernel
theorem d_L_law_308 : decode code 308 = .ok (.iaload, 1) := by decide +kernel
theorem d_L_law_309 : decode code 309 = .ok (.aload_n 0, 1) := by decide +kernel
theorem d_L_law_310 : decode code 310 = .ok (.iload 4, 2) := by decide +kernel
theorem d_L_law_312 : decode code 312 = .ok (.iconst 3, 1) := by decide +kernel
theorem d_L_law_313 : decode code 313 = .ok (.iadd, 1) := by decide +kernel
theorem d_L_law_314 : decode code 314 = .ok (.iaload, 1) := by decide +kernel
theorem d_L_law_315 : decode code 315 = .ok (.invokevirtual 89, 3) := by decide +kernel
theorem d_L_law_318 : decode code 318 = .ok (.aload_n 2, 1) := by decide +kernel
theorem d_L_law_319 : decode code 319 = .ok (.invokevirtual 79, 3) := by decide +kernel
theorem d_L_law_322 : decode code 322 = .ok (.iload 5, 2) := by decide +kernel
theorem d_L_law_324 : decode code 324 = .ok (.if_icmp .eq (5), 3) := by decide +kernel
theorem d_L_law_327 : decode code 327 = .ok (.iconst 0, 1) := by decide +kernel
theorem d_L_law_328 : decode code 328 = .ok (.ireturn, 1) := by decide +kernel
theorem d_L_law_329 : decode code 329 = .ok (.goto (824), 3) := by decide +kernel
theorem d_L_law_332 : decode code 332 = .ok (.aload_n 1, 1) := by decide +kernel
theorem d_L_law_333 : decode code 333 = .ok (.aload_n 0, 1) := by decide +kernel
theorem d_L_law_334 : decode code 334 = .ok (.iload 4, 2) := by decide +kernel
theorem d_L_law_336 : decode code 336 = .ok (.iconst 1, 1) := by decide +kernel
theorem d_L_law_337 : decode code 337 = .ok (.iadd, 1) := by decide +kernel
theorem d_L_law_338 : decode code 338 = .ok (.iaload, 1) := by decide +kernel
theorem d_L_law_339 : decode code 339 = .ok (.invokestatic 90, 3) := by decide +kernel
theorem d_L_law_342 : decode code 342 = .ok (.istore 5, 2) := by decide +kernel
theorem d_L_law_344 : decode code 344 = .ok (.aload_n 2, 1) := by decide +kernel
theorem d_L_law_345 : decode code 345 = .ok (.aload_n 0, 1) := by decide +kernel
theorem d_L_law_346 : decode code 346 = .ok (.iload 4, 2) := by decide +kernel
theorem d_L_law_348 : decode code 348 = .ok (.iconst 1, 1) := by decide +kernel
theorem d_L_law_349 : decode code 349 = .ok (.iadd, 1) := by decide +kernel
theorem d_L_law_350 : decode code 350 = .ok (.iaload, 1) := by decide +kernel
theorem d_L_law_351 : decode code 351 = .ok (.invokevirtual 93, 3) := by decide +kernel
theorem d_L_law_354 : decode code 354 = .ok (.aload_n 2, 1) := by decide +kernel
theorem d_L_law_355 : decode code 355 = .ok (.invokevirtual 79, 3) := by decide +kernel
theorem d_L_law_358 : decode code 358 = .ok (.iload 5, 2) := by decide +kernel
theorem d_L_law_360 : decode code 360 = .ok (.if_icmp .eq (5), 3) := by decide +kernel
theorem d_L_law_363 : decode code 363 = .ok (.iconst 0, 1) := by decide +kernel
theorem d_L_law_364 : decode code 364 = .ok (.ireturn, 1) := by decide +kernel
theorem d_L_law_365 : decode code 365 = .ok (.goto (788), 3) := by decide +kernel
theorem d_L_law_368 : decode code 368 = .ok (.aload_n 1, 1) := by decide +kernel
theorem d_L_law_369 : decode code 369 = .ok (.invokestatic 94, 3) := by decide +kernel
theorem d_L_law_372 : decode code 372 = .ok (.istore 5, 2) := by decide +kernel
theorem d_L_law_374 : decode code 374 = .ok (.aload_n 2, 1) := by decide +kernel
theorem d_L_law_375 : decode code 375 = .ok (.invokevirtual 97, 3) := by decide +kernel
theorem d_L_law_378 : decode code 378 = .ok (.aload_n 2, 1) := by decide +kernel
theorem d_L_law_379 : decode code 379 = .ok (.invokevirtual 79, 3) := by decide +kernel
theorem d_L_law_382 : decode code 382 = .ok (.iload 5, 2) := by decide +kernel
theorem d_L_law_384 : decode code 384 = .ok (.if_icmp .eq (5), 3) := by decide +kernel
theorem d_L_law_387 : decode code 387 = .ok (.iconst 0, 1) := by decide +kernel
theorem d_L_law_388 : decode code 388 = .ok (.ireturn, 1) := by decide +kernel
theorem d_L_law_389 : decode code 389 = .ok (.goto (764), 3) := by decide +kernel
theorem d_L_law_392 : decode code 392 = .ok (.aload_n 1, 1) := by decide +kernel
theorem d_L_law_393 : decode code 393 = .ok (.invokestatic 98, 3) := by decide +kernel
theorem d_L_law_396 : decode code 396 = .ok (.istore 5, 2) := by decide +kernel
theorem d_L_law_398 : decode code 398 = .ok (.aload_n 2, 1) := by decide +kernel
theorem d_L_law_399 : decode code 399 = .ok (.invokevirtual 100, 3) := by decide +kernel
theorem d_L_law_402 : decode code 402 = .ok (.aload_n 2, 1) := by decide +kernel
theorem d_L_law_403 : decode code 403 = .ok (.invokevirtual 79, 3) := by decide +kernel
theorem d_L_law_406 : decode code 406 = .ok (.iload 5, 2) := by decide +kernel
theorem d_L_law_408 : decode code 408 = .ok (.if_icmp .eq (5), 3) := by decide +kernel
theorem d_L_law_411 : decode code 411 = .ok (.iconst 0, 1) := by decide +kernel
theorem d_L_law_412 : decode code 412 = .ok (.ireturn, 1) := by decide +kernel
theorem d_L_law_413 : decode code 413 = .ok (.goto (740), 3) := by decide +kernel
theorem d_L_law_416 : decode code 416 = .ok (.aload_n 1, 1) := by decide +kernel
theorem d_L_law_417 : decode code 417 = .ok (.invokestatic 101, 3) := by decide +kernel
theorem d_L_law_420 : decode code 420 = .ok (.istore 5, 2) := by decide +kernel
theorem d_L_law_422 : decode code 422 = .ok (.aload_n 2, 1) := by decide +kernel
theorem d_L_law_423 : decode code 423 = .ok (.invokevirtual 103, 3) := by decide +kernel
theorem d_L_law_426 : decode code 426 = .ok (.aload_n 2, 1) := by decide +kernel
theorem d_L_law_427 : decode code 427 = .ok (.invokevirtual 79, 3) := by decide +kernel
theorem d_L_law_430 : decode code 430 = .ok (.iload 5, 2) := by decide +kernel
theorem d_L_law_432 : decode code 432 = .ok (.if_icmp .eq (5), 3) := by decide +kernel
theorem d_L_law_435 : decode code 435 = .ok (.iconst 0, 1) := by decide +kernel
theorem d_L_law_436 : decode code 436 = .ok (.ireturn, 1) := by decide +kernel
theorem d_L_law_437 : decode code 437 = .ok (.goto (716), 3) := by decide +kernel
theorem d_L_law_440 : decode code 440 = .ok (.aload_n 1, 1) := by decide +kernel
theorem d_L_law_441 : decode code 441 = .ok (.aload_n 0, 1) := by decide +kernel
theorem d_L_law_442 : decode code 442 = .ok (.iload 4, 2) := by decide +kernel
theorem d_L_law_444 : decode code 444 = .ok (.iconst 1, 1) := by decide +kernel
theorem d_L_law_445 : decode code 445 = .ok (.iadd, 1) := by decide +kernel
theorem d_L_law_446 : decode code 446 = .ok (.iaload, 1) := by decide +kernel
theorem d_L_law_447 : decode code 447 = .ok (.aload_n 0, 1) := by decide +kernel
theorem d_L_law_448 : decode code 448 = .ok (.iload 4, 2) := by decide +kernel
theorem d_L_law_450 : decode code 450 = .ok (.iconst 2, 1) := by decide +kernel
theorem d_L_law_451 : decode code 451 = .ok (.iadd, 1) := by decide +kernel
theorem d_L_law_452 : decode code 452 = .ok (.iaload, 1) := by decide +kernel
