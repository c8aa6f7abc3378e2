/-! The law's instructions. -/
theorem zqd_18 : decode code 18 = .ok (.iload_n 3, 1) := by decide +kernel
theorem zqd_19 : decode code 19 = .ok (.aload_n 0, 1) := by decide +kernel
theorem zqd_20 : decode code 20 = .ok (.arraylength, 1) := by decide +kernel
theorem zqd_21 : decode code 21 = .ok (.bipush 6, 2) := by decide +kernel
theorem zqd_23 : decode code 23 = .ok (.isub, 1) := by decide +kernel
theorem zqd_24 : decode code 24 = .ok (.if_icmp .gt 1575, 3) := by decide +kernel
theorem zqd_27 : decode code 27 = .ok (.aload_n 0, 1) := by decide +kernel
theorem zqd_28 : decode code 28 = .ok (.iload_n 3, 1) := by decide +kernel
theorem zqd_29 : decode code 29 = .ok (.iaload, 1) := by decide +kernel
theorem zqd_30 : decode code 30 = .ok (.bipush 63, 2) := by decide +kernel
theorem zqd_32 : decode code 32 = .ok (.iand, 1) := by decide +kernel
theorem zqd_33 : decode code 33 = .ok (.tableswitch 1560 0 38 #[171, 224, 267, 290, 313, 336, 369, 428, 471, 534, 557, 580, 613, 646, 699, 742, 785, 828, 851, 884, 907, 940, 973, 1006, 1075, 1098, 1111, 1154, 1217, 1280, 1323, 1366, 1399, 1432, 1465, 1488, 1501, 1514, 1537], 171) := by decide +kernel
theorem zqd_204 : decode code 204 = .ok (.aload_n 1, 1) := by decide +kernel
theorem zqd_205 : decode code 205 = .ok (.aload_n 0, 1) := by decide +kernel
theorem zqd_206 : decode code 206 = .ok (.iload_n 3, 1) := by decide +kernel
theorem zqd_207 : decode code 207 = .ok (.iconst 1, 1) := by decide +kernel
theorem zqd_208 : decode code 208 = .ok (.iadd, 1) := by decide +kernel
theorem zqd_209 : decode code 209 = .ok (.iaload, 1) := by decide +kernel
theorem zqd_210 : decode code 210 = .ok (.aload_n 0, 1) := by decide +kernel
theorem zqd_211 : decode code 211 = .ok (.iload_n 3, 1) := by decide +kernel
theorem zqd_212 : decode code 212 = .ok (.iconst 2, 1) := by decide +kernel
theorem zqd_213 : decode code 213 = .ok (.iadd, 1) := by decide +kernel
theorem zqd_214 : decode code 214 = .ok (.iaload, 1) := by decide +kernel
theorem zqd_215 : decode code 215 = .ok (.aload_n 0, 1) := by decide +kernel
theorem zqd_216 : decode code 216 = .ok (.iload_n 3, 1) := by decide +kernel
theorem zqd_217 : decode code 217 = .ok (.iconst 3, 1) := by decide +kernel
theorem zqd_218 : decode code 218 = .ok (.iadd, 1) := by decide +kernel
theorem zqd_219 : decode code 219 = .ok (.iaload, 1) := by decide +kernel
theorem zqd_220 : decode code 220 = .ok (.aload_n 0, 1) := by decide +kernel
theorem zqd_221 : decode code 221 = .ok (.iload_n 3, 1) := by decide +kernel
theorem zqd_222 : decode code 222 = .ok (.iconst 4, 1) := by decide +kernel
theorem zqd_223 : decode code 223 = .ok (.iadd, 1) := by decide +kernel
theorem zqd_224 : decode code 224 = .ok (.iaload, 1) := by decide +kernel
theorem zqd_225 : decode code 225 = .ok (.invokevirtual 13, 3) := by decide +kernel
theorem zqd_228 : decode code 228 = .ok (.pop, 1) := by decide +kernel
theorem zqd_229 : decode code 229 = .ok (.aload_n 2, 1) := by decide +kernel
theorem zqd_230 : decode code 230 = .ok (.aload_n 0, 1) := by decide +kernel
theorem zqd_231 : decode code 231 = .ok (.iload_n 3, 1) := by decide +kernel
theorem zqd_232 : decode code 232 = .ok (.iconst 1, 1) := by decide +kernel
theorem zqd_233 : decode code 233 = .ok (.iadd, 1) := by decide +kernel
theorem zqd_234 : decode code 234 = .ok (.iaload, 1) := by decide +kernel
theorem zqd_235 : decode code 235 = .ok (.aload_n 0, 1) := by decide +kernel
theorem zqd_236 : decode code 236 = .ok (.iload_n 3, 1) := by decide +kernel
theorem zqd_237 : decode code 237 = .ok (.iconst 2, 1) := by decide +kernel
theorem zqd_238 : decode code 238 = .ok (.iadd, 1) := by decide +kernel
theorem zqd_239 : decode code 239 = .ok (.iaload, 1) := by decide +kernel
theorem zqd_240 : decode code 240 = .ok (.aload_n 0, 1) := by decide +kernel
theorem zqd_241 : decode code 241 = .ok (.iload_n 3, 1) := by decide +kernel
theorem zqd_242 : decode code 242 = .ok (.iconst 3, 1) := by decide +kernel
theorem zqd_243 : decode code 243 = .ok (.iadd, 1) := by decide +kernel
theorem zqd_244 : decode code 244 = .ok (.iaload, 1) := by decide +kernel
theorem zqd_245 : decode code 245 = .ok (.aload_n 0, 1) := by decide +kernel
theorem zqd_246 : decode code 246 = .ok (.iload_n 3, 1) := by decide +kernel
theorem zqd_247 : decode code 247 = .ok (.iconst 4, 1) := by decide +kernel
theorem zqd_248 : decode code 248 = .ok (.iadd, 1) := by decide +kernel
theorem zqd_249 : decode code 249 = .ok (.iaload, 1) := by decide +kernel
theorem zqd_250 : decode code 250 = .ok (.invokevirtual 17, 3) := by decide +kernel
theorem zqd_253 : decode code 253 = .ok (.pop, 1) := by decide +kernel
theorem zqd_254 : decode code 254 = .ok (.goto 1339, 3) := by decide +kernel
theorem zqd_257 : decode code 257 = .ok (.aload_n 1, 1) := by decide +kernel
theorem zqd_258 : decode code 258 = .ok (.aload_n 0, 1) := by decide +kernel
theorem zqd_259 : decode code 259 = .ok (.iload_n 3, 1) := by decide +kernel
theorem zqd_260 : decode code 260 = .ok (.iconst 1, 1) := by decide +kernel
theorem zqd_261 : decode code 261 = .ok (.iadd, 1) := by decide +kernel
theorem zqd_262 : decode code 262 = .ok (.iaload, 1) := by decide +kernel
theorem zqd_263 : decode code 263 = .ok (.aload_n 0, 1) := by decide +kernel
theorem zqd_264 : decode code 264 = .ok (.iload_n 3, 1) := by decide +kernel
theorem zqd_265 : decode code 265 = .ok (.iconst 2, 1) := by decide +kernel
theorem zqd_266 : decode code 266 = .ok (.iadd, 1) := by decide +kernel
theorem zqd_267 : decode code 267 = .ok (.iaload, 1) := by decide +kernel
theorem zqd_268 : decode code 268 = .ok (.aload_n 0, 1) := by decide +kernel
theorem zqd_269 : decode code 269 = .ok (.iload_n 3, 1) := by decide +kernel
theorem zqd_270 : decode code 270 = .ok (.iconst 3, 1) := by decide +kernel
theorem zqd_271 : decode code 271 = .ok (.iadd, 1) := by decide +kernel
theorem zqd_272 : decode code 272 = .ok (.iaload, 1) := by decide +kernel
theorem zqd_273 : decode code 273 = .ok (.invokevirtual 18, 3) := by decide +kernel
theorem zqd_276 : decode code 276 = .ok (.pop, 1) := by decide +kernel
theorem zqd_277 : decode code 277 = .ok (.aload_n 2, 1) := by decide +kernel
theorem zqd_278 : decode code 278 = .ok (.aload_n 0, 1) := by decide +kernel
theorem zqd_279 : decode code 279 = .ok (.iload_n 3, 1) := by decide +kernel
theorem zqd_280 : decode code 280 = .ok (.iconst 1, 1) := by decide +kernel
theorem zqd_281 : decode code 281 = .ok (.iadd, 1) := by decide +kernel
theorem zqd_282 : decode code 282 = .ok (.iaload, 1) := by decide +kernel
theorem zqd_283 : decode code 283 = .ok (.aload_n 0, 1) := by decide +kernel
theorem zqd_284 : decode code 284 = .ok (.iload_n 3, 1) := by decide +kernel
theorem zqd_285 : decode code 285 = .ok (.iconst 2, 1) := by decide +kernel
theorem zqd_286 : decode code 286 = .ok (.iadd, 1) := by decide +kernel
theorem zqd_287 : decode code 287 = .ok (.iaload, 1) := by decide +kernel
theorem zqd_288 : decode code 288 = .ok (.aload_n 0, 1) := by decide +kernel
theorem zqd_289 : decode code 289 = .ok (.iload_n 3, 1) := by decide +kernel
theorem zqd_290 : decode code 290 = .ok (.iconst 3, 1) := by decide +kernel
theorem zqd_291 : decode code 291 = .ok (.iadd, 1) := by decide +kernel
theorem zqd_292 : decode code 292 = .ok (.iaload, 1) := by decide +kernel
theorem zqd_293 : decode code 293 = .ok (.invokevirtual 22, 3) := by decide +kernel
theorem zqd_296 : decode code 296 = .ok (.pop, 1) := by decide +kernel
theorem zqd_297 : decode code 297 = .ok (.goto 1296, 3) := by decide +kernel
theorem zqd_300 : decode code 300 = .ok (.aload_n 1, 1) := by decide +kernel
theorem zqd_301 : decode code 301 = .ok (.aload_n 0, 1) := by decide +kernel
theorem zqd_302 : decode code 302 = .ok (.iload_n 3, 1) := by decide +kernel
theorem zqd_303 : decode code 303 = .ok (.iconst 1, 1) := by decide +kernel
theorem zqd_304 : decode code 304 = .ok (.iadd, 1) := by decide +kernel
theorem zqd_305 : decode code 305 = .ok (.iaload, 1) := by decide +kernel
theorem zqd_306 : decode code 306 = .ok (.invokevirtual 23, 3) := by decide +kernel
theorem zqd_309 : decode code 309 = .ok (.pop, 1) := by decide +kernel
theorem zqd_310 : decode code 310 = .ok (.aload_n 2, 1) := by decide +kernel
theorem zqd_311 : decode code 311 = .ok (.aload_n 0, 1) := by decide +kernel
theorem zqd_312 : decode code 312 = .ok (.iload_n 3, 1) := by decide +kernel
theorem zqd_313 : decode code 313 = .ok (.iconst 1, 1) := by decide +kernel
theorem zqd_314 : decode code 314 = .ok (.iadd, 1) := by decide +kernel
theorem zqd_315 : decode code 315 = .ok (.iaload, 1) := by decide +kernel
theorem zqd_316 : decode code 316 = .ok (.invokevirtual 27, 3) := by decide +kernel
theorem zqd_319 : decode code 319 = .ok (.pop, 1) := by decide +kernel
theorem zqd_320 : decode code 320 = .ok (.goto 1273, 3) := by decide +kernel
theorem zqd_323 : decode code 323 = .ok (.aload_n 1, 1) := by decide +kernel
theorem zqd_324 : decode code 324 = .ok (.aload_n 0, 1) := by decide +kernel
theorem zqd_325 : decode code 325 = .ok (.iload_n 3, 1) := by decide +kernel
theorem zqd_326 : decode code 326 = .ok (.iconst 1, 1) := by decide +kernel
theorem zqd_327 : decode code 327 = .ok (.iadd, 1) := by decide +kernel
theorem zqd_328 : decode code 328 = .ok (.iaload, 1) := by decide +kernel
theorem zqd_329 : decode code 329 = .ok (.invokevirtual 28, 3) := by decide +kernel
theorem zqd_332 : decode code 332 = .ok (.pop, 1) := by decide +kernel
theorem zqd_333 : decode code 333 = .ok (.aload_n 2, 1) := by decide +kernel
theorem zqd_334 : decode code 334 = .ok (.aload_n 0, 1) := by decide +kernel
theorem zqd_335 : decode code 335 = .ok (.iload_n 3, 1) := by decide +kernel
theorem zqd_336 : decode code 336 = .ok (.iconst 1, 1) := by decide +kernel
theorem zqd_337 : decode code 337 = .ok (.iadd, 1) := by decide +kernel
theorem zqd_338 : decode code 338 = .ok (.iaload, 1) := by decide +kernel
theorem zqd_339 : decode code 339 = .ok (.invokevirtual 31, 3) := by decide +kernel
theorem zqd_342 : decode code 342 = .ok (.pop, 1) := by decide +kernel
theorem zqd_343 : decode code 343 = .ok (.goto 1250, 3) := by decide +kernel
theorem zqd_346 : decode code 346 = .ok (.aload_n 1, 1) := by decide +kernel
theorem zqd_347 : decode code 347 = .ok (.aload_n 0, 1) := by decide +kernel
theorem zqd_348 : decode code 348 = .ok (.iload_n 3, 1) := by decide +kernel
theorem zqd_349 : decode code 349 = .ok (.iconst 1, 1) := by decide +kernel
theorem zqd_350 : decode code 350 = .ok (.iadd, 1) := by decide +kernel
theorem zqd_351 : decode code 351 = .ok (.iaload, 1) := by decide +kernel
theorem zqd_352 : decode code 352 = .ok (.invokevirtual 32, 3) := by decide +kernel
theorem zqd_355 : decode code 355 = .ok (.pop, 1) := by decide +kernel
theorem zqd_356 : decode code 356 = .ok (.aload_n 2, 1) := by decide +kernel
theorem zqd_357 : decode code 357 = .ok (.aload_n 0, 1) := by decide +kernel
theorem zqd_358 : decode code 358 = .ok (.iload_n 3, 1) := by decide +kernel
theorem zqd_359 : decode code 359 = .ok (.iconst 1, 1) := by decide +kernel
theorem zqd_360 : decode code 360 = .ok (.iadd, 1) := by decide +kernel
theorem zqd_361 : decode code 361 = .ok (.iaload, 1) := by decide +kernel
theorem zqd_362 : decode code 362 = .ok (.invokevirtual 35, 3) := by decide +kernel
theorem zqd_365 : decode code 365 = .ok (.pop, 1) := by decide +kernel
theorem zqd_366 : decode code 366 = .ok (.goto 1227, 3) := by decide +kernel
theorem zqd_369 : decode code 369 = .ok (.aload_n 1, 1) := by decide +kernel
theorem zqd_370 : decode code 370 = .ok (.aload_n 0, 1) := by decide +kernel
theorem zqd_371 : decode code 371 = .ok (.iload_n 3, 1) := by decide +kernel
theorem zqd_372 : decode code 372 = .ok (.iconst 1, 1) := by decide +kernel
theorem zqd_373 : decode code 373 = .ok (.iadd, 1) := by decide +kernel
theorem zqd_374 : decode code 374 = .ok (.iaload, 1) := by decide +kernel
theorem zqd_375 : decode code 375 = .ok (.aload_n 0, 1) := by decide +kernel
theorem zqd_376 : decode code 376 = .ok (.iload_n 3, 1) := by decide +kernel
theorem zqd_377 : decode code 377 = .ok (.iconst 2, 1) := by decide +kernel
theorem zqd_378 : decode code 378 = .ok (.iadd, 1) := by decide +kernel
theorem zqd_379 : decode code 379 = .ok (.iaload, 1) := by decide +kernel
theorem zqd_380 : decode code 380 = .ok (.invokevirtual 36, 3) := by decide +kernel
theorem zqd_383 : decode code 383 = .ok (.pop, 1) := by decide +kernel
theorem zqd_384 : decode code 384 = .ok (.aload_n 2, 1) := by decide +kernel
theorem zqd_385 : decode code 385 = .ok (.aload_n 0, 1) := by decide +kernel
theorem zqd_386 : decode code 386 = .ok (.iload_n 3, 1) := by decide +kernel
theorem zqd_387 : decode code 387 = .ok (.iconst 1, 1) := by decide +kernel
theorem zqd_388 : decode code 388 = .ok (.iadd, 1) := by decide +kernel
theorem zqd_389 : decode code 389 = .ok (.iaload, 1) := by decide +kernel
theorem zqd_390 : decode code 390 = .ok (.aload_n 0, 1) := by decide +kernel
theorem zqd_391 : decode code 391 = .ok (.iload_n 3, 1) := by decide +kernel
theorem zqd_392 : decode code 392 = .ok (.iconst 2, 1) := by decide +kernel
theorem zqd_393 : decode code 393 = .ok (.iadd, 1) := by decide +kernel
theorem zqd_394 : decode code 394 = .ok (.iaload, 1) := by decide +kernel
theorem zqd_395 : decode code 395 = .ok (.invokevirtual 40, 3) := by decide +kernel
theorem zqd_398 : decode code 398 = .ok (.pop, 1) := by decide +kernel
theorem zqd_399 : decode code 399 = .ok (.goto 1194, 3) := by decide +kernel
theorem zqd_402 : decode code 402 = .ok (.aload_n 1, 1) := by decide +kernel
theorem zqd_403 : decode code 403 = .ok (.aload_n 0, 1) := by decide +kernel
theorem zqd_404 : decode code 404 = .ok (.iload_n 3, 1) := by decide +kernel
theorem zqd_405 : decode code 405 = .ok (.iconst 1, 1) := by decide +kernel
theorem zqd_406 : decode code 406 = .ok (.iadd, 1) := by decide +kernel
theorem zqd_407 : decode code 407 = .ok (.iaload, 1) := by decide +kernel
theorem zqd_408 : decode code 408 = .ok (.aload_n 0, 1) := by decide +kernel
theorem zqd_409 : decode code 409 = .ok (.iload_n 3, 1) := by decide +kernel
theorem zqd_410 : decode code 410 = .ok (.iconst 2, 1) := by decide +kernel
theorem zqd_411 : decode code 411 = .ok (.iadd, 1) := by decide +kernel
theorem zqd_412 : decode code 412 = .ok (.iaload, 1) := by decide +kernel
theorem zqd_413 : decode code 413 = .ok (.aload_n 0, 1) := by decide +kernel
theorem zqd_414 : decode code 414 = .ok (.iload_n 3, 1) := by decide +kernel
theorem zqd_415 : decode code 415 = .ok (.iconst 3, 1) := by decide +kernel
theorem zqd_416 : decode code 416 = .ok (.iadd, 1) := by decide +kernel
theorem zqd_417 : decode code 417 = .ok (.iaload, 1) := by decide +kernel
theorem zqd_418 : decode code 418 = .ok (.ifCond .eq 7, 3) := by decide +kernel
theorem zqd_421 : decode code 421 = .ok (.iconst 1, 1) := by decide +kernel
theorem zqd_422 : decode code 422 = .ok (.goto 4, 3) := by decide +kernel
theorem zqd_425 : decode code 425 = .ok (.iconst 0, 1) := by decide +kernel
theorem zqd_426 : decode code 426 = .ok (.invokevirtual 41, 3) := by decide +kernel
theorem zqd_429 : decode code 429 = .ok (.pop, 1) := by decide +kernel
theorem zqd_430 : decode code 430 = .ok (.aload_n 2, 1) := by decide +kernel
theorem zqd_431 : decode code 431 = .ok (.aload_n 0, 1) := by decide +kernel
theorem zqd_432 : decode code 432 = .ok (.iload_n 3, 1) := by decide +kernel
theorem zqd_433 : decode code 433 = .ok (.iconst 1, 1) := by decide +kernel
theorem zqd_434 : decode code 434 = .ok (.iadd, 1) := by decide +kernel
theorem zqd_435 : decode code 435 = .ok (.iaload, 1) := by decide +kernel
theorem zqd_436 : decode code 436 = .ok (.aload_n 0, 1) := by decide +kernel
theorem zqd_437 : decode code 437 = .ok (.iload_n 3, 1) := by decide +kernel
theorem zqd_438 : decode code 438 = .ok (.iconst 2, 1) := by decide +kernel
theorem zqd_439 : decode code 439 = .ok (.iadd, 1) := by decide +kernel
theorem zqd_440 : decode code 440 = .ok (.iaload, 1) := by decide +kernel
theorem zqd_441 : decode code 441 = .ok (.aload_n 0, 1) := by decide +kernel
theorem zqd_442 : decode code 442 = .ok (.iload_n 3, 1) := by decide +kernel
theorem zqd_443 : decode code 443 = .ok (.iconst 3, 1) := by decide +kernel
theorem zqd_444 : decode code 444 = .ok (.iadd, 1) := by decide +kernel
theorem zqd_445 : decode code 445 = .ok (.iaload, 1) := by decide +kernel
theorem zqd_446 : decode code 446 = .ok (.ifCond .eq 7, 3) := by decide +kernel
theorem zqd_449 : decode code 449 = .ok (.iconst 1, 1) := by decide +kernel
theorem zqd_450 : decode code 450 = .ok (.goto 4, 3) := by decide +kernel
theorem zqd_453 : decode code 453 = .ok (.iconst 0, 1) := by decide +kernel
theorem zqd_454 : decode code 454 = .ok (.invokevirtual 45, 3) := by decide +kernel
theorem zqd_457 : decode code 457 = .ok (.pop, 1) := by decide +kernel
theorem zqd_458 : decode code 458 = .ok (.goto 1135, 3) := by decide +kernel
theorem zqd_461 : decode code 461 = .ok (.aload_n 1, 1) := by decide +kernel
theorem zqd_462 : decode code 462 = .ok (.aload_n 0, 1) := by decide +kernel
theorem zqd_463 : decode code 463 = .ok (.iload_n 3, 1) := by decide +kernel
theorem zqd_464 : decode code 464 = .ok (.iconst 1, 1) := by decide +kernel
theorem zqd_465 : decode code 465 = .ok (.iadd, 1) := by decide +kernel
theorem zqd_466 : decode code 466 = .ok (.iaload, 1) := by decide +kernel
theorem zqd_467 : decode code 467 = .ok (.aload_n 0, 1) := by decide +kernel
theorem zqd_468 : decode code 468 = .ok (.iload_n 3, 1) := by decide +kernel
theorem zqd_469 : decode code 469 = .ok (.iconst 2, 1) := by decide +kernel
theorem zqd_470 : decode code 470 = .ok (.iadd, 1) := by decide +kernel
theorem zqd_471 : decode code 471 = .ok (.iaload, 1) := by decide +kernel
theorem zqd_472 : decode code 472 = .ok (.aload_n 0, 1) := by decide +kernel
theorem zqd_473 : decode code 473 = .ok (.iload_n 3, 1) := by decide +kernel
theorem zqd_474 : decode code 474 = .ok (.iconst 3, 1) := by decide +kernel
theorem zqd_475 : decode code 475 = .ok (.iadd, 1) := by decide +kernel
theorem zqd_476 : decode code 476 = .ok (.iaload, 1) := by decide +kernel
theorem zqd_477 : decode code 477 = .ok (.invokevirtual 46, 3) := by decide +kernel
theorem zqd_480 : decode code 480 = .ok (.pop, 1) := by decide +kernel
theorem zqd_481 : decode code 481 = .ok (.aload_n 2, 1) := by decide +kernel
theorem zqd_482 : decode code 482 = .ok (.aload_n 0, 1) := by decide +kernel
theorem zqd_483 : decode code 483 = .ok (.iload_n 3, 1) := by decide +kernel
theorem zqd_484 : decode code 484 = .ok (.iconst 1, 1) := by decide +kernel
theorem zqd_485 : decode code 485 = .ok (.iadd, 1) := by decide +kernel
theorem zqd_486 : decode code 486 = .ok (.iaload, 1) := by decide +kernel
theorem zqd_487 : decode code 487 = .ok (.aload_n 0, 1) := by decide +kernel
theorem zqd_488 : decode code 488 = .ok (.iload_n 3, 1) := by decide +kernel
theorem zqd_489 : decode code 489 = .ok (.iconst 2, 1) := by decide +kernel
theorem zqd_490 : decode code 490 = .ok (.iadd, 1) := by decide +kernel
theorem zqd_491 : decode code 491 = .ok (.iaload, 1) := by decide +kernel
theorem zqd_492 : decode code 492 = .ok (.aload_n 0, 1) := by decide +kernel
theorem zqd_493 : decode code 493 = .ok (.iload_n 3, 1) := by decide +kernel
theorem zqd_494 : decode code 494 = .ok (.iconst 3, 1) := by decide +kernel
theorem zqd_495 : decode code 495 = .ok (.iadd, 1) := by decide +kernel
theorem zqd_496 : decode code 496 = .ok (.iaload, 1) := by decide +kernel
theorem zqd_497 : decode code 497 = .ok (.invokevirtual 49, 3) := by decide +kernel
theorem zqd_500 : decode code 500 = .ok (.pop, 1) := by decide +kernel
theorem zqd_501 : decode code 501 = .ok (.goto 1092, 3) := by decide +kernel
theorem zqd_504 : decode code 504 = .ok (.aload_n 1, 1) := by decide +kernel
theorem zqd_505 : decode code 505 = .ok (.aload_n 0, 1) := by decide +kernel
theorem zqd_506 : decode code 506 = .ok (.iload_n 3, 1) := by decide +kernel
theorem zqd_507 : decode code 507 = .ok (.iconst 1, 1) := by decide +kernel
theorem zqd_508 : decode code 508 = .ok (.iadd, 1) := by decide +kernel
theorem zqd_509 : decode code 509 = .ok (.iaload, 1) := by decide +kernel
theorem zqd_510 : decode code 510 = .ok (.aload_n 0, 1) := by decide +kernel
theorem zqd_511 : decode code 511 = .ok (.iload_n 3, 1) := by decide +kernel
theorem zqd_512 : decode code 512 = .ok (.iconst 2, 1) := by decide +kernel
theorem zqd_513 : decode code 513 = .ok (.iadd, 1) := by decide +kernel
theorem zqd_514 : decode code 514 = .ok (.iaload, 1) := by decide +kernel
theorem zqd_515 : decode code 515 = .ok (.aload_n 0, 1) := by decide +kernel
theorem zqd_516 : decode code 516 = .ok (.iload_n 3, 1) := by decide +kernel
theorem zqd_517 : decode code 517 = .ok (.iconst 3, 1) := by decide +kernel
theorem zqd_518 : decode code 518 = .ok (.iadd, 1) := by decide +kernel
theorem zqd_519 : decode code 519 = .ok (.iaload, 1) := by decide +kernel
theorem zqd_520 : decode code 520 = .ok (.aload_n 0, 1) := by decide +kernel
theorem zqd_521 : decode code 521 = .ok (.iload_n 3, 1) := by decide +kernel
theorem zqd_522 : decode code 522 = .ok (.iconst 4, 1) := by decide +kernel
theorem zqd_523 : decode code 523 = .ok (.iadd, 1) := by decide +kernel
theorem zqd_524 : decode code 524 = .ok (.iaload, 1) := by decide +kernel
theorem zqd_525 : decode code 525 = .ok (.aload_n 0, 1) := by decide +kernel
theorem zqd_526 : decode code 526 = .ok (.iload_n 3, 1) := by decide +kernel
theorem zqd_527 : decode code 527 = .ok (.iconst 5, 1) := by decide +kernel
theorem zqd_528 : decode code 528 = .ok (.iadd, 1) := by decide +kernel
theorem zqd_529 : decode code 529 = .ok (.iaload, 1) := by decide +kernel
theorem zqd_530 : decode code 530 = .ok (.invokevirtual 50, 3) := by decide +kernel
theorem zqd_533 : decode code 533 = .ok (.pop, 1) := by decide +kernel
theorem zqd_534 : decode code 534 = .ok (.aload_n 2, 1) := by decide +kernel
theorem zqd_535 : decode code 535 = .ok (.aload_n 0, 1) := by decide +kernel
theorem zqd_536 : decode code 536 = .ok (.iload_n 3, 1) := by decide +kernel
theorem zqd_537 : decode code 537 = .ok (.iconst 1, 1) := by decide +kernel
theorem zqd_538 : decode code 538 = .ok (.iadd, 1) := by decide +kernel
theorem zqd_539 : decode code 539 = .ok (.iaload, 1) := by decide +kernel
theorem zqd_540 : decode code 540 = .ok (.aload_n 0, 1) := by decide +kernel
theorem zqd_541 : decode code 541 = .ok (.iload_n 3, 1) := by decide +kernel
theorem zqd_542 : decode code 542 = .ok (.iconst 2, 1) := by decide +kernel
theorem zqd_543 : decode code 543 = .ok (.iadd, 1) := by decide +kernel
theorem zqd_544 : decode code 544 = .ok (.iaload, 1) := by decide +kernel
theorem zqd_545 : decode code 545 = .ok (.aload_n 0, 1) := by decide +kernel
theorem zqd_546 : decode code 546 = .ok (.iload_n 3, 1) := by decide +kernel
theorem zqd_547 : decode code 547 = .ok (.iconst 3, 1) := by decide +kernel
theorem zqd_548 : decode code 548 = .ok (.iadd, 1) := by decide +kernel
theorem zqd_549 : decode code 549 = .ok (.iaload, 1) := by decide +kernel
