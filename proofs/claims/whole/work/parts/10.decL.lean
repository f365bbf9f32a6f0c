theorem dL_law_0 : decode (code) 0 = .ok (.new 7, 3) := by decide +kernel
theorem dL_law_3 : decode (code) 3 = .ok (.dup, 1) := by decide +kernel
theorem dL_law_4 : decode (code) 4 = .ok (.invokespecial 9, 3) := by decide +kernel
theorem dL_law_7 : decode (code) 7 = .ok (.astore_n 1, 1) := by decide +kernel
theorem dL_law_8 : decode (code) 8 = .ok (.new 10, 3) := by decide +kernel
theorem dL_law_11 : decode (code) 11 = .ok (.dup, 1) := by decide +kernel
theorem dL_law_12 : decode (code) 12 = .ok (.invokespecial 12, 3) := by decide +kernel
theorem dL_law_15 : decode (code) 15 = .ok (.astore_n 2, 1) := by decide +kernel
theorem dL_law_16 : decode (code) 16 = .ok (.iconst 0, 1) := by decide +kernel
theorem dL_law_17 : decode (code) 17 = .ok (.istore_n 3, 1) := by decide +kernel
theorem dL_law_18 : decode (code) 18 = .ok (.iload_n 3, 1) := by decide +kernel
theorem dL_law_19 : decode (code) 19 = .ok (.aload_n 0, 1) := by decide +kernel
theorem dL_law_20 : decode (code) 20 = .ok (.arraylength, 1) := by decide +kernel
theorem dL_law_21 : decode (code) 21 = .ok (.bipush 6, 2) := by decide +kernel
theorem dL_law_23 : decode (code) 23 = .ok (.isub, 1) := by decide +kernel
theorem dL_law_24 : decode (code) 24 = .ok (.if_icmp .gt 1282, 3) := by decide +kernel
theorem dL_law_27 : decode (code) 27 = .ok (.aload_n 0, 1) := by decide +kernel
theorem dL_law_28 : decode (code) 28 = .ok (.iload_n 3, 1) := by decide +kernel
theorem dL_law_29 : decode (code) 29 = .ok (.iaload, 1) := by decide +kernel
theorem dL_law_30 : decode (code) 30 = .ok (.bipush 63, 2) := by decide +kernel
theorem dL_law_32 : decode (code) 32 = .ok (.iand, 1) := by decide +kernel
theorem dL_law_33 : decode (code) 33 = .ok (.tableswitch 1267 0 39 #[175, 198, 211, 244, 277, 300, 323, 356, 389, 422, 465, 488, 531, 554, 587, 610, 623, 636, 679, 702, 725, 738, 771, 804, 827, 850, 883, 906, 929, 952, 995, 1059, 1083, 1126, 1149, 1162, 1175, 1218, 1231, 1244], 175) := by decide +kernel
theorem dL_law_208 : decode (code) 208 = .ok (.aload_n 1, 1) := by decide +kernel
theorem dL_law_209 : decode (code) 209 = .ok (.aload_n 0, 1) := by decide +kernel
theorem dL_law_210 : decode (code) 210 = .ok (.iload_n 3, 1) := by decide +kernel
theorem dL_law_211 : decode (code) 211 = .ok (.iconst 1, 1) := by decide +kernel
theorem dL_law_212 : decode (code) 212 = .ok (.iadd, 1) := by decide +kernel
theorem dL_law_213 : decode (code) 213 = .ok (.iaload, 1) := by decide +kernel
theorem dL_law_214 : decode (code) 214 = .ok (.invokevirtual 13, 3) := by decide +kernel
theorem dL_law_217 : decode (code) 217 = .ok (.aload_n 2, 1) := by decide +kernel
theorem dL_law_218 : decode (code) 218 = .ok (.aload_n 0, 1) := by decide +kernel
theorem dL_law_219 : decode (code) 219 = .ok (.iload_n 3, 1) := by decide +kernel
theorem dL_law_220 : decode (code) 220 = .ok (.iconst 1, 1) := by decide +kernel
theorem dL_law_221 : decode (code) 221 = .ok (.iadd, 1) := by decide +kernel
theorem dL_law_222 : decode (code) 222 = .ok (.iaload, 1) := by decide +kernel
theorem dL_law_223 : decode (code) 223 = .ok (.invokevirtual 17, 3) := by decide +kernel
theorem dL_law_226 : decode (code) 226 = .ok (.if_icmp .eq 1074, 3) := by decide +kernel
theorem dL_law_229 : decode (code) 229 = .ok (.iconst 0, 1) := by decide +kernel
theorem dL_law_230 : decode (code) 230 = .ok (.ireturn, 1) := by decide +kernel
theorem dL_law_231 : decode (code) 231 = .ok (.aload_n 1, 1) := by decide +kernel
theorem dL_law_232 : decode (code) 232 = .ok (.invokevirtual 18, 3) := by decide +kernel
theorem dL_law_235 : decode (code) 235 = .ok (.aload_n 2, 1) := by decide +kernel
theorem dL_law_236 : decode (code) 236 = .ok (.invokevirtual 22, 3) := by decide +kernel
theorem dL_law_239 : decode (code) 239 = .ok (.if_icmp .eq 1061, 3) := by decide +kernel
theorem dL_law_242 : decode (code) 242 = .ok (.iconst 0, 1) := by decide +kernel
theorem dL_law_243 : decode (code) 243 = .ok (.ireturn, 1) := by decide +kernel
theorem dL_law_244 : decode (code) 244 = .ok (.aload_n 1, 1) := by decide +kernel
theorem dL_law_245 : decode (code) 245 = .ok (.aload_n 0, 1) := by decide +kernel
theorem dL_law_246 : decode (code) 246 = .ok (.iload_n 3, 1) := by decide +kernel
theorem dL_law_247 : decode (code) 247 = .ok (.iconst 1, 1) := by decide +kernel
theorem dL_law_248 : decode (code) 248 = .ok (.iadd, 1) := by decide +kernel
theorem dL_law_249 : decode (code) 249 = .ok (.iaload, 1) := by decide +kernel
theorem dL_law_250 : decode (code) 250 = .ok (.aload_n 0, 1) := by decide +kernel
theorem dL_law_251 : decode (code) 251 = .ok (.iload_n 3, 1) := by decide +kernel
theorem dL_law_252 : decode (code) 252 = .ok (.iconst 2, 1) := by decide +kernel
theorem dL_law_253 : decode (code) 253 = .ok (.iadd, 1) := by decide +kernel
theorem dL_law_254 : decode (code) 254 = .ok (.iaload, 1) := by decide +kernel
theorem dL_law_255 : decode (code) 255 = .ok (.invokevirtual 23, 3) := by decide +kernel
theorem dL_law_258 : decode (code) 258 = .ok (.aload_n 2, 1) := by decide +kernel
theorem dL_law_259 : decode (code) 259 = .ok (.aload_n 0, 1) := by decide +kernel
theorem dL_law_260 : decode (code) 260 = .ok (.iload_n 3, 1) := by decide +kernel
theorem dL_law_261 : decode (code) 261 = .ok (.iconst 1, 1) := by decide +kernel
theorem dL_law_262 : decode (code) 262 = .ok (.iadd, 1) := by decide +kernel
theorem dL_law_263 : decode (code) 263 = .ok (.iaload, 1) := by decide +kernel
theorem dL_law_264 : decode (code) 264 = .ok (.aload_n 0, 1) := by decide +kernel
theorem dL_law_265 : decode (code) 265 = .ok (.iload_n 3, 1) := by decide +kernel
theorem dL_law_266 : decode (code) 266 = .ok (.iconst 2, 1) := by decide +kernel
theorem dL_law_267 : decode (code) 267 = .ok (.iadd, 1) := by decide +kernel
theorem dL_law_268 : decode (code) 268 = .ok (.iaload, 1) := by decide +kernel
theorem dL_law_269 : decode (code) 269 = .ok (.invokevirtual 27, 3) := by decide +kernel
theorem dL_law_272 : decode (code) 272 = .ok (.if_icmp .eq 1028, 3) := by decide +kernel
theorem dL_law_275 : decode (code) 275 = .ok (.iconst 0, 1) := by decide +kernel
theorem dL_law_276 : decode (code) 276 = .ok (.ireturn, 1) := by decide +kernel
theorem dL_law_277 : decode (code) 277 = .ok (.aload_n 1, 1) := by decide +kernel
theorem dL_law_278 : decode (code) 278 = .ok (.aload_n 0, 1) := by decide +kernel
theorem dL_law_279 : decode (code) 279 = .ok (.iload_n 3, 1) := by decide +kernel
theorem dL_law_280 : decode (code) 280 = .ok (.iconst 1, 1) := by decide +kernel
theorem dL_law_281 : decode (code) 281 = .ok (.iadd, 1) := by decide +kernel
theorem dL_law_282 : decode (code) 282 = .ok (.iaload, 1) := by decide +kernel
theorem dL_law_283 : decode (code) 283 = .ok (.aload_n 0, 1) := by decide +kernel
theorem dL_law_284 : decode (code) 284 = .ok (.iload_n 3, 1) := by decide +kernel
theorem dL_law_285 : decode (code) 285 = .ok (.iconst 2, 1) := by decide +kernel
theorem dL_law_286 : decode (code) 286 = .ok (.iadd, 1) := by decide +kernel
theorem dL_law_287 : decode (code) 287 = .ok (.iaload, 1) := by decide +kernel
theorem dL_law_288 : decode (code) 288 = .ok (.invokevirtual 28, 3) := by decide +kernel
theorem dL_law_291 : decode (code) 291 = .ok (.aload_n 2, 1) := by decide +kernel
theorem dL_law_292 : decode (code) 292 = .ok (.aload_n 0, 1) := by decide +kernel
theorem dL_law_293 : decode (code) 293 = .ok (.iload_n 3, 1) := by decide +kernel
theorem dL_law_294 : decode (code) 294 = .ok (.iconst 1, 1) := by decide +kernel
theorem dL_law_295 : decode (code) 295 = .ok (.iadd, 1) := by decide +kernel
theorem dL_law_296 : decode (code) 296 = .ok (.iaload, 1) := by decide +kernel
theorem dL_law_297 : decode (code) 297 = .ok (.aload_n 0, 1) := by decide +kernel
theorem dL_law_298 : decode (code) 298 = .ok (.iload_n 3, 1) := by decide +kernel
theorem dL_law_299 : decode (code) 299 = .ok (.iconst 2, 1) := by decide +kernel
theorem dL_law_300 : decode (code) 300 = .ok (.iadd, 1) := by decide +kernel
theorem dL_law_301 : decode (code) 301 = .ok (.iaload, 1) := by decide +kernel
theorem dL_law_302 : decode (code) 302 = .ok (.invokevirtual 31, 3) := by decide +kernel
theorem dL_law_305 : decode (code) 305 = .ok (.if_icmp .eq 995, 3) := by decide +kernel
theorem dL_law_308 : decode (code) 308 = .ok (.iconst 0, 1) := by decide +kernel
theorem dL_law_309 : decode (code) 309 = .ok (.ireturn, 1) := by decide +kernel
theorem dL_law_310 : decode (code) 310 = .ok (.aload_n 1, 1) := by decide +kernel
theorem dL_law_311 : decode (code) 311 = .ok (.aload_n 0, 1) := by decide +kernel
theorem dL_law_312 : decode (code) 312 = .ok (.iload_n 3, 1) := by decide +kernel
theorem dL_law_313 : decode (code) 313 = .ok (.iconst 1, 1) := by decide +kernel
theorem dL_law_314 : decode (code) 314 = .ok (.iadd, 1) := by decide +kernel
theorem dL_law_315 : decode (code) 315 = .ok (.iaload, 1) := by decide +kernel
theorem dL_law_316 : decode (code) 316 = .ok (.invokevirtual 32, 3) := by decide +kernel
theorem dL_law_319 : decode (code) 319 = .ok (.aload_n 2, 1) := by decide +kernel
theorem dL_law_320 : decode (code) 320 = .ok (.aload_n 0, 1) := by decide +kernel
theorem dL_law_321 : decode (code) 321 = .ok (.iload_n 3, 1) := by decide +kernel
theorem dL_law_322 : decode (code) 322 = .ok (.iconst 1, 1) := by decide +kernel
theorem dL_law_323 : decode (code) 323 = .ok (.iadd, 1) := by decide +kernel
theorem dL_law_324 : decode (code) 324 = .ok (.iaload, 1) := by decide +kernel
theorem dL_law_325 : decode (code) 325 = .ok (.invokevirtual 35, 3) := by decide +kernel
theorem dL_law_328 : decode (code) 328 = .ok (.if_icmp .eq 972, 3) := by decide +kernel
theorem dL_law_331 : decode (code) 331 = .ok (.iconst 0, 1) := by decide +kernel
theorem dL_law_332 : decode (code) 332 = .ok (.ireturn, 1) := by decide +kernel
theorem dL_law_333 : decode (code) 333 = .ok (.aload_n 1, 1) := by decide +kernel
theorem dL_law_334 : decode (code) 334 = .ok (.aload_n 0, 1) := by decide +kernel
theorem dL_law_335 : decode (code) 335 = .ok (.iload_n 3, 1) := by decide +kernel
theorem dL_law_336 : decode (code) 336 = .ok (.iconst 1, 1) := by decide +kernel
theorem dL_law_337 : decode (code) 337 = .ok (.iadd, 1) := by decide +kernel
theorem dL_law_338 : decode (code) 338 = .ok (.iaload, 1) := by decide +kernel
theorem dL_law_339 : decode (code) 339 = .ok (.invokevirtual 36, 3) := by decide +kernel
theorem dL_law_342 : decode (code) 342 = .ok (.aload_n 2, 1) := by decide +kernel
theorem dL_law_343 : decode (code) 343 = .ok (.aload_n 0, 1) := by decide +kernel
theorem dL_law_344 : decode (code) 344 = .ok (.iload_n 3, 1) := by decide +kernel
theorem dL_law_345 : decode (code) 345 = .ok (.iconst 1, 1) := by decide +kernel
theorem dL_law_346 : decode (code) 346 = .ok (.iadd, 1) := by decide +kernel
theorem dL_law_347 : decode (code) 347 = .ok (.iaload, 1) := by decide +kernel
theorem dL_law_348 : decode (code) 348 = .ok (.invokevirtual 39, 3) := by decide +kernel
theorem dL_law_351 : decode (code) 351 = .ok (.if_icmp .eq 949, 3) := by decide +kernel
theorem dL_law_354 : decode (code) 354 = .ok (.iconst 0, 1) := by decide +kernel
theorem dL_law_355 : decode (code) 355 = .ok (.ireturn, 1) := by decide +kernel
theorem dL_law_356 : decode (code) 356 = .ok (.aload_n 1, 1) := by decide +kernel
theorem dL_law_357 : decode (code) 357 = .ok (.aload_n 0, 1) := by decide +kernel
theorem dL_law_358 : decode (code) 358 = .ok (.iload_n 3, 1) := by decide +kernel
theorem dL_law_359 : decode (code) 359 = .ok (.iconst 1, 1) := by decide +kernel
theorem dL_law_360 : decode (code) 360 = .ok (.iadd, 1) := by decide +kernel
theorem dL_law_361 : decode (code) 361 = .ok (.iaload, 1) := by decide +kernel
theorem dL_law_362 : decode (code) 362 = .ok (.aload_n 0, 1) := by decide +kernel
theorem dL_law_363 : decode (code) 363 = .ok (.iload_n 3, 1) := by decide +kernel
theorem dL_law_364 : decode (code) 364 = .ok (.iconst 2, 1) := by decide +kernel
theorem dL_law_365 : decode (code) 365 = .ok (.iadd, 1) := by decide +kernel
theorem dL_law_366 : decode (code) 366 = .ok (.iaload, 1) := by decide +kernel
theorem dL_law_367 : decode (code) 367 = .ok (.invokevirtual 40, 3) := by decide +kernel
theorem dL_law_370 : decode (code) 370 = .ok (.aload_n 2, 1) := by decide +kernel
theorem dL_law_371 : decode (code) 371 = .ok (.aload_n 0, 1) := by decide +kernel
theorem dL_law_372 : decode (code) 372 = .ok (.iload_n 3, 1) := by decide +kernel
theorem dL_law_373 : decode (code) 373 = .ok (.iconst 1, 1) := by decide +kernel
theorem dL_law_374 : decode (code) 374 = .ok (.iadd, 1) := by decide +kernel
theorem dL_law_375 : decode (code) 375 = .ok (.iaload, 1) := by decide +kernel
theorem dL_law_376 : decode (code) 376 = .ok (.aload_n 0, 1) := by decide +kernel
theorem dL_law_377 : decode (code) 377 = .ok (.iload_n 3, 1) := by decide +kernel
theorem dL_law_378 : decode (code) 378 = .ok (.iconst 2, 1) := by decide +kernel
theorem dL_law_379 : decode (code) 379 = .ok (.iadd, 1) := by decide +kernel
theorem dL_law_380 : decode (code) 380 = .ok (.iaload, 1) := by decide +kernel
theorem dL_law_381 : decode (code) 381 = .ok (.invokevirtual 43, 3) := by decide +kernel
theorem dL_law_384 : decode (code) 384 = .ok (.if_icmp .eq 916, 3) := by decide +kernel
theorem dL_law_387 : decode (code) 387 = .ok (.iconst 0, 1) := by decide +kernel
theorem dL_law_388 : decode (code) 388 = .ok (.ireturn, 1) := by decide +kernel
theorem dL_law_389 : decode (code) 389 = .ok (.aload_n 1, 1) := by decide +kernel
theorem dL_law_390 : decode (code) 390 = .ok (.aload_n 0, 1) := by decide +kernel
theorem dL_law_391 : decode (code) 391 = .ok (.iload_n 3, 1) := by decide +kernel
theorem dL_law_392 : decode (code) 392 = .ok (.iconst 1, 1) := by decide +kernel
theorem dL_law_393 : decode (code) 393 = .ok (.iadd, 1) := by decide +kernel
theorem dL_law_394 : decode (code) 394 = .ok (.iaload, 1) := by decide +kernel
theorem dL_law_395 : decode (code) 395 = .ok (.aload_n 0, 1) := by decide +kernel
theorem dL_law_396 : decode (code) 396 = .ok (.iload_n 3, 1) := by decide +kernel
theorem dL_law_397 : decode (code) 397 = .ok (.iconst 2, 1) := by decide +kernel
theorem dL_law_398 : decode (code) 398 = .ok (.iadd, 1) := by decide +kernel
theorem dL_law_399 : decode (code) 399 = .ok (.iaload, 1) := by decide +kernel
theorem dL_law_400 : decode (code) 400 = .ok (.invokevirtual 44, 3) := by decide +kernel
theorem dL_law_403 : decode (code) 403 = .ok (.aload_n 2, 1) := by decide +kernel
theorem dL_law_404 : decode (code) 404 = .ok (.aload_n 0, 1) := by decide +kernel
theorem dL_law_405 : decode (code) 405 = .ok (.iload_n 3, 1) := by decide +kernel
theorem dL_law_406 : decode (code) 406 = .ok (.iconst 1, 1) := by decide +kernel
theorem dL_law_407 : decode (code) 407 = .ok (.iadd, 1) := by decide +kernel
theorem dL_law_408 : decode (code) 408 = .ok (.iaload, 1) := by decide +kernel
theorem dL_law_409 : decode (code) 409 = .ok (.aload_n 0, 1) := by decide +kernel
theorem dL_law_410 : decode (code) 410 = .ok (.iload_n 3, 1) := by decide +kernel
theorem dL_law_411 : decode (code) 411 = .ok (.iconst 2, 1) := by decide +kernel
theorem dL_law_412 : decode (code) 412 = .ok (.iadd, 1) := by decide +kernel
theorem dL_law_413 : decode (code) 413 = .ok (.iaload, 1) := by decide +kernel
theorem dL_law_414 : decode (code) 414 = .ok (.invokevirtual 47, 3) := by decide +kernel
theorem dL_law_417 : decode (code) 417 = .ok (.if_icmp .eq 883, 3) := by decide +kernel
theorem dL_law_420 : decode (code) 420 = .ok (.iconst 0, 1) := by decide +kernel
theorem dL_law_421 : decode (code) 421 = .ok (.ireturn, 1) := by decide +kernel
theorem dL_law_422 : decode (code) 422 = .ok (.aload_n 1, 1) := by decide +kernel
theorem dL_law_423 : decode (code) 423 = .ok (.aload_n 0, 1) := by decide +kernel
theorem dL_law_424 : decode (code) 424 = .ok (.iload_n 3, 1) := by decide +kernel
theorem dL_law_425 : decode (code) 425 = .ok (.iconst 1, 1) := by decide +kernel
theorem dL_law_426 : decode (code) 426 = .ok (.iadd, 1) := by decide +kernel
theorem dL_law_427 : decode (code) 427 = .ok (.iaload, 1) := by decide +kernel
theorem dL_law_428 : decode (code) 428 = .ok (.aload_n 0, 1) := by decide +kernel
theorem dL_law_429 : decode (code) 429 = .ok (.iload_n 3, 1) := by decide +kernel
theorem dL_law_430 : decode (code) 430 = .ok (.iconst 2, 1) := by decide +kernel
theorem dL_law_431 : decode (code) 431 = .ok (.iadd, 1) := by decide +kernel
theorem dL_law_432 : decode (code) 432 = .ok (.iaload, 1) := by decide +kernel
theorem dL_law_433 : decode (code) 433 = .ok (.invokevirtual 48, 3) := by decide +kernel
theorem dL_law_436 : decode (code) 436 = .ok (.aload_n 2, 1) := by decide +kernel
theorem dL_law_437 : decode (code) 437 = .ok (.aload_n 0, 1) := by decide +kernel
theorem dL_law_438 : decode (code) 438 = .ok (.iload_n 3, 1) := by decide +kernel
theorem dL_law_439 : decode (code) 439 = .ok (.iconst 1, 1) := by decide +kernel
theorem dL_law_440 : decode (code) 440 = .ok (.iadd, 1) := by decide +kernel
theorem dL_law_441 : decode (code) 441 = .ok (.iaload, 1) := by decide +kernel
theorem dL_law_442 : decode (code) 442 = .ok (.aload_n 0, 1) := by decide +kernel
theorem dL_law_443 : decode (code) 443 = .ok (.iload_n 3, 1) := by decide +kernel
theorem dL_law_444 : decode (code) 444 = .ok (.iconst 2, 1) := by decide +kernel
theorem dL_law_445 : decode (code) 445 = .ok (.iadd, 1) := by decide +kernel
theorem dL_law_446 : decode (code) 446 = .ok (.iaload, 1) := by decide +kernel
theorem dL_law_447 : decode (code) 447 = .ok (.invokevirtual 51, 3) := by decide +kernel
theorem dL_law_450 : decode (code) 450 = .ok (.if_icmp .eq 850, 3) := by decide +kernel
theorem dL_law_453 : decode (code) 453 = .ok (.iconst 0, 1) := by decide +kernel
theorem dL_law_454 : decode (code) 454 = .ok (.ireturn, 1) := by decide +kernel
theorem dL_law_455 : decode (code) 455 = .ok (.aload_n 1, 1) := by decide +kernel
theorem dL_law_456 : decode (code) 456 = .ok (.aload_n 0, 1) := by decide +kernel
theorem dL_law_457 : decode (code) 457 = .ok (.iload_n 3, 1) := by decide +kernel
theorem dL_law_458 : decode (code) 458 = .ok (.iconst 1, 1) := by decide +kernel
theorem dL_law_459 : decode (code) 459 = .ok (.iadd, 1) := by decide +kernel
theorem dL_law_460 : decode (code) 460 = .ok (.iaload, 1) := by decide +kernel
theorem dL_law_461 : decode (code) 461 = .ok (.aload_n 0, 1) := by decide +kernel
theorem dL_law_462 : decode (code) 462 = .ok (.iload_n 3, 1) := by decide +kernel
theorem dL_law_463 : decode (code) 463 = .ok (.iconst 2, 1) := by decide +kernel
theorem dL_law_464 : decode (code) 464 = .ok (.iadd, 1) := by decide +kernel
theorem dL_law_465 : decode (code) 465 = .ok (.iaload, 1) := by decide +kernel
theorem dL_law_466 : decode (code) 466 = .ok (.aload_n 0, 1) := by decide +kernel
theorem dL_law_467 : decode (code) 467 = .ok (.iload_n 3, 1) := by decide +kernel
theorem dL_law_468 : decode (code) 468 = .ok (.iconst 3, 1) := by decide +kernel
theorem dL_law_469 : decode (code) 469 = .ok (.iadd, 1) := by decide +kernel
theorem dL_law_470 : decode (code) 470 = .ok (.iaload, 1) := by decide +kernel
theorem dL_law_471 : decode (code) 471 = .ok (.invokevirtual 52, 3) := by decide +kernel
theorem dL_law_474 : decode (code) 474 = .ok (.aload_n 2, 1) := by decide +kernel
theorem dL_law_475 : decode (code) 475 = .ok (.aload_n 0, 1) := by decide +kernel
theorem dL_law_476 : decode (code) 476 = .ok (.iload_n 3, 1) := by decide +kernel
theorem dL_law_477 : decode (code) 477 = .ok (.iconst 1, 1) := by decide +kernel
theorem dL_law_478 : decode (code) 478 = .ok (.iadd, 1) := by decide +kernel
theorem dL_law_479 : decode (code) 479 = .ok (.iaload, 1) := by decide +kernel
theorem dL_law_480 : decode (code) 480 = .ok (.aload_n 0, 1) := by decide +kernel
theorem dL_law_481 : decode (code) 481 = .ok (.iload_n 3, 1) := by decide +kernel
theorem dL_law_482 : decode (code) 482 = .ok (.iconst 2, 1) := by decide +kernel
theorem dL_law_483 : decode (code) 483 = .ok (.iadd, 1) := by decide +kernel
theorem dL_law_484 : decode (code) 484 = .ok (.iaload, 1) := by decide +kernel
theorem dL_law_485 : decode (code) 485 = .ok (.aload_n 0, 1) := by decide +kernel
theorem dL_law_486 : decode (code) 486 = .ok (.iload_n 3, 1) := by decide +kernel
theorem dL_law_487 : decode (code) 487 = .ok (.iconst 3, 1) := by decide +kernel
theorem dL_law_488 : decode (code) 488 = .ok (.iadd, 1) := by decide +kernel
theorem dL_law_489 : decode (code) 489 = .ok (.iaload, 1) := by decide +kernel
theorem dL_law_490 : decode (code) 490 = .ok (.invokevirtual 56, 3) := by decide +kernel
theorem dL_law_493 : decode (code) 493 = .ok (.if_icmp .eq 807, 3) := by decide +kernel
theorem dL_law_496 : decode (code) 496 = .ok (.iconst 0, 1) := by decide +kernel
theorem dL_law_497 : decode (code) 497 = .ok (.ireturn, 1) := by decide +kernel
theorem dL_law_498 : decode (code) 498 = .ok (.aload_n 1, 1) := by decide +kernel
theorem dL_law_499 : decode (code) 499 = .ok (.aload_n 0, 1) := by decide +kernel
theorem dL_law_500 : decode (code) 500 = .ok (.iload_n 3, 1) := by decide +kernel
theorem dL_law_501 : decode (code) 501 = .ok (.iconst 1, 1) := by decide +kernel
theorem dL_law_502 : decode (code) 502 = .ok (.iadd, 1) := by decide +kernel
theorem dL_law_503 : decode (code) 503 = .ok (.iaload, 1) := by decide +kernel
theorem dL_law_504 : decode (code) 504 = .ok (.invokevirtual 57, 3) := by decide +kernel
theorem dL_law_507 : decode (code) 507 = .ok (.aload_n 2, 1) := by decide +kernel
theorem dL_law_508 : decode (code) 508 = .ok (.aload_n 0, 1) := by decide +kernel
theorem dL_law_509 : decode (code) 509 = .ok (.iload_n 3, 1) := by decide +kernel
theorem dL_law_510 : decode (code) 510 = .ok (.iconst 1, 1) := by decide +kernel
theorem dL_law_511 : decode (code) 511 = .ok (.iadd, 1) := by decide +kernel
theorem dL_law_512 : decode (code) 512 = .ok (.iaload, 1) := by decide +kernel
theorem dL_law_513 : decode (code) 513 = .ok (.invokevirtual 60, 3) := by decide +kernel
theorem dL_law_516 : decode (code) 516 = .ok (.if_icmp .eq 784, 3) := by decide +kernel
theorem dL_law_519 : decode (code) 519 = .ok (.iconst 0, 1) := by decide +kernel
theorem dL_law_520 : decode (code) 520 = .ok (.ireturn, 1) := by decide +kernel
theorem dL_law_521 : decode (code) 521 = .ok (.aload_n 1, 1) := by decide +kernel
theorem dL_law_522 : decode (code) 522 = .ok (.aload_n 0, 1) := by decide +kernel
theorem dL_law_523 : decode (code) 523 = .ok (.iload_n 3, 1) := by decide +kernel
theorem dL_law_524 : decode (code) 524 = .ok (.iconst 1, 1) := by decide +kernel
theorem dL_law_525 : decode (code) 525 = .ok (.iadd, 1) := by decide +kernel
theorem dL_law_526 : decode (code) 526 = .ok (.iaload, 1) := by decide +kernel
theorem dL_law_527 : decode (code) 527 = .ok (.aload_n 0, 1) := by decide +kernel
theorem dL_law_528 : decode (code) 528 = .ok (.iload_n 3, 1) := by decide +kernel
theorem dL_law_529 : decode (code) 529 = .ok (.iconst 2, 1) := by decide +kernel
theorem dL_law_530 : decode (code) 530 = .ok (.iadd, 1) := by decide +kernel
theorem dL_law_531 : decode (code) 531 = .ok (.iaload, 1) := by decide +kernel
theorem dL_law_532 : decode (code) 532 = .ok (.aload_n 0, 1) := by decide +kernel
theorem dL_law_533 : decode (code) 533 = .ok (.iload_n 3, 1) := by decide +kernel
theorem dL_law_534 : decode (code) 534 = .ok (.iconst 3, 1) := by decide +kernel
theorem dL_law_535 : decode (code) 535 = .ok (.iadd, 1) := by decide +kernel
theorem dL_law_536 : decode (code) 536 = .ok (.iaload, 1) := by decide +kernel
theorem dL_law_537 : decode (code) 537 = .ok (.invokevirtual 61, 3) := by decide +kernel
theorem dL_law_540 : decode (code) 540 = .ok (.aload_n 2, 1) := by decide +kernel
theorem dL_law_541 : decode (code) 541 = .ok (.aload_n 0, 1) := by decide +kernel
theorem dL_law_542 : decode (code) 542 = .ok (.iload_n 3, 1) := by decide +kernel
theorem dL_law_543 : decode (code) 543 = .ok (.iconst 1, 1) := by decide +kernel
theorem dL_law_544 : decode (code) 544 = .ok (.iadd, 1) := by decide +kernel
theorem dL_law_545 : decode (code) 545 = .ok (.iaload, 1) := by decide +kernel
theorem dL_law_546 : decode (code) 546 = .ok (.aload_n 0, 1) := by decide +kernel
theorem dL_law_547 : decode (code) 547 = .ok (.iload_n 3, 1) := by decide +kernel
theorem dL_law_548 : decode (code) 548 = .ok (.iconst 2, 1) := by decide +kernel
theorem dL_law_549 : decode (code) 549 = .ok (.iadd, 1) := by decide +kernel
theorem dL_law_550 : decode (code) 550 = .ok (.iaload, 1) := by decide +kernel
theorem dL_law_551 : decode (code) 551 = .ok (.aload_n 0, 1) := by decide +kernel
theorem dL_law_552 : decode (code) 552 = .ok (.iload_n 3, 1) := by decide +kernel
theorem dL_law_553 : decode (code) 553 = .ok (.iconst 3, 1) := by decide +kernel
theorem dL_law_554 : decode (code) 554 = .ok (.iadd, 1) := by decide +kernel
theorem dL_law_555 : decode (code) 555 = .ok (.iaload, 1) := by decide +kernel
theorem dL_law_556 : decode (code) 556 = .ok (.invokevirtual 64, 3) := by decide +kernel
theorem dL_law_559 : decode (code) 559 = .ok (.if_icmp .eq 741, 3) := by decide +kernel
theorem dL_law_562 : decode (code) 562 = .ok (.iconst 0, 1) := by decide +kernel
theorem dL_law_563 : decode (code) 563 = .ok (.ireturn, 1) := by decide +kernel
theorem dL_law_564 : decode (code) 564 = .ok (.aload_n 1, 1) := by decide +kernel
theorem dL_law_565 : decode (code) 565 = .ok (.aload_n 0, 1) := by decide +kernel
theorem dL_law_566 : decode (code) 566 = .ok (.iload_n 3, 1) := by decide +kernel
theorem dL_law_567 : decode (code) 567 = .ok (.iconst 1, 1) := by decide +kernel
theorem dL_law_568 : decode (code) 568 = .ok (.iadd, 1) := by decide +kernel
theorem dL_law_569 : decode (code) 569 = .ok (.iaload, 1) := by decide +kernel
theorem dL_law_570 : decode (code) 570 = .ok (.invokevirtual 65, 3) := by decide +kernel
theorem dL_law_573 : decode (code) 573 = .ok (.aload_n 2, 1) := by decide +kernel
theorem dL_law_574 : decode (code) 574 = .ok (.aload_n 0, 1) := by decide +kernel
theorem dL_law_575 : decode (code) 575 = .ok (.iload_n 3, 1) := by decide +kernel
theorem dL_law_576 : decode (code) 576 = .ok (.iconst 1, 1) := by decide +kernel
theorem dL_law_577 : decode (code) 577 = .ok (.iadd, 1) := by decide +kernel
theorem dL_law_578 : decode (code) 578 = .ok (.iaload, 1) := by decide +kernel
theorem dL_law_579 : decode (code) 579 = .ok (.invokevirtual 68, 3) := by decide +kernel
theorem dL_law_582 : decode (code) 582 = .ok (.if_icmp .eq 718, 3) := by decide +kernel
theorem dL_law_585 : decode (code) 585 = .ok (.iconst 0, 1) := by decide +kernel
theorem dL_law_586 : decode (code) 586 = .ok (.ireturn, 1) := by decide +kernel
theorem dL_law_587 : decode (code) 587 = .ok (.aload_n 1, 1) := by decide +kernel
theorem dL_law_588 : decode (code) 588 = .ok (.aload_n 0, 1) := by decide +kernel
theorem dL_law_589 : decode (code) 589 = .ok (.iload_n 3, 1) := by decide +kernel
theorem dL_law_590 : decode (code) 590 = .ok (.iconst 1, 1) := by decide +kernel
theorem dL_law_591 : decode (code) 591 = .ok (.iadd, 1) := by decide +kernel
theorem dL_law_592 : decode (code) 592 = .ok (.iaload, 1) := by decide +kernel
theorem dL_law_593 : decode (code) 593 = .ok (.aload_n 0, 1) := by decide +kernel
theorem dL_law_594 : decode (code) 594 = .ok (.iload_n 3, 1) := by decide +kernel
theorem dL_law_595 : decode (code) 595 = .ok (.iconst 2, 1) := by decide +kernel
theorem dL_law_596 : decode (code) 596 = .ok (.iadd, 1) := by decide +kernel
theorem dL_law_597 : decode (code) 597 = .ok (.iaload, 1) := by decide +kernel
theorem dL_law_598 : decode (code) 598 = .ok (.invokevirtual 69, 3) := by decide +kernel
theorem dL_law_601 : decode (code) 601 = .ok (.aload_n 2, 1) := by decide +kernel
theorem dL_law_602 : decode (code) 602 = .ok (.aload_n 0, 1) := by decide +kernel
theorem dL_law_603 : decode (code) 603 = .ok (.iload_n 3, 1) := by decide +kernel
theorem dL_law_604 : decode (code) 604 = .ok (.iconst 1, 1) := by decide +kernel
theorem dL_law_605 : decode (code) 605 = .ok (.iadd, 1) := by decide +kernel
theorem dL_law_606 : decode (code) 606 = .ok (.iaload, 1) := by decide +kernel
theorem dL_law_607 : decode (code) 607 = .ok (.aload_n 0, 1) := by decide +kernel
theorem dL_law_608 : decode (code) 608 = .ok (.iload_n 3, 1) := by decide +kernel
theorem dL_law_609 : decode (code) 609 = .ok (.iconst 2, 1) := by decide +kernel
theorem dL_law_610 : decode (code) 610 = .ok (.iadd, 1) := by decide +kernel
theorem dL_law_611 : decode (code) 611 = .ok (.iaload, 1) := by decide +kernel
theorem dL_law_612 : decode (code) 612 = .ok (.invokevirtual 72, 3) := by decide +kernel
theorem dL_law_615 : decode (code) 615 = .ok (.if_icmp .eq 685, 3) := by decide +kernel
theorem dL_law_618 : decode (code) 618 = .ok (.iconst 0, 1) := by decide +kernel
theorem dL_law_619 : decode (code) 619 = .ok (.ireturn, 1) := by decide +kernel
theorem dL_law_620 : decode (code) 620 = .ok (.aload_n 1, 1) := by decide +kernel
theorem dL_law_621 : decode (code) 621 = .ok (.aload_n 0, 1) := by decide +kernel
theorem dL_law_622 : decode (code) 622 = .ok (.iload_n 3, 1) := by decide +kernel
theorem dL_law_623 : decode (code) 623 = .ok (.iconst 1, 1) := by decide +kernel
theorem dL_law_624 : decode (code) 624 = .ok (.iadd, 1) := by decide +kernel
theorem dL_law_625 : decode (code) 625 = .ok (.iaload, 1) := by decide +kernel
theorem dL_law_626 : decode (code) 626 = .ok (.invokevirtual 73, 3) := by decide +kernel
theorem dL_law_629 : decode (code) 629 = .ok (.aload_n 2, 1) := by decide +kernel
theorem dL_law_630 : decode (code) 630 = .ok (.aload_n 0, 1) := by decide +kernel
theorem dL_law_631 : decode (code) 631 = .ok (.iload_n 3, 1) := by decide +kernel
theorem dL_law_632 : decode (code) 632 = .ok (.iconst 1, 1) := by decide +kernel
theorem dL_law_633 : decode (code) 633 = .ok (.iadd, 1) := by decide +kernel
theorem dL_law_634 : decode (code) 634 = .ok (.iaload, 1) := by decide +kernel
theorem dL_law_635 : decode (code) 635 = .ok (.invokevirtual 76, 3) := by decide +kernel
theorem dL_law_638 : decode (code) 638 = .ok (.if_icmp .eq 662, 3) := by decide +kernel
theorem dL_law_641 : decode (code) 641 = .ok (.iconst 0, 1) := by decide +kernel
theorem dL_law_642 : decode (code) 642 = .ok (.ireturn, 1) := by decide +kernel
theorem dL_law_643 : decode (code) 643 = .ok (.aload_n 1, 1) := by decide +kernel
theorem dL_law_644 : decode (code) 644 = .ok (.invokevirtual 77, 3) := by decide +kernel
theorem dL_law_647 : decode (code) 647 = .ok (.aload_n 2, 1) := by decide +kernel
theorem dL_law_648 : decode (code) 648 = .ok (.invokevirtual 80, 3) := by decide +kernel
theorem dL_law_651 : decode (code) 651 = .ok (.if_icmp .eq 649, 3) := by decide +kernel
theorem dL_law_654 : decode (code) 654 = .ok (.iconst 0, 1) := by decide +kernel
theorem dL_law_655 : decode (code) 655 = .ok (.ireturn, 1) := by decide +kernel
theorem dL_law_656 : decode (code) 656 = .ok (.aload_n 1, 1) := by decide +kernel
theorem dL_law_657 : decode (code) 657 = .ok (.invokevirtual 81, 3) := by decide +kernel
theorem dL_law_660 : decode (code) 660 = .ok (.aload_n 2, 1) := by decide +kernel
theorem dL_law_661 : decode (code) 661 = .ok (.invokevirtual 84, 3) := by decide +kernel
theorem dL_law_664 : decode (code) 664 = .ok (.if_icmp .eq 636, 3) := by decide +kernel
theorem dL_law_667 : decode (code) 667 = .ok (.iconst 0, 1) := by decide +kernel
theorem dL_law_668 : decode (code) 668 = .ok (.ireturn, 1) := by decide +kernel
theorem dL_law_669 : decode (code) 669 = .ok (.aload_n 1, 1) := by decide +kernel
theorem dL_law_670 : decode (code) 670 = .ok (.aload_n 0, 1) := by decide +kernel
theorem dL_law_671 : decode (code) 671 = .ok (.iload_n 3, 1) := by decide +kernel
theorem dL_law_672 : decode (code) 672 = .ok (.iconst 1, 1) := by decide +kernel
theorem dL_law_673 : decode (code) 673 = .ok (.iadd, 1) := by decide +kernel
theorem dL_law_674 : decode (code) 674 = .ok (.iaload, 1) := by decide +kernel
theorem dL_law_675 : decode (code) 675 = .ok (.aload_n 0, 1) := by decide +kernel
theorem dL_law_676 : decode (code) 676 = .ok (.iload_n 3, 1) := by decide +kernel
theorem dL_law_677 : decode (code) 677 = .ok (.iconst 2, 1) := by decide +kernel
theorem dL_law_678 : decode (code) 678 = .ok (.iadd, 1) := by decide +kernel
theorem dL_law_679 : decode (code) 679 = .ok (.iaload, 1) := by decide +kernel
theorem dL_law_680 : decode (code) 680 = .ok (.aload_n 0, 1) := by decide +kernel
theorem dL_law_681 : decode (code) 681 = .ok (.iload_n 3, 1) := by decide +kernel
theorem dL_law_682 : decode (code) 682 = .ok (.iconst 3, 1) := by decide +kernel
theorem dL_law_683 : decode (code) 683 = .ok (.iadd, 1) := by decide +kernel
theorem dL_law_684 : decode (code) 684 = .ok (.iaload, 1) := by decide +kernel
theorem dL_law_685 : decode (code) 685 = .ok (.invokevirtual 85, 3) := by decide +kernel
theorem dL_law_688 : decode (code) 688 = .ok (.aload_n 2, 1) := by decide +kernel
theorem dL_law_689 : decode (code) 689 = .ok (.aload_n 0, 1) := by decide +kernel
theorem dL_law_690 : decode (code) 690 = .ok (.iload_n 3, 1) := by decide +kernel
theorem dL_law_691 : decode (code) 691 = .ok (.iconst 1, 1) := by decide +kernel
theorem dL_law_692 : decode (code) 692 = .ok (.iadd, 1) := by decide +kernel
theorem dL_law_693 : decode (code) 693 = .ok (.iaload, 1) := by decide +kernel
theorem dL_law_694 : decode (code) 694 = .ok (.aload_n 0, 1) := by decide +kernel
theorem dL_law_695 : decode (code) 695 = .ok (.iload_n 3, 1) := by decide +kernel
theorem dL_law_696 : decode (code) 696 = .ok (.iconst 2, 1) := by decide +kernel
theorem dL_law_697 : decode (code) 697 = .ok (.iadd, 1) := by decide +kernel
theorem dL_law_698 : decode (code) 698 = .ok (.iaload, 1) := by decide +kernel
theorem dL_law_699 : decode (code) 699 = .ok (.aload_n 0, 1) := by decide +kernel
theorem dL_law_700 : decode (code) 700 = .ok (.iload_n 3, 1) := by decide +kernel
theorem dL_law_701 : decode (code) 701 = .ok (.iconst 3, 1) := by decide +kernel
theorem dL_law_702 : decode (code) 702 = .ok (.iadd, 1) := by decide +kernel
theorem dL_law_703 : decode (code) 703 = .ok (.iaload, 1) := by decide +kernel
theorem dL_law_704 : decode (code) 704 = .ok (.invokevirtual 88, 3) := by decide +kernel
theorem dL_law_707 : decode (code) 707 = .ok (.if_icmp .eq 593, 3) := by decide +kernel
theorem dL_law_710 : decode (code) 710 = .ok (.iconst 0, 1) := by decide +kernel
theorem dL_law_711 : decode (code) 711 = .ok (.ireturn, 1) := by decide +kernel
theorem dL_law_712 : decode (code) 712 = .ok (.aload_n 1, 1) := by decide +kernel
theorem dL_law_713 : decode (code) 713 = .ok (.aload_n 0, 1) := by decide +kernel
theorem dL_law_714 : decode (code) 714 = .ok (.iload_n 3, 1) := by decide +kernel
theorem dL_law_715 : decode (code) 715 = .ok (.iconst 1, 1) := by decide +kernel
theorem dL_law_716 : decode (code) 716 = .ok (.iadd, 1) := by decide +kernel
theorem dL_law_717 : decode (code) 717 = .ok (.iaload, 1) := by decide +kernel
theorem dL_law_718 : decode (code) 718 = .ok (.invokevirtual 89, 3) := by decide +kernel
theorem dL_law_721 : decode (code) 721 = .ok (.aload_n 2, 1) := by decide +kernel
theorem dL_law_722 : decode (code) 722 = .ok (.aload_n 0, 1) := by decide +kernel
theorem dL_law_723 : decode (code) 723 = .ok (.iload_n 3, 1) := by decide +kernel
theorem dL_law_724 : decode (code) 724 = .ok (.iconst 1, 1) := by decide +kernel
theorem dL_law_725 : decode (code) 725 = .ok (.iadd, 1) := by decide +kernel
theorem dL_law_726 : decode (code) 726 = .ok (.iaload, 1) := by decide +kernel
theorem dL_law_727 : decode (code) 727 = .ok (.invokevirtual 92, 3) := by decide +kernel
theorem dL_law_730 : decode (code) 730 = .ok (.if_icmp .eq 570, 3) := by decide +kernel
theorem dL_law_733 : decode (code) 733 = .ok (.iconst 0, 1) := by decide +kernel
theorem dL_law_734 : decode (code) 734 = .ok (.ireturn, 1) := by decide +kernel
theorem dL_law_735 : decode (code) 735 = .ok (.aload_n 1, 1) := by decide +kernel
theorem dL_law_736 : decode (code) 736 = .ok (.aload_n 0, 1) := by decide +kernel
theorem dL_law_737 : decode (code) 737 = .ok (.iload_n 3, 1) := by decide +kernel
theorem dL_law_738 : decode (code) 738 = .ok (.iconst 1, 1) := by decide +kernel
theorem dL_law_739 : decode (code) 739 = .ok (.iadd, 1) := by decide +kernel
theorem dL_law_740 : decode (code) 740 = .ok (.iaload, 1) := by decide +kernel
theorem dL_law_741 : decode (code) 741 = .ok (.invokevirtual 93, 3) := by decide +kernel
theorem dL_law_744 : decode (code) 744 = .ok (.aload_n 2, 1) := by decide +kernel
theorem dL_law_745 : decode (code) 745 = .ok (.aload_n 0, 1) := by decide +kernel
theorem dL_law_746 : decode (code) 746 = .ok (.iload_n 3, 1) := by decide +kernel
theorem dL_law_747 : decode (code) 747 = .ok (.iconst 1, 1) := by decide +kernel
theorem dL_law_748 : decode (code) 748 = .ok (.iadd, 1) := by decide +kernel
theorem dL_law_749 : decode (code) 749 = .ok (.iaload, 1) := by decide +kernel
theorem dL_law_750 : decode (code) 750 = .ok (.invokevirtual 96, 3) := by decide +kernel
theorem dL_law_753 : decode (code) 753 = .ok (.if_icmp .eq 547, 3) := by decide +kernel
theorem dL_law_756 : decode (code) 756 = .ok (.iconst 0, 1) := by decide +kernel
theorem dL_law_757 : decode (code) 757 = .ok (.ireturn, 1) := by decide +kernel
theorem dL_law_758 : decode (code) 758 = .ok (.aload_n 1, 1) := by decide +kernel
theorem dL_law_759 : decode (code) 759 = .ok (.invokevirtual 97, 3) := by decide +kernel
theorem dL_law_762 : decode (code) 762 = .ok (.aload_n 2, 1) := by decide +kernel
theorem dL_law_763 : decode (code) 763 = .ok (.invokevirtual 100, 3) := by decide +kernel
theorem dL_law_766 : decode (code) 766 = .ok (.if_icmp .eq 534, 3) := by decide +kernel
theorem dL_law_769 : decode (code) 769 = .ok (.iconst 0, 1) := by decide +kernel
theorem dL_law_770 : decode (code) 770 = .ok (.ireturn, 1) := by decide +kernel
theorem dL_law_771 : decode (code) 771 = .ok (.aload_n 1, 1) := by decide +kernel
theorem dL_law_772 : decode (code) 772 = .ok (.aload_n 0, 1) := by decide +kernel
theorem dL_law_773 : decode (code) 773 = .ok (.iload_n 3, 1) := by decide +kernel
theorem dL_law_774 : decode (code) 774 = .ok (.iconst 1, 1) := by decide +kernel
theorem dL_law_775 : decode (code) 775 = .ok (.iadd, 1) := by decide +kernel
theorem dL_law_776 : decode (code) 776 = .ok (.iaload, 1) := by decide +kernel
theorem dL_law_777 : decode (code) 777 = .ok (.aload_n 0, 1) := by decide +kernel
theorem dL_law_778 : decode (code) 778 = .ok (.iload_n 3, 1) := by decide +kernel
theorem dL_law_779 : decode (code) 779 = .ok (.iconst 2, 1) := by decide +kernel
theorem dL_law_780 : decode (code) 780 = .ok (.iadd, 1) := by decide +kernel
theorem dL_law_781 : decode (code) 781 = .ok (.iaload, 1) := by decide +kernel
theorem dL_law_782 : decode (code) 782 = .ok (.invokevirtual 101, 3) := by decide +kernel
theorem dL_law_785 : decode (code) 785 = .ok (.aload_n 2, 1) := by decide +kernel
theorem dL_law_786 : decode (code) 786 = .ok (.aload_n 0, 1) := by decide +kernel
theorem dL_law_787 : decode (code) 787 = .ok (.iload_n 3, 1) := by decide +kernel
theorem dL_law_788 : decode (code) 788 = .ok (.iconst 1, 1) := by decide +kernel
theorem dL_law_789 : decode (code) 789 = .ok (.iadd, 1) := by decide +kernel
theorem dL_law_790 : decode (code) 790 = .ok (.iaload, 1) := by decide +kernel
theorem dL_law_791 : decode (code) 791 = .ok (.aload_n 0, 1) := by decide +kernel
theorem dL_law_792 : decode (code) 792 = .ok (.iload_n 3, 1) := by decide +kernel
theorem dL_law_793 : decode (code) 793 = .ok (.iconst 2, 1) := by decide +kernel
theorem dL_law_794 : decode (code) 794 = .ok (.iadd, 1) := by decide +kernel
theorem dL_law_795 : decode (code) 795 = .ok (.iaload, 1) := by decide +kernel
theorem dL_law_796 : decode (code) 796 = .ok (.invokevirtual 104, 3) := by decide +kernel
theorem dL_law_799 : decode (code) 799 = .ok (.if_icmp .eq 501, 3) := by decide +kernel
theorem dL_law_802 : decode (code) 802 = .ok (.iconst 0, 1) := by decide +kernel
theorem dL_law_803 : decode (code) 803 = .ok (.ireturn, 1) := by decide +kernel
theorem dL_law_804 : decode (code) 804 = .ok (.aload_n 1, 1) := by decide +kernel
theorem dL_law_805 : decode (code) 805 = .ok (.aload_n 0, 1) := by decide +kernel
theorem dL_law_806 : decode (code) 806 = .ok (.iload_n 3, 1) := by decide +kernel
theorem dL_law_807 : decode (code) 807 = .ok (.iconst 1, 1) := by decide +kernel
theorem dL_law_808 : decode (code) 808 = .ok (.iadd, 1) := by decide +kernel
theorem dL_law_809 : decode (code) 809 = .ok (.iaload, 1) := by decide +kernel
theorem dL_law_810 : decode (code) 810 = .ok (.aload_n 0, 1) := by decide +kernel
theorem dL_law_811 : decode (code) 811 = .ok (.iload_n 3, 1) := by decide +kernel
theorem dL_law_812 : decode (code) 812 = .ok (.iconst 2, 1) := by decide +kernel
theorem dL_law_813 : decode (code) 813 = .ok (.iadd, 1) := by decide +kernel
theorem dL_law_814 : decode (code) 814 = .ok (.iaload, 1) := by decide +kernel
theorem dL_law_815 : decode (code) 815 = .ok (.invokevirtual 105, 3) := by decide +kernel
theorem dL_law_818 : decode (code) 818 = .ok (.aload_n 2, 1) := by decide +kernel
theorem dL_law_819 : decode (code) 819 = .ok (.aload_n 0, 1) := by decide +kernel
theorem dL_law_820 : decode (code) 820 = .ok (.iload_n 3, 1) := by decide +kernel
theorem dL_law_821 : decode (code) 821 = .ok (.iconst 1, 1) := by decide +kernel
theorem dL_law_822 : decode (code) 822 = .ok (.iadd, 1) := by decide +kernel
theorem dL_law_823 : decode (code) 823 = .ok (.iaload, 1) := by decide +kernel
theorem dL_law_824 : decode (code) 824 = .ok (.aload_n 0, 1) := by decide +kernel
theorem dL_law_825 : decode (code) 825 = .ok (.iload_n 3, 1) := by decide +kernel
theorem dL_law_826 : decode (code) 826 = .ok (.iconst 2, 1) := by decide +kernel
theorem dL_law_827 : decode (code) 827 = .ok (.iadd, 1) := by decide +kernel
theorem dL_law_828 : decode (code) 828 = .ok (.iaload, 1) := by decide +kernel
theorem dL_law_829 : decode (code) 829 = .ok (.invokevirtual 108, 3) := by decide +kernel
theorem dL_law_832 : decode (code) 832 = .ok (.if_icmp .eq 468, 3) := by decide +kernel
theorem dL_law_835 : decode (code) 835 = .ok (.iconst 0, 1) := by decide +kernel
theorem dL_law_836 : decode (code) 836 = .ok (.ireturn, 1) := by decide +kernel
theorem dL_law_837 : decode (code) 837 = .ok (.aload_n 1, 1) := by decide +kernel
theorem dL_law_838 : decode (code) 838 = .ok (.aload_n 0, 1) := by decide +kernel
theorem dL_law_839 : decode (code) 839 = .ok (.iload_n 3, 1) := by decide +kernel
theorem dL_law_840 : decode (code) 840 = .ok (.iconst 1, 1) := by decide +kernel
theorem dL_law_841 : decode (code) 841 = .ok (.iadd, 1) := by decide +kernel
theorem dL_law_842 : decode (code) 842 = .ok (.iaload, 1) := by decide +kernel
theorem dL_law_843 : decode (code) 843 = .ok (.invokevirtual 109, 3) := by decide +kernel
theorem dL_law_846 : decode (code) 846 = .ok (.aload_n 2, 1) := by decide +kernel
theorem dL_law_847 : decode (code) 847 = .ok (.aload_n 0, 1) := by decide +kernel
theorem dL_law_848 : decode (code) 848 = .ok (.iload_n 3, 1) := by decide +kernel
theorem dL_law_849 : decode (code) 849 = .ok (.iconst 1, 1) := by decide +kernel
theorem dL_law_850 : decode (code) 850 = .ok (.iadd, 1) := by decide +kernel
theorem dL_law_851 : decode (code) 851 = .ok (.iaload, 1) := by decide +kernel
theorem dL_law_852 : decode (code) 852 = .ok (.invokevirtual 112, 3) := by decide +kernel
theorem dL_law_855 : decode (code) 855 = .ok (.if_icmp .eq 445, 3) := by decide +kernel
theorem dL_law_858 : decode (code) 858 = .ok (.iconst 0, 1) := by decide +kernel
theorem dL_law_859 : decode (code) 859 = .ok (.ireturn, 1) := by decide +kernel
theorem dL_law_860 : decode (code) 860 = .ok (.aload_n 1, 1) := by decide +kernel
theorem dL_law_861 : decode (code) 861 = .ok (.aload_n 0, 1) := by decide +kernel
theorem dL_law_862 : decode (code) 862 = .ok (.iload_n 3, 1) := by decide +kernel
theorem dL_law_863 : decode (code) 863 = .ok (.iconst 1, 1) := by decide +kernel
theorem dL_law_864 : decode (code) 864 = .ok (.iadd, 1) := by decide +kernel
theorem dL_law_865 : decode (code) 865 = .ok (.iaload, 1) := by decide +kernel
theorem dL_law_866 : decode (code) 866 = .ok (.invokevirtual 113, 3) := by decide +kernel
theorem dL_law_869 : decode (code) 869 = .ok (.aload_n 2, 1) := by decide +kernel
theorem dL_law_870 : decode (code) 870 = .ok (.aload_n 0, 1) := by decide +kernel
theorem dL_law_871 : decode (code) 871 = .ok (.iload_n 3, 1) := by decide +kernel
theorem dL_law_872 : decode (code) 872 = .ok (.iconst 1, 1) := by decide +kernel
theorem dL_law_873 : decode (code) 873 = .ok (.iadd, 1) := by decide +kernel
theorem dL_law_874 : decode (code) 874 = .ok (.iaload, 1) := by decide +kernel
theorem dL_law_875 : decode (code) 875 = .ok (.invokevirtual 116, 3) := by decide +kernel
theorem dL_law_878 : decode (code) 878 = .ok (.if_icmp .eq 422, 3) := by decide +kernel
theorem dL_law_881 : decode (code) 881 = .ok (.iconst 0, 1) := by decide +kernel
theorem dL_law_882 : decode (code) 882 = .ok (.ireturn, 1) := by decide +kernel
theorem dL_law_883 : decode (code) 883 = .ok (.aload_n 1, 1) := by decide +kernel
theorem dL_law_884 : decode (code) 884 = .ok (.aload_n 0, 1) := by decide +kernel
theorem dL_law_885 : decode (code) 885 = .ok (.iload_n 3, 1) := by decide +kernel
theorem dL_law_886 : decode (code) 886 = .ok (.iconst 1, 1) := by decide +kernel
theorem dL_law_887 : decode (code) 887 = .ok (.iadd, 1) := by decide +kernel
theorem dL_law_888 : decode (code) 888 = .ok (.iaload, 1) := by decide +kernel
theorem dL_law_889 : decode (code) 889 = .ok (.aload_n 0, 1) := by decide +kernel
theorem dL_law_890 : decode (code) 890 = .ok (.iload_n 3, 1) := by decide +kernel
theorem dL_law_891 : decode (code) 891 = .ok (.iconst 2, 1) := by decide +kernel
theorem dL_law_892 : decode (code) 892 = .ok (.iadd, 1) := by decide +kernel
theorem dL_law_893 : decode (code) 893 = .ok (.iaload, 1) := by decide +kernel
theorem dL_law_894 : decode (code) 894 = .ok (.invokevirtual 117, 3) := by decide +kernel
theorem dL_law_897 : decode (code) 897 = .ok (.aload_n 2, 1) := by decide +kernel
theorem dL_law_898 : decode (code) 898 = .ok (.aload_n 0, 1) := by decide +kernel
theorem dL_law_899 : decode (code) 899 = .ok (.iload_n 3, 1) := by decide +kernel
theorem dL_law_900 : decode (code) 900 = .ok (.iconst 1, 1) := by decide +kernel
theorem dL_law_901 : decode (code) 901 = .ok (.iadd, 1) := by decide +kernel
theorem dL_law_902 : decode (code) 902 = .ok (.iaload, 1) := by decide +kernel
theorem dL_law_903 : decode (code) 903 = .ok (.aload_n 0, 1) := by decide +kernel
theorem dL_law_904 : decode (code) 904 = .ok (.iload_n 3, 1) := by decide +kernel
theorem dL_law_905 : decode (code) 905 = .ok (.iconst 2, 1) := by decide +kernel
theorem dL_law_906 : decode (code) 906 = .ok (.iadd, 1) := by decide +kernel
theorem dL_law_907 : decode (code) 907 = .ok (.iaload, 1) := by decide +kernel
theorem dL_law_908 : decode (code) 908 = .ok (.invokevirtual 120, 3) := by decide +kernel
theorem dL_law_911 : decode (code) 911 = .ok (.if_icmp .eq 389, 3) := by decide +kernel
theorem dL_law_914 : decode (code) 914 = .ok (.iconst 0, 1) := by decide +kernel
theorem dL_law_915 : decode (code) 915 = .ok (.ireturn, 1) := by decide +kernel
theorem dL_law_916 : decode (code) 916 = .ok (.aload_n 1, 1) := by decide +kernel
theorem dL_law_917 : decode (code) 917 = .ok (.aload_n 0, 1) := by decide +kernel
theorem dL_law_918 : decode (code) 918 = .ok (.iload_n 3, 1) := by decide +kernel
theorem dL_law_919 : decode (code) 919 = .ok (.iconst 1, 1) := by decide +kernel
theorem dL_law_920 : decode (code) 920 = .ok (.iadd, 1) := by decide +kernel
theorem dL_law_921 : decode (code) 921 = .ok (.iaload, 1) := by decide +kernel
theorem dL_law_922 : decode (code) 922 = .ok (.invokevirtual 121, 3) := by decide +kernel
theorem dL_law_925 : decode (code) 925 = .ok (.aload_n 2, 1) := by decide +kernel
theorem dL_law_926 : decode (code) 926 = .ok (.aload_n 0, 1) := by decide +kernel
theorem dL_law_927 : decode (code) 927 = .ok (.iload_n 3, 1) := by decide +kernel
theorem dL_law_928 : decode (code) 928 = .ok (.iconst 1, 1) := by decide +kernel
theorem dL_law_929 : decode (code) 929 = .ok (.iadd, 1) := by decide +kernel
theorem dL_law_930 : decode (code) 930 = .ok (.iaload, 1) := by decide +kernel
theorem dL_law_931 : decode (code) 931 = .ok (.invokevirtual 124, 3) := by decide +kernel
theorem dL_law_934 : decode (code) 934 = .ok (.if_icmp .eq 366, 3) := by decide +kernel
theorem dL_law_937 : decode (code) 937 = .ok (.iconst 0, 1) := by decide +kernel
theorem dL_law_938 : decode (code) 938 = .ok (.ireturn, 1) := by decide +kernel
theorem dL_law_939 : decode (code) 939 = .ok (.aload_n 1, 1) := by decide +kernel
theorem dL_law_940 : decode (code) 940 = .ok (.aload_n 0, 1) := by decide +kernel
theorem dL_law_941 : decode (code) 941 = .ok (.iload_n 3, 1) := by decide +kernel
theorem dL_law_942 : decode (code) 942 = .ok (.iconst 1, 1) := by decide +kernel
theorem dL_law_943 : decode (code) 943 = .ok (.iadd, 1) := by decide +kernel
theorem dL_law_944 : decode (code) 944 = .ok (.iaload, 1) := by decide +kernel
theorem dL_law_945 : decode (code) 945 = .ok (.invokevirtual 125, 3) := by decide +kernel
theorem dL_law_948 : decode (code) 948 = .ok (.aload_n 2, 1) := by decide +kernel
theorem dL_law_949 : decode (code) 949 = .ok (.aload_n 0, 1) := by decide +kernel
theorem dL_law_950 : decode (code) 950 = .ok (.iload_n 3, 1) := by decide +kernel
theorem dL_law_951 : decode (code) 951 = .ok (.iconst 1, 1) := by decide +kernel
theorem dL_law_952 : decode (code) 952 = .ok (.iadd, 1) := by decide +kernel
theorem dL_law_953 : decode (code) 953 = .ok (.iaload, 1) := by decide +kernel
theorem dL_law_954 : decode (code) 954 = .ok (.invokevirtual 128, 3) := by decide +kernel
theorem dL_law_957 : decode (code) 957 = .ok (.if_icmp .eq 343, 3) := by decide +kernel
theorem dL_law_960 : decode (code) 960 = .ok (.iconst 0, 1) := by decide +kernel
theorem dL_law_961 : decode (code) 961 = .ok (.ireturn, 1) := by decide +kernel
theorem dL_law_962 : decode (code) 962 = .ok (.aload_n 1, 1) := by decide +kernel
theorem dL_law_963 : decode (code) 963 = .ok (.aload_n 0, 1) := by decide +kernel
theorem dL_law_964 : decode (code) 964 = .ok (.iload_n 3, 1) := by decide +kernel
theorem dL_law_965 : decode (code) 965 = .ok (.iconst 1, 1) := by decide +kernel
theorem dL_law_966 : decode (code) 966 = .ok (.iadd, 1) := by decide +kernel
theorem dL_law_967 : decode (code) 967 = .ok (.iaload, 1) := by decide +kernel
theorem dL_law_968 : decode (code) 968 = .ok (.invokevirtual 129, 3) := by decide +kernel
theorem dL_law_971 : decode (code) 971 = .ok (.aload_n 2, 1) := by decide +kernel
theorem dL_law_972 : decode (code) 972 = .ok (.aload_n 0, 1) := by decide +kernel
theorem dL_law_973 : decode (code) 973 = .ok (.iload_n 3, 1) := by decide +kernel
theorem dL_law_974 : decode (code) 974 = .ok (.iconst 1, 1) := by decide +kernel
theorem dL_law_975 : decode (code) 975 = .ok (.iadd, 1) := by decide +kernel
theorem dL_law_976 : decode (code) 976 = .ok (.iaload, 1) := by decide +kernel
theorem dL_law_977 : decode (code) 977 = .ok (.invokevirtual 132, 3) := by decide +kernel
theorem dL_law_980 : decode (code) 980 = .ok (.if_icmp .eq 320, 3) := by decide +kernel
theorem dL_law_983 : decode (code) 983 = .ok (.iconst 0, 1) := by decide +kernel
theorem dL_law_984 : decode (code) 984 = .ok (.ireturn, 1) := by decide +kernel
theorem dL_law_985 : decode (code) 985 = .ok (.aload_n 1, 1) := by decide +kernel
theorem dL_law_986 : decode (code) 986 = .ok (.aload_n 0, 1) := by decide +kernel
theorem dL_law_987 : decode (code) 987 = .ok (.iload_n 3, 1) := by decide +kernel
theorem dL_law_988 : decode (code) 988 = .ok (.iconst 1, 1) := by decide +kernel
theorem dL_law_989 : decode (code) 989 = .ok (.iadd, 1) := by decide +kernel
theorem dL_law_990 : decode (code) 990 = .ok (.iaload, 1) := by decide +kernel
theorem dL_law_991 : decode (code) 991 = .ok (.aload_n 0, 1) := by decide +kernel
theorem dL_law_992 : decode (code) 992 = .ok (.iload_n 3, 1) := by decide +kernel
theorem dL_law_993 : decode (code) 993 = .ok (.iconst 2, 1) := by decide +kernel
theorem dL_law_994 : decode (code) 994 = .ok (.iadd, 1) := by decide +kernel
theorem dL_law_995 : decode (code) 995 = .ok (.iaload, 1) := by decide +kernel
theorem dL_law_996 : decode (code) 996 = .ok (.aload_n 0, 1) := by decide +kernel
theorem dL_law_997 : decode (code) 997 = .ok (.iload_n 3, 1) := by decide +kernel
theorem dL_law_998 : decode (code) 998 = .ok (.iconst 3, 1) := by decide +kernel
theorem dL_law_999 : decode (code) 999 = .ok (.iadd, 1) := by decide +kernel
theorem dL_law_1000 : decode (code) 1000 = .ok (.iaload, 1) := by decide +kernel
theorem dL_law_1001 : decode (code) 1001 = .ok (.invokevirtual 133, 3) := by decide +kernel
theorem dL_law_1004 : decode (code) 1004 = .ok (.aload_n 2, 1) := by decide +kernel
theorem dL_law_1005 : decode (code) 1005 = .ok (.aload_n 0, 1) := by decide +kernel
theorem dL_law_1006 : decode (code) 1006 = .ok (.iload_n 3, 1) := by decide +kernel
theorem dL_law_1007 : decode (code) 1007 = .ok (.iconst 1, 1) := by decide +kernel
theorem dL_law_1008 : decode (code) 1008 = .ok (.iadd, 1) := by decide +kernel
theorem dL_law_1009 : decode (code) 1009 = .ok (.iaload, 1) := by decide +kernel
theorem dL_law_1010 : decode (code) 1010 = .ok (.aload_n 0, 1) := by decide +kernel
theorem dL_law_1011 : decode (code) 1011 = .ok (.iload_n 3, 1) := by decide +kernel
theorem dL_law_1012 : decode (code) 1012 = .ok (.iconst 2, 1) := by decide +kernel
theorem dL_law_1013 : decode (code) 1013 = .ok (.iadd, 1) := by decide +kernel
theorem dL_law_1014 : decode (code) 1014 = .ok (.iaload, 1) := by decide +kernel
theorem dL_law_1015 : decode (code) 1015 = .ok (.aload_n 0, 1) := by decide +kernel
theorem dL_law_1016 : decode (code) 1016 = .ok (.iload_n 3, 1) := by decide +kernel
theorem dL_law_1017 : decode (code) 1017 = .ok (.iconst 3, 1) := by decide +kernel
theorem dL_law_1018 : decode (code) 1018 = .ok (.iadd, 1) := by decide +kernel
theorem dL_law_1019 : decode (code) 1019 = .ok (.iaload, 1) := by decide +kernel
theorem dL_law_1020 : decode (code) 1020 = .ok (.invokevirtual 136, 3) := by decide +kernel
theorem dL_law_1023 : decode (code) 1023 = .ok (.if_icmp .eq 277, 3) := by decide +kernel
theorem dL_law_1026 : decode (code) 1026 = .ok (.iconst 0, 1) := by decide +kernel
theorem dL_law_1027 : decode (code) 1027 = .ok (.ireturn, 1) := by decide +kernel
theorem dL_law_1028 : decode (code) 1028 = .ok (.aload_n 1, 1) := by decide +kernel
theorem dL_law_1029 : decode (code) 1029 = .ok (.aload_n 0, 1) := by decide +kernel
theorem dL_law_1030 : decode (code) 1030 = .ok (.iload_n 3, 1) := by decide +kernel
theorem dL_law_1031 : decode (code) 1031 = .ok (.iconst 1, 1) := by decide +kernel
theorem dL_law_1032 : decode (code) 1032 = .ok (.iadd, 1) := by decide +kernel
theorem dL_law_1033 : decode (code) 1033 = .ok (.iaload, 1) := by decide +kernel
theorem dL_law_1034 : decode (code) 1034 = .ok (.aload_n 0, 1) := by decide +kernel
theorem dL_law_1035 : decode (code) 1035 = .ok (.iload_n 3, 1) := by decide +kernel
theorem dL_law_1036 : decode (code) 1036 = .ok (.iconst 2, 1) := by decide +kernel
theorem dL_law_1037 : decode (code) 1037 = .ok (.iadd, 1) := by decide +kernel
theorem dL_law_1038 : decode (code) 1038 = .ok (.iaload, 1) := by decide +kernel
theorem dL_law_1039 : decode (code) 1039 = .ok (.aload_n 0, 1) := by decide +kernel
theorem dL_law_1040 : decode (code) 1040 = .ok (.iload_n 3, 1) := by decide +kernel
theorem dL_law_1041 : decode (code) 1041 = .ok (.iconst 3, 1) := by decide +kernel
theorem dL_law_1042 : decode (code) 1042 = .ok (.iadd, 1) := by decide +kernel
theorem dL_law_1043 : decode (code) 1043 = .ok (.iaload, 1) := by decide +kernel
theorem dL_law_1044 : decode (code) 1044 = .ok (.aload_n 0, 1) := by decide +kernel
theorem dL_law_1045 : decode (code) 1045 = .ok (.iload_n 3, 1) := by decide +kernel
theorem dL_law_1046 : decode (code) 1046 = .ok (.iconst 4, 1) := by decide +kernel
theorem dL_law_1047 : decode (code) 1047 = .ok (.iadd, 1) := by decide +kernel
theorem dL_law_1048 : decode (code) 1048 = .ok (.iaload, 1) := by decide +kernel
theorem dL_law_1049 : decode (code) 1049 = .ok (.aload_n 0, 1) := by decide +kernel
theorem dL_law_1050 : decode (code) 1050 = .ok (.iload_n 3, 1) := by decide +kernel
theorem dL_law_1051 : decode (code) 1051 = .ok (.iconst 5, 1) := by decide +kernel
theorem dL_law_1052 : decode (code) 1052 = .ok (.iadd, 1) := by decide +kernel
theorem dL_law_1053 : decode (code) 1053 = .ok (.iaload, 1) := by decide +kernel
theorem dL_law_1054 : decode (code) 1054 = .ok (.invokevirtual 137, 3) := by decide +kernel
theorem dL_law_1057 : decode (code) 1057 = .ok (.aload_n 2, 1) := by decide +kernel
theorem dL_law_1058 : decode (code) 1058 = .ok (.aload_n 0, 1) := by decide +kernel
theorem dL_law_1059 : decode (code) 1059 = .ok (.iload_n 3, 1) := by decide +kernel
theorem dL_law_1060 : decode (code) 1060 = .ok (.iconst 1, 1) := by decide +kernel
theorem dL_law_1061 : decode (code) 1061 = .ok (.iadd, 1) := by decide +kernel
theorem dL_law_1062 : decode (code) 1062 = .ok (.iaload, 1) := by decide +kernel
theorem dL_law_1063 : decode (code) 1063 = .ok (.aload_n 0, 1) := by decide +kernel
theorem dL_law_1064 : decode (code) 1064 = .ok (.iload_n 3, 1) := by decide +kernel
theorem dL_law_1065 : decode (code) 1065 = .ok (.iconst 2, 1) := by decide +kernel
theorem dL_law_1066 : decode (code) 1066 = .ok (.iadd, 1) := by decide +kernel
theorem dL_law_1067 : decode (code) 1067 = .ok (.iaload, 1) := by decide +kernel
theorem dL_law_1068 : decode (code) 1068 = .ok (.aload_n 0, 1) := by decide +kernel
theorem dL_law_1069 : decode (code) 1069 = .ok (.iload_n 3, 1) := by decide +kernel
theorem dL_law_1070 : decode (code) 1070 = .ok (.iconst 3, 1) := by decide +kernel
theorem dL_law_1071 : decode (code) 1071 = .ok (.iadd, 1) := by decide +kernel
theorem dL_law_1072 : decode (code) 1072 = .ok (.iaload, 1) := by decide +kernel
theorem dL_law_1073 : decode (code) 1073 = .ok (.aload_n 0, 1) := by decide +kernel
theorem dL_law_1074 : decode (code) 1074 = .ok (.iload_n 3, 1) := by decide +kernel
theorem dL_law_1075 : decode (code) 1075 = .ok (.iconst 4, 1) := by decide +kernel
theorem dL_law_1076 : decode (code) 1076 = .ok (.iadd, 1) := by decide +kernel
theorem dL_law_1077 : decode (code) 1077 = .ok (.iaload, 1) := by decide +kernel
theorem dL_law_1078 : decode (code) 1078 = .ok (.aload_n 0, 1) := by decide +kernel
theorem dL_law_1079 : decode (code) 1079 = .ok (.iload_n 3, 1) := by decide +kernel
theorem dL_law_1080 : decode (code) 1080 = .ok (.iconst 5, 1) := by decide +kernel
theorem dL_law_1081 : decode (code) 1081 = .ok (.iadd, 1) := by decide +kernel
theorem dL_law_1082 : decode (code) 1082 = .ok (.iaload, 1) := by decide +kernel
theorem dL_law_1083 : decode (code) 1083 = .ok (.invokevirtual 141, 3) := by decide +kernel
theorem dL_law_1086 : decode (code) 1086 = .ok (.lcmp, 1) := by decide +kernel
theorem dL_law_1087 : decode (code) 1087 = .ok (.ifCond .eq 213, 3) := by decide +kernel
theorem dL_law_1090 : decode (code) 1090 = .ok (.iconst 0, 1) := by decide +kernel
theorem dL_law_1091 : decode (code) 1091 = .ok (.ireturn, 1) := by decide +kernel
theorem dL_law_1092 : decode (code) 1092 = .ok (.aload_n 1, 1) := by decide +kernel
theorem dL_law_1093 : decode (code) 1093 = .ok (.aload_n 0, 1) := by decide +kernel
theorem dL_law_1094 : decode (code) 1094 = .ok (.iload_n 3, 1) := by decide +kernel
theorem dL_law_1095 : decode (code) 1095 = .ok (.iconst 1, 1) := by decide +kernel
theorem dL_law_1096 : decode (code) 1096 = .ok (.iadd, 1) := by decide +kernel
theorem dL_law_1097 : decode (code) 1097 = .ok (.iaload, 1) := by decide +kernel
theorem dL_law_1098 : decode (code) 1098 = .ok (.invokevirtual 142, 3) := by decide +kernel
theorem dL_law_1101 : decode (code) 1101 = .ok (.aload_n 2, 1) := by decide +kernel
theorem dL_law_1102 : decode (code) 1102 = .ok (.aload_n 0, 1) := by decide +kernel
theorem dL_law_1103 : decode (code) 1103 = .ok (.iload_n 3, 1) := by decide +kernel
theorem dL_law_1104 : decode (code) 1104 = .ok (.iconst 1, 1) := by decide +kernel
theorem dL_law_1105 : decode (code) 1105 = .ok (.iadd, 1) := by decide +kernel
theorem dL_law_1106 : decode (code) 1106 = .ok (.iaload, 1) := by decide +kernel
theorem dL_law_1107 : decode (code) 1107 = .ok (.invokevirtual 146, 3) := by decide +kernel
theorem dL_law_1110 : decode (code) 1110 = .ok (.lcmp, 1) := by decide +kernel
theorem dL_law_1111 : decode (code) 1111 = .ok (.ifCond .eq 189, 3) := by decide +kernel
theorem dL_law_1114 : decode (code) 1114 = .ok (.iconst 0, 1) := by decide +kernel
theorem dL_law_1115 : decode (code) 1115 = .ok (.ireturn, 1) := by decide +kernel
theorem dL_law_1116 : decode (code) 1116 = .ok (.aload_n 1, 1) := by decide +kernel
theorem dL_law_1117 : decode (code) 1117 = .ok (.aload_n 0, 1) := by decide +kernel
theorem dL_law_1118 : decode (code) 1118 = .ok (.iload_n 3, 1) := by decide +kernel
theorem dL_law_1119 : decode (code) 1119 = .ok (.iconst 1, 1) := by decide +kernel
theorem dL_law_1120 : decode (code) 1120 = .ok (.iadd, 1) := by decide +kernel
theorem dL_law_1121 : decode (code) 1121 = .ok (.iaload, 1) := by decide +kernel
theorem dL_law_1122 : decode (code) 1122 = .ok (.aload_n 0, 1) := by decide +kernel
theorem dL_law_1123 : decode (code) 1123 = .ok (.iload_n 3, 1) := by decide +kernel
theorem dL_law_1124 : decode (code) 1124 = .ok (.iconst 2, 1) := by decide +kernel
theorem dL_law_1125 : decode (code) 1125 = .ok (.iadd, 1) := by decide +kernel
theorem dL_law_1126 : decode (code) 1126 = .ok (.iaload, 1) := by decide +kernel
theorem dL_law_1127 : decode (code) 1127 = .ok (.aload_n 0, 1) := by decide +kernel
theorem dL_law_1128 : decode (code) 1128 = .ok (.iload_n 3, 1) := by decide +kernel
theorem dL_law_1129 : decode (code) 1129 = .ok (.iconst 3, 1) := by decide +kernel
theorem dL_law_1130 : decode (code) 1130 = .ok (.iadd, 1) := by decide +kernel
theorem dL_law_1131 : decode (code) 1131 = .ok (.iaload, 1) := by decide +kernel
theorem dL_law_1132 : decode (code) 1132 = .ok (.invokevirtual 147, 3) := by decide +kernel
theorem dL_law_1135 : decode (code) 1135 = .ok (.aload_n 2, 1) := by decide +kernel
theorem dL_law_1136 : decode (code) 1136 = .ok (.aload_n 0, 1) := by decide +kernel
theorem dL_law_1137 : decode (code) 1137 = .ok (.iload_n 3, 1) := by decide +kernel
theorem dL_law_1138 : decode (code) 1138 = .ok (.iconst 1, 1) := by decide +kernel
theorem dL_law_1139 : decode (code) 1139 = .ok (.iadd, 1) := by decide +kernel
theorem dL_law_1140 : decode (code) 1140 = .ok (.iaload, 1) := by decide +kernel
theorem dL_law_1141 : decode (code) 1141 = .ok (.aload_n 0, 1) := by decide +kernel
theorem dL_law_1142 : decode (code) 1142 = .ok (.iload_n 3, 1) := by decide +kernel
theorem dL_law_1143 : decode (code) 1143 = .ok (.iconst 2, 1) := by decide +kernel
theorem dL_law_1144 : decode (code) 1144 = .ok (.iadd, 1) := by decide +kernel
theorem dL_law_1145 : decode (code) 1145 = .ok (.iaload, 1) := by decide +kernel
theorem dL_law_1146 : decode (code) 1146 = .ok (.aload_n 0, 1) := by decide +kernel
theorem dL_law_1147 : decode (code) 1147 = .ok (.iload_n 3, 1) := by decide +kernel
theorem dL_law_1148 : decode (code) 1148 = .ok (.iconst 3, 1) := by decide +kernel
theorem dL_law_1149 : decode (code) 1149 = .ok (.iadd, 1) := by decide +kernel
theorem dL_law_1150 : decode (code) 1150 = .ok (.iaload, 1) := by decide +kernel
theorem dL_law_1151 : decode (code) 1151 = .ok (.invokevirtual 150, 3) := by decide +kernel
theorem dL_law_1154 : decode (code) 1154 = .ok (.if_icmp .eq 146, 3) := by decide +kernel
theorem dL_law_1157 : decode (code) 1157 = .ok (.iconst 0, 1) := by decide +kernel
theorem dL_law_1158 : decode (code) 1158 = .ok (.ireturn, 1) := by decide +kernel
theorem dL_law_1159 : decode (code) 1159 = .ok (.aload_n 1, 1) := by decide +kernel
theorem dL_law_1160 : decode (code) 1160 = .ok (.aload_n 0, 1) := by decide +kernel
theorem dL_law_1161 : decode (code) 1161 = .ok (.iload_n 3, 1) := by decide +kernel
theorem dL_law_1162 : decode (code) 1162 = .ok (.iconst 1, 1) := by decide +kernel
theorem dL_law_1163 : decode (code) 1163 = .ok (.iadd, 1) := by decide +kernel
theorem dL_law_1164 : decode (code) 1164 = .ok (.iaload, 1) := by decide +kernel
theorem dL_law_1165 : decode (code) 1165 = .ok (.invokevirtual 151, 3) := by decide +kernel
theorem dL_law_1168 : decode (code) 1168 = .ok (.aload_n 2, 1) := by decide +kernel
theorem dL_law_1169 : decode (code) 1169 = .ok (.aload_n 0, 1) := by decide +kernel
theorem dL_law_1170 : decode (code) 1170 = .ok (.iload_n 3, 1) := by decide +kernel
theorem dL_law_1171 : decode (code) 1171 = .ok (.iconst 1, 1) := by decide +kernel
theorem dL_law_1172 : decode (code) 1172 = .ok (.iadd, 1) := by decide +kernel
theorem dL_law_1173 : decode (code) 1173 = .ok (.iaload, 1) := by decide +kernel
theorem dL_law_1174 : decode (code) 1174 = .ok (.invokevirtual 154, 3) := by decide +kernel
theorem dL_law_1177 : decode (code) 1177 = .ok (.if_icmp .eq 123, 3) := by decide +kernel
theorem dL_law_1180 : decode (code) 1180 = .ok (.iconst 0, 1) := by decide +kernel
theorem dL_law_1181 : decode (code) 1181 = .ok (.ireturn, 1) := by decide +kernel
theorem dL_law_1182 : decode (code) 1182 = .ok (.aload_n 1, 1) := by decide +kernel
theorem dL_law_1183 : decode (code) 1183 = .ok (.invokevirtual 155, 3) := by decide +kernel
theorem dL_law_1186 : decode (code) 1186 = .ok (.aload_n 2, 1) := by decide +kernel
theorem dL_law_1187 : decode (code) 1187 = .ok (.invokevirtual 158, 3) := by decide +kernel
theorem dL_law_1190 : decode (code) 1190 = .ok (.if_icmp .eq 110, 3) := by decide +kernel
theorem dL_law_1193 : decode (code) 1193 = .ok (.iconst 0, 1) := by decide +kernel
theorem dL_law_1194 : decode (code) 1194 = .ok (.ireturn, 1) := by decide +kernel
theorem dL_law_1195 : decode (code) 1195 = .ok (.aload_n 1, 1) := by decide +kernel
theorem dL_law_1196 : decode (code) 1196 = .ok (.invokevirtual 159, 3) := by decide +kernel
theorem dL_law_1199 : decode (code) 1199 = .ok (.aload_n 2, 1) := by decide +kernel
theorem dL_law_1200 : decode (code) 1200 = .ok (.invokevirtual 162, 3) := by decide +kernel
theorem dL_law_1203 : decode (code) 1203 = .ok (.if_icmp .eq 97, 3) := by decide +kernel
theorem dL_law_1206 : decode (code) 1206 = .ok (.iconst 0, 1) := by decide +kernel
theorem dL_law_1207 : decode (code) 1207 = .ok (.ireturn, 1) := by decide +kernel
theorem dL_law_1208 : decode (code) 1208 = .ok (.aload_n 1, 1) := by decide +kernel
theorem dL_law_1209 : decode (code) 1209 = .ok (.aload_n 0, 1) := by decide +kernel
theorem dL_law_1210 : decode (code) 1210 = .ok (.iload_n 3, 1) := by decide +kernel
theorem dL_law_1211 : decode (code) 1211 = .ok (.iconst 1, 1) := by decide +kernel
theorem dL_law_1212 : decode (code) 1212 = .ok (.iadd, 1) := by decide +kernel
theorem dL_law_1213 : decode (code) 1213 = .ok (.iaload, 1) := by decide +kernel
theorem dL_law_1214 : decode (code) 1214 = .ok (.aload_n 0, 1) := by decide +kernel
theorem dL_law_1215 : decode (code) 1215 = .ok (.iload_n 3, 1) := by decide +kernel
theorem dL_law_1216 : decode (code) 1216 = .ok (.iconst 2, 1) := by decide +kernel
theorem dL_law_1217 : decode (code) 1217 = .ok (.iadd, 1) := by decide +kernel
theorem dL_law_1218 : decode (code) 1218 = .ok (.iaload, 1) := by decide +kernel
theorem dL_law_1219 : decode (code) 1219 = .ok (.aload_n 0, 1) := by decide +kernel
theorem dL_law_1220 : decode (code) 1220 = .ok (.iload_n 3, 1) := by decide +kernel
theorem dL_law_1221 : decode (code) 1221 = .ok (.iconst 3, 1) := by decide +kernel
theorem dL_law_1222 : decode (code) 1222 = .ok (.iadd, 1) := by decide +kernel
theorem dL_law_1223 : decode (code) 1223 = .ok (.iaload, 1) := by decide +kernel
theorem dL_law_1224 : decode (code) 1224 = .ok (.invokevirtual 163, 3) := by decide +kernel
theorem dL_law_1227 : decode (code) 1227 = .ok (.aload_n 2, 1) := by decide +kernel
theorem dL_law_1228 : decode (code) 1228 = .ok (.aload_n 0, 1) := by decide +kernel
theorem dL_law_1229 : decode (code) 1229 = .ok (.iload_n 3, 1) := by decide +kernel
theorem dL_law_1230 : decode (code) 1230 = .ok (.iconst 1, 1) := by decide +kernel
theorem dL_law_1231 : decode (code) 1231 = .ok (.iadd, 1) := by decide +kernel
theorem dL_law_1232 : decode (code) 1232 = .ok (.iaload, 1) := by decide +kernel
theorem dL_law_1233 : decode (code) 1233 = .ok (.aload_n 0, 1) := by decide +kernel
theorem dL_law_1234 : decode (code) 1234 = .ok (.iload_n 3, 1) := by decide +kernel
theorem dL_law_1235 : decode (code) 1235 = .ok (.iconst 2, 1) := by decide +kernel
theorem dL_law_1236 : decode (code) 1236 = .ok (.iadd, 1) := by decide +kernel
theorem dL_law_1237 : decode (code) 1237 = .ok (.iaload, 1) := by decide +kernel
theorem dL_law_1238 : decode (code) 1238 = .ok (.aload_n 0, 1) := by decide +kernel
theorem dL_law_1239 : decode (code) 1239 = .ok (.iload_n 3, 1) := by decide +kernel
theorem dL_law_1240 : decode (code) 1240 = .ok (.iconst 3, 1) := by decide +kernel
theorem dL_law_1241 : decode (code) 1241 = .ok (.iadd, 1) := by decide +kernel
theorem dL_law_1242 : decode (code) 1242 = .ok (.iaload, 1) := by decide +kernel
theorem dL_law_1243 : decode (code) 1243 = .ok (.invokevirtual 166, 3) := by decide +kernel
theorem dL_law_1246 : decode (code) 1246 = .ok (.if_icmp .eq 54, 3) := by decide +kernel
theorem dL_law_1249 : decode (code) 1249 = .ok (.iconst 0, 1) := by decide +kernel
theorem dL_law_1250 : decode (code) 1250 = .ok (.ireturn, 1) := by decide +kernel
theorem dL_law_1251 : decode (code) 1251 = .ok (.aload_n 1, 1) := by decide +kernel
theorem dL_law_1252 : decode (code) 1252 = .ok (.invokevirtual 167, 3) := by decide +kernel
theorem dL_law_1255 : decode (code) 1255 = .ok (.aload_n 2, 1) := by decide +kernel
theorem dL_law_1256 : decode (code) 1256 = .ok (.invokevirtual 170, 3) := by decide +kernel
theorem dL_law_1259 : decode (code) 1259 = .ok (.if_icmp .eq 41, 3) := by decide +kernel
theorem dL_law_1262 : decode (code) 1262 = .ok (.iconst 0, 1) := by decide +kernel
theorem dL_law_1263 : decode (code) 1263 = .ok (.ireturn, 1) := by decide +kernel
theorem dL_law_1264 : decode (code) 1264 = .ok (.aload_n 1, 1) := by decide +kernel
theorem dL_law_1265 : decode (code) 1265 = .ok (.invokevirtual 171, 3) := by decide +kernel
theorem dL_law_1268 : decode (code) 1268 = .ok (.aload_n 2, 1) := by decide +kernel
theorem dL_law_1269 : decode (code) 1269 = .ok (.invokevirtual 174, 3) := by decide +kernel
theorem dL_law_1272 : decode (code) 1272 = .ok (.if_icmp .eq 28, 3) := by decide +kernel
theorem dL_law_1275 : decode (code) 1275 = .ok (.iconst 0, 1) := by decide +kernel
theorem dL_law_1276 : decode (code) 1276 = .ok (.ireturn, 1) := by decide +kernel
theorem dL_law_1277 : decode (code) 1277 = .ok (.aload_n 1, 1) := by decide +kernel
theorem dL_law_1278 : decode (code) 1278 = .ok (.aload_n 0, 1) := by decide +kernel
theorem dL_law_1279 : decode (code) 1279 = .ok (.iload_n 3, 1) := by decide +kernel
theorem dL_law_1280 : decode (code) 1280 = .ok (.iconst 1, 1) := by decide +kernel
theorem dL_law_1281 : decode (code) 1281 = .ok (.iadd, 1) := by decide +kernel
theorem dL_law_1282 : decode (code) 1282 = .ok (.iaload, 1) := by decide +kernel
theorem dL_law_1283 : decode (code) 1283 = .ok (.invokevirtual 175, 3) := by decide +kernel
theorem dL_law_1286 : decode (code) 1286 = .ok (.aload_n 2, 1) := by decide +kernel
theorem dL_law_1287 : decode (code) 1287 = .ok (.aload_n 0, 1) := by decide +kernel
theorem dL_law_1288 : decode (code) 1288 = .ok (.iload_n 3, 1) := by decide +kernel
theorem dL_law_1289 : decode (code) 1289 = .ok (.iconst 1, 1) := by decide +kernel
theorem dL_law_1290 : decode (code) 1290 = .ok (.iadd, 1) := by decide +kernel
theorem dL_law_1291 : decode (code) 1291 = .ok (.iaload, 1) := by decide +kernel
theorem dL_law_1292 : decode (code) 1292 = .ok (.invokevirtual 178, 3) := by decide +kernel
theorem dL_law_1295 : decode (code) 1295 = .ok (.if_icmp .eq 5, 3) := by decide +kernel
theorem dL_law_1298 : decode (code) 1298 = .ok (.iconst 0, 1) := by decide +kernel
theorem dL_law_1299 : decode (code) 1299 = .ok (.ireturn, 1) := by decide +kernel
theorem dL_law_1300 : decode (code) 1300 = .ok (.iinc 3 6, 3) := by decide +kernel
theorem dL_law_1303 : decode (code) 1303 = .ok (.goto (-1285), 3) := by decide +kernel
theorem dL_law_1306 : decode (code) 1306 = .ok (.iconst 1, 1) := by decide +kernel
theorem dL_law_1307 : decode (code) 1307 = .ok (.ireturn, 1) := by decide +kernel
