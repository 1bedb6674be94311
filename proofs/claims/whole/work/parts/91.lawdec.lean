/-! the law: its instructions -/
theorem dl_3 : decode code 3 = .ok (.dup, 1) := by decide +kernel
theorem dl_4 : decode code 4 = .ok (.invokespecial 9, 3) := by decide +kernel
theorem dl_7 : decode code 7 = .ok (.astore_n 1, 1) := by decide +kernel
theorem dl_11 : decode code 11 = .ok (.dup, 1) := by decide +kernel
theorem dl_12 : decode code 12 = .ok (.invokespecial 12, 3) := by decide +kernel
theorem dl_15 : decode code 15 = .ok (.astore_n 2, 1) := by decide +kernel
theorem dl_16 : decode code 16 = .ok (.iconst 0, 1) := by decide +kernel
theorem dl_17 : decode code 17 = .ok (.istore_n 3, 1) := by decide +kernel
theorem dl_18 : decode code 18 = .ok (.iload_n 3, 1) := by decide +kernel
theorem dl_19 : decode code 19 = .ok (.aload_n 0, 1) := by decide +kernel
theorem dl_20 : decode code 20 = .ok (.arraylength, 1) := by decide +kernel
theorem dl_21 : decode code 21 = .ok (.bipush 6, 2) := by decide +kernel
theorem dl_23 : decode code 23 = .ok (.isub, 1) := by decide +kernel
theorem dl_24 : decode code 24 = .ok (.if_icmp .gt 1222, 3) := by decide +kernel
theorem dl_27 : decode code 27 = .ok (.aload_n 0, 1) := by decide +kernel
theorem dl_28 : decode code 28 = .ok (.iload_n 3, 1) := by decide +kernel
theorem dl_29 : decode code 29 = .ok (.iaload, 1) := by decide +kernel
theorem dl_30 : decode code 30 = .ok (.bipush 31, 2) := by decide +kernel
theorem dl_32 : decode code 32 = .ok (.iand, 1) := by decide +kernel
theorem dl_33 : decode code 33 = .ok (.tableswitch 1207 0 29 #[135, 198, 211, 224, 237, 260, 293, 316, 349, 392, 415, 448, 491, 534, 577, 636, 669, 712, 775, 818, 861, 924, 987, 1020, 1043, 1086, 1099, 1112, 1161, 1184], 135) := by decide +kernel
theorem dl_168 : decode code 168 = .ok (.aload_n 1, 1) := by decide +kernel
theorem dl_169 : decode code 169 = .ok (.aload_n 0, 1) := by decide +kernel
theorem dl_170 : decode code 170 = .ok (.iload_n 3, 1) := by decide +kernel
theorem dl_171 : decode code 171 = .ok (.iconst 1, 1) := by decide +kernel
theorem dl_172 : decode code 172 = .ok (.iadd, 1) := by decide +kernel
theorem dl_173 : decode code 173 = .ok (.iaload, 1) := by decide +kernel
theorem dl_174 : decode code 174 = .ok (.aload_n 0, 1) := by decide +kernel
theorem dl_175 : decode code 175 = .ok (.iload_n 3, 1) := by decide +kernel
theorem dl_176 : decode code 176 = .ok (.iconst 2, 1) := by decide +kernel
theorem dl_177 : decode code 177 = .ok (.iadd, 1) := by decide +kernel
theorem dl_178 : decode code 178 = .ok (.iaload, 1) := by decide +kernel
theorem dl_179 : decode code 179 = .ok (.i2l, 1) := by decide +kernel
theorem dl_180 : decode code 180 = .ok (.bipush 32, 2) := by decide +kernel
theorem dl_182 : decode code 182 = .ok (.lshl, 1) := by decide +kernel
theorem dl_183 : decode code 183 = .ok (.aload_n 0, 1) := by decide +kernel
theorem dl_184 : decode code 184 = .ok (.iload_n 3, 1) := by decide +kernel
theorem dl_185 : decode code 185 = .ok (.iconst 3, 1) := by decide +kernel
theorem dl_186 : decode code 186 = .ok (.iadd, 1) := by decide +kernel
theorem dl_187 : decode code 187 = .ok (.iaload, 1) := by decide +kernel
theorem dl_188 : decode code 188 = .ok (.i2l, 1) := by decide +kernel
theorem dl_189 : decode code 189 = .ok (.ldc2_w 13, 3) := by decide +kernel
theorem dl_192 : decode code 192 = .ok (.land, 1) := by decide +kernel
theorem dl_193 : decode code 193 = .ok (.lor, 1) := by decide +kernel
theorem dl_194 : decode code 194 = .ok (.invokevirtual 15, 3) := by decide +kernel
theorem dl_197 : decode code 197 = .ok (.aload_n 2, 1) := by decide +kernel
theorem dl_198 : decode code 198 = .ok (.aload_n 0, 1) := by decide +kernel
theorem dl_199 : decode code 199 = .ok (.iload_n 3, 1) := by decide +kernel
theorem dl_200 : decode code 200 = .ok (.iconst 1, 1) := by decide +kernel
theorem dl_201 : decode code 201 = .ok (.iadd, 1) := by decide +kernel
theorem dl_202 : decode code 202 = .ok (.iaload, 1) := by decide +kernel
theorem dl_203 : decode code 203 = .ok (.aload_n 0, 1) := by decide +kernel
theorem dl_204 : decode code 204 = .ok (.iload_n 3, 1) := by decide +kernel
theorem dl_205 : decode code 205 = .ok (.iconst 2, 1) := by decide +kernel
theorem dl_206 : decode code 206 = .ok (.iadd, 1) := by decide +kernel
theorem dl_207 : decode code 207 = .ok (.iaload, 1) := by decide +kernel
theorem dl_208 : decode code 208 = .ok (.i2l, 1) := by decide +kernel
theorem dl_209 : decode code 209 = .ok (.bipush 32, 2) := by decide +kernel
theorem dl_211 : decode code 211 = .ok (.lshl, 1) := by decide +kernel
theorem dl_212 : decode code 212 = .ok (.aload_n 0, 1) := by decide +kernel
theorem dl_213 : decode code 213 = .ok (.iload_n 3, 1) := by decide +kernel
theorem dl_214 : decode code 214 = .ok (.iconst 3, 1) := by decide +kernel
theorem dl_215 : decode code 215 = .ok (.iadd, 1) := by decide +kernel
theorem dl_216 : decode code 216 = .ok (.iaload, 1) := by decide +kernel
theorem dl_217 : decode code 217 = .ok (.i2l, 1) := by decide +kernel
theorem dl_218 : decode code 218 = .ok (.ldc2_w 13, 3) := by decide +kernel
theorem dl_221 : decode code 221 = .ok (.land, 1) := by decide +kernel
theorem dl_222 : decode code 222 = .ok (.lor, 1) := by decide +kernel
theorem dl_223 : decode code 223 = .ok (.invokevirtual 19, 3) := by decide +kernel
theorem dl_226 : decode code 226 = .ok (.if_icmp .eq 1014, 3) := by decide +kernel
theorem dl_229 : decode code 229 = .ok (.iconst 0, 1) := by decide +kernel
theorem dl_230 : decode code 230 = .ok (.ireturn, 1) := by decide +kernel
theorem dl_231 : decode code 231 = .ok (.aload_n 1, 1) := by decide +kernel
theorem dl_232 : decode code 232 = .ok (.invokevirtual 20, 3) := by decide +kernel
theorem dl_235 : decode code 235 = .ok (.aload_n 2, 1) := by decide +kernel
theorem dl_236 : decode code 236 = .ok (.invokevirtual 24, 3) := by decide +kernel
theorem dl_239 : decode code 239 = .ok (.if_icmp .eq 1001, 3) := by decide +kernel
theorem dl_242 : decode code 242 = .ok (.iconst 0, 1) := by decide +kernel
theorem dl_243 : decode code 243 = .ok (.ireturn, 1) := by decide +kernel
theorem dl_244 : decode code 244 = .ok (.aload_n 1, 1) := by decide +kernel
theorem dl_245 : decode code 245 = .ok (.invokevirtual 25, 3) := by decide +kernel
theorem dl_248 : decode code 248 = .ok (.aload_n 2, 1) := by decide +kernel
theorem dl_249 : decode code 249 = .ok (.invokevirtual 28, 3) := by decide +kernel
theorem dl_252 : decode code 252 = .ok (.if_icmp .eq 988, 3) := by decide +kernel
theorem dl_255 : decode code 255 = .ok (.iconst 0, 1) := by decide +kernel
theorem dl_256 : decode code 256 = .ok (.ireturn, 1) := by decide +kernel
theorem dl_257 : decode code 257 = .ok (.aload_n 1, 1) := by decide +kernel
theorem dl_258 : decode code 258 = .ok (.invokevirtual 29, 3) := by decide +kernel
theorem dl_261 : decode code 261 = .ok (.aload_n 2, 1) := by decide +kernel
theorem dl_262 : decode code 262 = .ok (.invokevirtual 32, 3) := by decide +kernel
theorem dl_265 : decode code 265 = .ok (.if_icmp .eq 975, 3) := by decide +kernel
theorem dl_268 : decode code 268 = .ok (.iconst 0, 1) := by decide +kernel
theorem dl_269 : decode code 269 = .ok (.ireturn, 1) := by decide +kernel
theorem dl_270 : decode code 270 = .ok (.aload_n 1, 1) := by decide +kernel
theorem dl_271 : decode code 271 = .ok (.aload_n 0, 1) := by decide +kernel
theorem dl_272 : decode code 272 = .ok (.iload_n 3, 1) := by decide +kernel
theorem dl_273 : decode code 273 = .ok (.iconst 1, 1) := by decide +kernel
theorem dl_274 : decode code 274 = .ok (.iadd, 1) := by decide +kernel
theorem dl_275 : decode code 275 = .ok (.iaload, 1) := by decide +kernel
theorem dl_276 : decode code 276 = .ok (.invokevirtual 33, 3) := by decide +kernel
theorem dl_279 : decode code 279 = .ok (.aload_n 2, 1) := by decide +kernel
theorem dl_280 : decode code 280 = .ok (.aload_n 0, 1) := by decide +kernel
theorem dl_281 : decode code 281 = .ok (.iload_n 3, 1) := by decide +kernel
theorem dl_282 : decode code 282 = .ok (.iconst 1, 1) := by decide +kernel
theorem dl_283 : decode code 283 = .ok (.iadd, 1) := by decide +kernel
theorem dl_284 : decode code 284 = .ok (.iaload, 1) := by decide +kernel
theorem dl_285 : decode code 285 = .ok (.invokevirtual 37, 3) := by decide +kernel
theorem dl_288 : decode code 288 = .ok (.if_icmp .eq 952, 3) := by decide +kernel
theorem dl_291 : decode code 291 = .ok (.iconst 0, 1) := by decide +kernel
theorem dl_292 : decode code 292 = .ok (.ireturn, 1) := by decide +kernel
theorem dl_293 : decode code 293 = .ok (.aload_n 1, 1) := by decide +kernel
theorem dl_294 : decode code 294 = .ok (.aload_n 0, 1) := by decide +kernel
theorem dl_295 : decode code 295 = .ok (.iload_n 3, 1) := by decide +kernel
theorem dl_296 : decode code 296 = .ok (.iconst 1, 1) := by decide +kernel
theorem dl_297 : decode code 297 = .ok (.iadd, 1) := by decide +kernel
theorem dl_298 : decode code 298 = .ok (.iaload, 1) := by decide +kernel
theorem dl_299 : decode code 299 = .ok (.aload_n 0, 1) := by decide +kernel
theorem dl_300 : decode code 300 = .ok (.iload_n 3, 1) := by decide +kernel
theorem dl_301 : decode code 301 = .ok (.iconst 2, 1) := by decide +kernel
theorem dl_302 : decode code 302 = .ok (.iadd, 1) := by decide +kernel
theorem dl_303 : decode code 303 = .ok (.iaload, 1) := by decide +kernel
theorem dl_304 : decode code 304 = .ok (.invokevirtual 38, 3) := by decide +kernel
theorem dl_307 : decode code 307 = .ok (.aload_n 2, 1) := by decide +kernel
theorem dl_308 : decode code 308 = .ok (.aload_n 0, 1) := by decide +kernel
theorem dl_309 : decode code 309 = .ok (.iload_n 3, 1) := by decide +kernel
theorem dl_310 : decode code 310 = .ok (.iconst 1, 1) := by decide +kernel
theorem dl_311 : decode code 311 = .ok (.iadd, 1) := by decide +kernel
theorem dl_312 : decode code 312 = .ok (.iaload, 1) := by decide +kernel
theorem dl_313 : decode code 313 = .ok (.aload_n 0, 1) := by decide +kernel
theorem dl_314 : decode code 314 = .ok (.iload_n 3, 1) := by decide +kernel
theorem dl_315 : decode code 315 = .ok (.iconst 2, 1) := by decide +kernel
theorem dl_316 : decode code 316 = .ok (.iadd, 1) := by decide +kernel
theorem dl_317 : decode code 317 = .ok (.iaload, 1) := by decide +kernel
theorem dl_318 : decode code 318 = .ok (.invokevirtual 42, 3) := by decide +kernel
theorem dl_321 : decode code 321 = .ok (.if_icmp .eq 919, 3) := by decide +kernel
theorem dl_324 : decode code 324 = .ok (.iconst 0, 1) := by decide +kernel
theorem dl_325 : decode code 325 = .ok (.ireturn, 1) := by decide +kernel
theorem dl_326 : decode code 326 = .ok (.aload_n 1, 1) := by decide +kernel
theorem dl_327 : decode code 327 = .ok (.aload_n 0, 1) := by decide +kernel
theorem dl_328 : decode code 328 = .ok (.iload_n 3, 1) := by decide +kernel
theorem dl_329 : decode code 329 = .ok (.iconst 1, 1) := by decide +kernel
theorem dl_330 : decode code 330 = .ok (.iadd, 1) := by decide +kernel
theorem dl_331 : decode code 331 = .ok (.iaload, 1) := by decide +kernel
theorem dl_332 : decode code 332 = .ok (.invokevirtual 43, 3) := by decide +kernel
theorem dl_335 : decode code 335 = .ok (.aload_n 2, 1) := by decide +kernel
theorem dl_336 : decode code 336 = .ok (.aload_n 0, 1) := by decide +kernel
theorem dl_337 : decode code 337 = .ok (.iload_n 3, 1) := by decide +kernel
theorem dl_338 : decode code 338 = .ok (.iconst 1, 1) := by decide +kernel
theorem dl_339 : decode code 339 = .ok (.iadd, 1) := by decide +kernel
theorem dl_340 : decode code 340 = .ok (.iaload, 1) := by decide +kernel
theorem dl_341 : decode code 341 = .ok (.invokevirtual 46, 3) := by decide +kernel
theorem dl_344 : decode code 344 = .ok (.if_icmp .eq 896, 3) := by decide +kernel
theorem dl_347 : decode code 347 = .ok (.iconst 0, 1) := by decide +kernel
theorem dl_348 : decode code 348 = .ok (.ireturn, 1) := by decide +kernel
theorem dl_349 : decode code 349 = .ok (.aload_n 1, 1) := by decide +kernel
theorem dl_350 : decode code 350 = .ok (.aload_n 0, 1) := by decide +kernel
theorem dl_351 : decode code 351 = .ok (.iload_n 3, 1) := by decide +kernel
theorem dl_352 : decode code 352 = .ok (.iconst 1, 1) := by decide +kernel
theorem dl_353 : decode code 353 = .ok (.iadd, 1) := by decide +kernel
theorem dl_354 : decode code 354 = .ok (.iaload, 1) := by decide +kernel
theorem dl_355 : decode code 355 = .ok (.aload_n 0, 1) := by decide +kernel
theorem dl_356 : decode code 356 = .ok (.iload_n 3, 1) := by decide +kernel
theorem dl_357 : decode code 357 = .ok (.iconst 2, 1) := by decide +kernel
theorem dl_358 : decode code 358 = .ok (.iadd, 1) := by decide +kernel
theorem dl_359 : decode code 359 = .ok (.iaload, 1) := by decide +kernel
theorem dl_360 : decode code 360 = .ok (.invokevirtual 47, 3) := by decide +kernel
theorem dl_363 : decode code 363 = .ok (.aload_n 2, 1) := by decide +kernel
theorem dl_364 : decode code 364 = .ok (.aload_n 0, 1) := by decide +kernel
theorem dl_365 : decode code 365 = .ok (.iload_n 3, 1) := by decide +kernel
theorem dl_366 : decode code 366 = .ok (.iconst 1, 1) := by decide +kernel
theorem dl_367 : decode code 367 = .ok (.iadd, 1) := by decide +kernel
theorem dl_368 : decode code 368 = .ok (.iaload, 1) := by decide +kernel
theorem dl_369 : decode code 369 = .ok (.aload_n 0, 1) := by decide +kernel
theorem dl_370 : decode code 370 = .ok (.iload_n 3, 1) := by decide +kernel
theorem dl_371 : decode code 371 = .ok (.iconst 2, 1) := by decide +kernel
theorem dl_372 : decode code 372 = .ok (.iadd, 1) := by decide +kernel
theorem dl_373 : decode code 373 = .ok (.iaload, 1) := by decide +kernel
theorem dl_374 : decode code 374 = .ok (.invokevirtual 50, 3) := by decide +kernel
theorem dl_377 : decode code 377 = .ok (.if_icmp .eq 863, 3) := by decide +kernel
theorem dl_380 : decode code 380 = .ok (.iconst 0, 1) := by decide +kernel
theorem dl_381 : decode code 381 = .ok (.ireturn, 1) := by decide +kernel
theorem dl_382 : decode code 382 = .ok (.aload_n 1, 1) := by decide +kernel
theorem dl_383 : decode code 383 = .ok (.aload_n 0, 1) := by decide +kernel
theorem dl_384 : decode code 384 = .ok (.iload_n 3, 1) := by decide +kernel
theorem dl_385 : decode code 385 = .ok (.iconst 1, 1) := by decide +kernel
theorem dl_386 : decode code 386 = .ok (.iadd, 1) := by decide +kernel
theorem dl_387 : decode code 387 = .ok (.iaload, 1) := by decide +kernel
theorem dl_388 : decode code 388 = .ok (.aload_n 0, 1) := by decide +kernel
theorem dl_389 : decode code 389 = .ok (.iload_n 3, 1) := by decide +kernel
theorem dl_390 : decode code 390 = .ok (.iconst 2, 1) := by decide +kernel
theorem dl_391 : decode code 391 = .ok (.iadd, 1) := by decide +kernel
theorem dl_392 : decode code 392 = .ok (.iaload, 1) := by decide +kernel
theorem dl_393 : decode code 393 = .ok (.aload_n 0, 1) := by decide +kernel
theorem dl_394 : decode code 394 = .ok (.iload_n 3, 1) := by decide +kernel
theorem dl_395 : decode code 395 = .ok (.iconst 3, 1) := by decide +kernel
theorem dl_396 : decode code 396 = .ok (.iadd, 1) := by decide +kernel
theorem dl_397 : decode code 397 = .ok (.iaload, 1) := by decide +kernel
theorem dl_398 : decode code 398 = .ok (.invokevirtual 51, 3) := by decide +kernel
theorem dl_401 : decode code 401 = .ok (.aload_n 2, 1) := by decide +kernel
theorem dl_402 : decode code 402 = .ok (.aload_n 0, 1) := by decide +kernel
theorem dl_403 : decode code 403 = .ok (.iload_n 3, 1) := by decide +kernel
theorem dl_404 : decode code 404 = .ok (.iconst 1, 1) := by decide +kernel
theorem dl_405 : decode code 405 = .ok (.iadd, 1) := by decide +kernel
theorem dl_406 : decode code 406 = .ok (.iaload, 1) := by decide +kernel
theorem dl_407 : decode code 407 = .ok (.aload_n 0, 1) := by decide +kernel
theorem dl_408 : decode code 408 = .ok (.iload_n 3, 1) := by decide +kernel
theorem dl_409 : decode code 409 = .ok (.iconst 2, 1) := by decide +kernel
theorem dl_410 : decode code 410 = .ok (.iadd, 1) := by decide +kernel
theorem dl_411 : decode code 411 = .ok (.iaload, 1) := by decide +kernel
theorem dl_412 : decode code 412 = .ok (.aload_n 0, 1) := by decide +kernel
theorem dl_413 : decode code 413 = .ok (.iload_n 3, 1) := by decide +kernel
theorem dl_414 : decode code 414 = .ok (.iconst 3, 1) := by decide +kernel
theorem dl_415 : decode code 415 = .ok (.iadd, 1) := by decide +kernel
theorem dl_416 : decode code 416 = .ok (.iaload, 1) := by decide +kernel
theorem dl_417 : decode code 417 = .ok (.invokevirtual 55, 3) := by decide +kernel
theorem dl_420 : decode code 420 = .ok (.if_icmp .eq 820, 3) := by decide +kernel
theorem dl_423 : decode code 423 = .ok (.iconst 0, 1) := by decide +kernel
theorem dl_424 : decode code 424 = .ok (.ireturn, 1) := by decide +kernel
theorem dl_425 : decode code 425 = .ok (.aload_n 1, 1) := by decide +kernel
theorem dl_426 : decode code 426 = .ok (.aload_n 0, 1) := by decide +kernel
theorem dl_427 : decode code 427 = .ok (.iload_n 3, 1) := by decide +kernel
theorem dl_428 : decode code 428 = .ok (.iconst 1, 1) := by decide +kernel
theorem dl_429 : decode code 429 = .ok (.iadd, 1) := by decide +kernel
theorem dl_430 : decode code 430 = .ok (.iaload, 1) := by decide +kernel
theorem dl_431 : decode code 431 = .ok (.invokevirtual 56, 3) := by decide +kernel
theorem dl_434 : decode code 434 = .ok (.aload_n 2, 1) := by decide +kernel
theorem dl_435 : decode code 435 = .ok (.aload_n 0, 1) := by decide +kernel
theorem dl_436 : decode code 436 = .ok (.iload_n 3, 1) := by decide +kernel
theorem dl_437 : decode code 437 = .ok (.iconst 1, 1) := by decide +kernel
theorem dl_438 : decode code 438 = .ok (.iadd, 1) := by decide +kernel
theorem dl_439 : decode code 439 = .ok (.iaload, 1) := by decide +kernel
theorem dl_440 : decode code 440 = .ok (.invokevirtual 59, 3) := by decide +kernel
theorem dl_443 : decode code 443 = .ok (.if_icmp .eq 797, 3) := by decide +kernel
theorem dl_446 : decode code 446 = .ok (.iconst 0, 1) := by decide +kernel
theorem dl_447 : decode code 447 = .ok (.ireturn, 1) := by decide +kernel
theorem dl_448 : decode code 448 = .ok (.aload_n 1, 1) := by decide +kernel
theorem dl_449 : decode code 449 = .ok (.aload_n 0, 1) := by decide +kernel
theorem dl_450 : decode code 450 = .ok (.iload_n 3, 1) := by decide +kernel
theorem dl_451 : decode code 451 = .ok (.iconst 1, 1) := by decide +kernel
theorem dl_452 : decode code 452 = .ok (.iadd, 1) := by decide +kernel
theorem dl_453 : decode code 453 = .ok (.iaload, 1) := by decide +kernel
theorem dl_454 : decode code 454 = .ok (.aload_n 0, 1) := by decide +kernel
theorem dl_455 : decode code 455 = .ok (.iload_n 3, 1) := by decide +kernel
theorem dl_456 : decode code 456 = .ok (.iconst 2, 1) := by decide +kernel
theorem dl_457 : decode code 457 = .ok (.iadd, 1) := by decide +kernel
theorem dl_458 : decode code 458 = .ok (.iaload, 1) := by decide +kernel
theorem dl_459 : decode code 459 = .ok (.invokevirtual 60, 3) := by decide +kernel
theorem dl_462 : decode code 462 = .ok (.aload_n 2, 1) := by decide +kernel
theorem dl_463 : decode code 463 = .ok (.aload_n 0, 1) := by decide +kernel
theorem dl_464 : decode code 464 = .ok (.iload_n 3, 1) := by decide +kernel
theorem dl_465 : decode code 465 = .ok (.iconst 1, 1) := by decide +kernel
theorem dl_466 : decode code 466 = .ok (.iadd, 1) := by decide +kernel
theorem dl_467 : decode code 467 = .ok (.iaload, 1) := by decide +kernel
theorem dl_468 : decode code 468 = .ok (.aload_n 0, 1) := by decide +kernel
theorem dl_469 : decode code 469 = .ok (.iload_n 3, 1) := by decide +kernel
theorem dl_470 : decode code 470 = .ok (.iconst 2, 1) := by decide +kernel
theorem dl_471 : decode code 471 = .ok (.iadd, 1) := by decide +kernel
theorem dl_472 : decode code 472 = .ok (.iaload, 1) := by decide +kernel
theorem dl_473 : decode code 473 = .ok (.invokevirtual 63, 3) := by decide +kernel
theorem dl_476 : decode code 476 = .ok (.if_icmp .eq 764, 3) := by decide +kernel
theorem dl_479 : decode code 479 = .ok (.iconst 0, 1) := by decide +kernel
theorem dl_480 : decode code 480 = .ok (.ireturn, 1) := by decide +kernel
theorem dl_481 : decode code 481 = .ok (.aload_n 1, 1) := by decide +kernel
theorem dl_482 : decode code 482 = .ok (.aload_n 0, 1) := by decide +kernel
theorem dl_483 : decode code 483 = .ok (.iload_n 3, 1) := by decide +kernel
theorem dl_484 : decode code 484 = .ok (.iconst 1, 1) := by decide +kernel
theorem dl_485 : decode code 485 = .ok (.iadd, 1) := by decide +kernel
theorem dl_486 : decode code 486 = .ok (.iaload, 1) := by decide +kernel
theorem dl_487 : decode code 487 = .ok (.aload_n 0, 1) := by decide +kernel
theorem dl_488 : decode code 488 = .ok (.iload_n 3, 1) := by decide +kernel
theorem dl_489 : decode code 489 = .ok (.iconst 2, 1) := by decide +kernel
theorem dl_490 : decode code 490 = .ok (.iadd, 1) := by decide +kernel
theorem dl_491 : decode code 491 = .ok (.iaload, 1) := by decide +kernel
theorem dl_492 : decode code 492 = .ok (.aload_n 0, 1) := by decide +kernel
theorem dl_493 : decode code 493 = .ok (.iload_n 3, 1) := by decide +kernel
theorem dl_494 : decode code 494 = .ok (.iconst 3, 1) := by decide +kernel
theorem dl_495 : decode code 495 = .ok (.iadd, 1) := by decide +kernel
theorem dl_496 : decode code 496 = .ok (.iaload, 1) := by decide +kernel
theorem dl_497 : decode code 497 = .ok (.invokevirtual 64, 3) := by decide +kernel
theorem dl_500 : decode code 500 = .ok (.aload_n 2, 1) := by decide +kernel
theorem dl_501 : decode code 501 = .ok (.aload_n 0, 1) := by decide +kernel
theorem dl_502 : decode code 502 = .ok (.iload_n 3, 1) := by decide +kernel
theorem dl_503 : decode code 503 = .ok (.iconst 1, 1) := by decide +kernel
theorem dl_504 : decode code 504 = .ok (.iadd, 1) := by decide +kernel
theorem dl_505 : decode code 505 = .ok (.iaload, 1) := by decide +kernel
theorem dl_506 : decode code 506 = .ok (.aload_n 0, 1) := by decide +kernel
theorem dl_507 : decode code 507 = .ok (.iload_n 3, 1) := by decide +kernel
theorem dl_508 : decode code 508 = .ok (.iconst 2, 1) := by decide +kernel
theorem dl_509 : decode code 509 = .ok (.iadd, 1) := by decide +kernel
theorem dl_510 : decode code 510 = .ok (.iaload, 1) := by decide +kernel
theorem dl_511 : decode code 511 = .ok (.aload_n 0, 1) := by decide +kernel
theorem dl_512 : decode code 512 = .ok (.iload_n 3, 1) := by decide +kernel
theorem dl_513 : decode code 513 = .ok (.iconst 3, 1) := by decide +kernel
theorem dl_514 : decode code 514 = .ok (.iadd, 1) := by decide +kernel
theorem dl_515 : decode code 515 = .ok (.iaload, 1) := by decide +kernel
theorem dl_516 : decode code 516 = .ok (.invokevirtual 67, 3) := by decide +kernel
theorem dl_519 : decode code 519 = .ok (.if_icmp .eq 721, 3) := by decide +kernel
theorem dl_522 : decode code 522 = .ok (.iconst 0, 1) := by decide +kernel
theorem dl_523 : decode code 523 = .ok (.ireturn, 1) := by decide +kernel
theorem dl_524 : decode code 524 = .ok (.aload_n 1, 1) := by decide +kernel
theorem dl_525 : decode code 525 = .ok (.aload_n 0, 1) := by decide +kernel
theorem dl_526 : decode code 526 = .ok (.iload_n 3, 1) := by decide +kernel
theorem dl_527 : decode code 527 = .ok (.iconst 1, 1) := by decide +kernel
theorem dl_528 : decode code 528 = .ok (.iadd, 1) := by decide +kernel
theorem dl_529 : decode code 529 = .ok (.iaload, 1) := by decide +kernel
theorem dl_530 : decode code 530 = .ok (.aload_n 0, 1) := by decide +kernel
theorem dl_531 : decode code 531 = .ok (.iload_n 3, 1) := by decide +kernel
theorem dl_532 : decode code 532 = .ok (.iconst 2, 1) := by decide +kernel
theorem dl_533 : decode code 533 = .ok (.iadd, 1) := by decide +kernel
theorem dl_534 : decode code 534 = .ok (.iaload, 1) := by decide +kernel
theorem dl_535 : decode code 535 = .ok (.aload_n 0, 1) := by decide +kernel
theorem dl_536 : decode code 536 = .ok (.iload_n 3, 1) := by decide +kernel
theorem dl_537 : decode code 537 = .ok (.iconst 3, 1) := by decide +kernel
theorem dl_538 : decode code 538 = .ok (.iadd, 1) := by decide +kernel
theorem dl_539 : decode code 539 = .ok (.iaload, 1) := by decide +kernel
theorem dl_540 : decode code 540 = .ok (.invokevirtual 68, 3) := by decide +kernel
theorem dl_543 : decode code 543 = .ok (.aload_n 2, 1) := by decide +kernel
theorem dl_544 : decode code 544 = .ok (.aload_n 0, 1) := by decide +kernel
theorem dl_545 : decode code 545 = .ok (.iload_n 3, 1) := by decide +kernel
theorem dl_546 : decode code 546 = .ok (.iconst 1, 1) := by decide +kernel
theorem dl_547 : decode code 547 = .ok (.iadd, 1) := by decide +kernel
theorem dl_548 : decode code 548 = .ok (.iaload, 1) := by decide +kernel
theorem dl_549 : decode code 549 = .ok (.aload_n 0, 1) := by decide +kernel
theorem dl_550 : decode code 550 = .ok (.iload_n 3, 1) := by decide +kernel
theorem dl_551 : decode code 551 = .ok (.iconst 2, 1) := by decide +kernel
theorem dl_552 : decode code 552 = .ok (.iadd, 1) := by decide +kernel
theorem dl_553 : decode code 553 = .ok (.iaload, 1) := by decide +kernel
theorem dl_554 : decode code 554 = .ok (.aload_n 0, 1) := by decide +kernel
theorem dl_555 : decode code 555 = .ok (.iload_n 3, 1) := by decide +kernel
theorem dl_556 : decode code 556 = .ok (.iconst 3, 1) := by decide +kernel
theorem dl_557 : decode code 557 = .ok (.iadd, 1) := by decide +kernel
theorem dl_558 : decode code 558 = .ok (.iaload, 1) := by decide +kernel
theorem dl_559 : decode code 559 = .ok (.invokevirtual 71, 3) := by decide +kernel
theorem dl_562 : decode code 562 = .ok (.if_icmp .eq 678, 3) := by decide +kernel
theorem dl_565 : decode code 565 = .ok (.iconst 0, 1) := by decide +kernel
theorem dl_566 : decode code 566 = .ok (.ireturn, 1) := by decide +kernel
theorem dl_567 : decode code 567 = .ok (.aload_n 1, 1) := by decide +kernel
theorem dl_568 : decode code 568 = .ok (.aload_n 0, 1) := by decide +kernel
theorem dl_569 : decode code 569 = .ok (.iload_n 3, 1) := by decide +kernel
theorem dl_570 : decode code 570 = .ok (.iconst 1, 1) := by decide +kernel
theorem dl_571 : decode code 571 = .ok (.iadd, 1) := by decide +kernel
theorem dl_572 : decode code 572 = .ok (.iaload, 1) := by decide +kernel
theorem dl_573 : decode code 573 = .ok (.aload_n 0, 1) := by decide +kernel
theorem dl_574 : decode code 574 = .ok (.iload_n 3, 1) := by decide +kernel
theorem dl_575 : decode code 575 = .ok (.iconst 2, 1) := by decide +kernel
theorem dl_576 : decode code 576 = .ok (.iadd, 1) := by decide +kernel
theorem dl_577 : decode code 577 = .ok (.iaload, 1) := by decide +kernel
theorem dl_578 : decode code 578 = .ok (.aload_n 0, 1) := by decide +kernel
theorem dl_579 : decode code 579 = .ok (.iload_n 3, 1) := by decide +kernel
theorem dl_580 : decode code 580 = .ok (.iconst 3, 1) := by decide +kernel
theorem dl_581 : decode code 581 = .ok (.iadd, 1) := by decide +kernel
theorem dl_582 : decode code 582 = .ok (.iaload, 1) := by decide +kernel
theorem dl_583 : decode code 583 = .ok (.invokevirtual 72, 3) := by decide +kernel
theorem dl_586 : decode code 586 = .ok (.aload_n 2, 1) := by decide +kernel
theorem dl_587 : decode code 587 = .ok (.aload_n 0, 1) := by decide +kernel
theorem dl_588 : decode code 588 = .ok (.iload_n 3, 1) := by decide +kernel
theorem dl_589 : decode code 589 = .ok (.iconst 1, 1) := by decide +kernel
theorem dl_590 : decode code 590 = .ok (.iadd, 1) := by decide +kernel
theorem dl_591 : decode code 591 = .ok (.iaload, 1) := by decide +kernel
theorem dl_592 : decode code 592 = .ok (.aload_n 0, 1) := by decide +kernel
theorem dl_593 : decode code 593 = .ok (.iload_n 3, 1) := by decide +kernel
theorem dl_594 : decode code 594 = .ok (.iconst 2, 1) := by decide +kernel
theorem dl_595 : decode code 595 = .ok (.iadd, 1) := by decide +kernel
theorem dl_596 : decode code 596 = .ok (.iaload, 1) := by decide +kernel
theorem dl_597 : decode code 597 = .ok (.aload_n 0, 1) := by decide +kernel
theorem dl_598 : decode code 598 = .ok (.iload_n 3, 1) := by decide +kernel
theorem dl_599 : decode code 599 = .ok (.iconst 3, 1) := by decide +kernel
theorem dl_600 : decode code 600 = .ok (.iadd, 1) := by decide +kernel
theorem dl_601 : decode code 601 = .ok (.iaload, 1) := by decide +kernel
theorem dl_602 : decode code 602 = .ok (.invokevirtual 75, 3) := by decide +kernel
theorem dl_605 : decode code 605 = .ok (.if_icmp .eq 635, 3) := by decide +kernel
theorem dl_608 : decode code 608 = .ok (.iconst 0, 1) := by decide +kernel
theorem dl_609 : decode code 609 = .ok (.ireturn, 1) := by decide +kernel
theorem dl_610 : decode code 610 = .ok (.aload_n 1, 1) := by decide +kernel
theorem dl_611 : decode code 611 = .ok (.aload_n 0, 1) := by decide +kernel
theorem dl_612 : decode code 612 = .ok (.iload_n 3, 1) := by decide +kernel
theorem dl_613 : decode code 613 = .ok (.iconst 1, 1) := by decide +kernel
theorem dl_614 : decode code 614 = .ok (.iadd, 1) := by decide +kernel
theorem dl_615 : decode code 615 = .ok (.iaload, 1) := by decide +kernel
theorem dl_616 : decode code 616 = .ok (.aload_n 0, 1) := by decide +kernel
theorem dl_617 : decode code 617 = .ok (.iload_n 3, 1) := by decide +kernel
theorem dl_618 : decode code 618 = .ok (.iconst 2, 1) := by decide +kernel
theorem dl_619 : decode code 619 = .ok (.iadd, 1) := by decide +kernel
theorem dl_620 : decode code 620 = .ok (.iaload, 1) := by decide +kernel
theorem dl_621 : decode code 621 = .ok (.aload_n 0, 1) := by decide +kernel
theorem dl_622 : decode code 622 = .ok (.iload_n 3, 1) := by decide +kernel
theorem dl_623 : decode code 623 = .ok (.iconst 3, 1) := by decide +kernel
theorem dl_624 : decode code 624 = .ok (.iadd, 1) := by decide +kernel
theorem dl_625 : decode code 625 = .ok (.iaload, 1) := by decide +kernel
theorem dl_626 : decode code 626 = .ok (.ifCond .eq 7, 3) := by decide +kernel
theorem dl_629 : decode code 629 = .ok (.iconst 1, 1) := by decide +kernel
theorem dl_630 : decode code 630 = .ok (.goto 4, 3) := by decide +kernel
theorem dl_633 : decode code 633 = .ok (.iconst 0, 1) := by decide +kernel
theorem dl_634 : decode code 634 = .ok (.invokevirtual 76, 3) := by decide +kernel
theorem dl_637 : decode code 637 = .ok (.aload_n 2, 1) := by decide +kernel
theorem dl_638 : decode code 638 = .ok (.aload_n 0, 1) := by decide +kernel
theorem dl_639 : decode code 639 = .ok (.iload_n 3, 1) := by decide +kernel
theorem dl_640 : decode code 640 = .ok (.iconst 1, 1) := by decide +kernel
theorem dl_641 : decode code 641 = .ok (.iadd, 1) := by decide +kernel
theorem dl_642 : decode code 642 = .ok (.iaload, 1) := by decide +kernel
theorem dl_643 : decode code 643 = .ok (.aload_n 0, 1) := by decide +kernel
theorem dl_644 : decode code 644 = .ok (.iload_n 3, 1) := by decide +kernel
theorem dl_645 : decode code 645 = .ok (.iconst 2, 1) := by decide +kernel
theorem dl_646 : decode code 646 = .ok (.iadd, 1) := by decide +kernel
theorem dl_647 : decode code 647 = .ok (.iaload, 1) := by decide +kernel
theorem dl_648 : decode code 648 = .ok (.aload_n 0, 1) := by decide +kernel
theorem dl_649 : decode code 649 = .ok (.iload_n 3, 1) := by decide +kernel
theorem dl_650 : decode code 650 = .ok (.iconst 3, 1) := by decide +kernel
theorem dl_651 : decode code 651 = .ok (.iadd, 1) := by decide +kernel
theorem dl_652 : decode code 652 = .ok (.iaload, 1) := by decide +kernel
theorem dl_653 : decode code 653 = .ok (.ifCond .eq 7, 3) := by decide +kernel
theorem dl_656 : decode code 656 = .ok (.iconst 1, 1) := by decide +kernel
theorem dl_657 : decode code 657 = .ok (.goto 4, 3) := by decide +kernel
theorem dl_660 : decode code 660 = .ok (.iconst 0, 1) := by decide +kernel
theorem dl_661 : decode code 661 = .ok (.invokevirtual 80, 3) := by decide +kernel
theorem dl_664 : decode code 664 = .ok (.if_icmp .eq 576, 3) := by decide +kernel
theorem dl_667 : decode code 667 = .ok (.iconst 0, 1) := by decide +kernel
theorem dl_668 : decode code 668 = .ok (.ireturn, 1) := by decide +kernel
theorem dl_669 : decode code 669 = .ok (.aload_n 1, 1) := by decide +kernel
theorem dl_670 : decode code 670 = .ok (.aload_n 0, 1) := by decide +kernel
theorem dl_671 : decode code 671 = .ok (.iload_n 3, 1) := by decide +kernel
theorem dl_672 : decode code 672 = .ok (.iconst 1, 1) := by decide +kernel
theorem dl_673 : decode code 673 = .ok (.iadd, 1) := by decide +kernel
theorem dl_674 : decode code 674 = .ok (.iaload, 1) := by decide +kernel
theorem dl_675 : decode code 675 = .ok (.aload_n 0, 1) := by decide +kernel
theorem dl_676 : decode code 676 = .ok (.iload_n 3, 1) := by decide +kernel
theorem dl_677 : decode code 677 = .ok (.iconst 2, 1) := by decide +kernel
theorem dl_678 : decode code 678 = .ok (.iadd, 1) := by decide +kernel
theorem dl_679 : decode code 679 = .ok (.iaload, 1) := by decide +kernel
theorem dl_680 : decode code 680 = .ok (.invokevirtual 81, 3) := by decide +kernel
theorem dl_683 : decode code 683 = .ok (.aload_n 2, 1) := by decide +kernel
theorem dl_684 : decode code 684 = .ok (.aload_n 0, 1) := by decide +kernel
theorem dl_685 : decode code 685 = .ok (.iload_n 3, 1) := by decide +kernel
theorem dl_686 : decode code 686 = .ok (.iconst 1, 1) := by decide +kernel
theorem dl_687 : decode code 687 = .ok (.iadd, 1) := by decide +kernel
theorem dl_688 : decode code 688 = .ok (.iaload, 1) := by decide +kernel
theorem dl_689 : decode code 689 = .ok (.aload_n 0, 1) := by decide +kernel
theorem dl_690 : decode code 690 = .ok (.iload_n 3, 1) := by decide +kernel
theorem dl_691 : decode code 691 = .ok (.iconst 2, 1) := by decide +kernel
theorem dl_692 : decode code 692 = .ok (.iadd, 1) := by decide +kernel
theorem dl_693 : decode code 693 = .ok (.iaload, 1) := by decide +kernel
theorem dl_694 : decode code 694 = .ok (.invokevirtual 84, 3) := by decide +kernel
theorem dl_697 : decode code 697 = .ok (.if_icmp .eq 543, 3) := by decide +kernel
theorem dl_700 : decode code 700 = .ok (.iconst 0, 1) := by decide +kernel
theorem dl_701 : decode code 701 = .ok (.ireturn, 1) := by decide +kernel
theorem dl_702 : decode code 702 = .ok (.aload_n 1, 1) := by decide +kernel
theorem dl_703 : decode code 703 = .ok (.aload_n 0, 1) := by decide +kernel
theorem dl_704 : decode code 704 = .ok (.iload_n 3, 1) := by decide +kernel
theorem dl_705 : decode code 705 = .ok (.iconst 1, 1) := by decide +kernel
theorem dl_706 : decode code 706 = .ok (.iadd, 1) := by decide +kernel
theorem dl_707 : decode code 707 = .ok (.iaload, 1) := by decide +kernel
theorem dl_708 : decode code 708 = .ok (.aload_n 0, 1) := by decide +kernel
theorem dl_709 : decode code 709 = .ok (.iload_n 3, 1) := by decide +kernel
theorem dl_710 : decode code 710 = .ok (.iconst 2, 1) := by decide +kernel
theorem dl_711 : decode code 711 = .ok (.iadd, 1) := by decide +kernel
theorem dl_712 : decode code 712 = .ok (.iaload, 1) := by decide +kernel
theorem dl_713 : decode code 713 = .ok (.aload_n 0, 1) := by decide +kernel
theorem dl_714 : decode code 714 = .ok (.iload_n 3, 1) := by decide +kernel
theorem dl_715 : decode code 715 = .ok (.iconst 3, 1) := by decide +kernel
theorem dl_716 : decode code 716 = .ok (.iadd, 1) := by decide +kernel
theorem dl_717 : decode code 717 = .ok (.iaload, 1) := by decide +kernel
theorem dl_718 : decode code 718 = .ok (.invokevirtual 85, 3) := by decide +kernel
theorem dl_721 : decode code 721 = .ok (.aload_n 2, 1) := by decide +kernel
theorem dl_722 : decode code 722 = .ok (.aload_n 0, 1) := by decide +kernel
theorem dl_723 : decode code 723 = .ok (.iload_n 3, 1) := by decide +kernel
theorem dl_724 : decode code 724 = .ok (.iconst 1, 1) := by decide +kernel
theorem dl_725 : decode code 725 = .ok (.iadd, 1) := by decide +kernel
theorem dl_726 : decode code 726 = .ok (.iaload, 1) := by decide +kernel
theorem dl_727 : decode code 727 = .ok (.aload_n 0, 1) := by decide +kernel
theorem dl_728 : decode code 728 = .ok (.iload_n 3, 1) := by decide +kernel
theorem dl_729 : decode code 729 = .ok (.iconst 2, 1) := by decide +kernel
theorem dl_730 : decode code 730 = .ok (.iadd, 1) := by decide +kernel
theorem dl_731 : decode code 731 = .ok (.iaload, 1) := by decide +kernel
theorem dl_732 : decode code 732 = .ok (.aload_n 0, 1) := by decide +kernel
theorem dl_733 : decode code 733 = .ok (.iload_n 3, 1) := by decide +kernel
theorem dl_734 : decode code 734 = .ok (.iconst 3, 1) := by decide +kernel
theorem dl_735 : decode code 735 = .ok (.iadd, 1) := by decide +kernel
theorem dl_736 : decode code 736 = .ok (.iaload, 1) := by decide +kernel
theorem dl_737 : decode code 737 = .ok (.invokevirtual 88, 3) := by decide +kernel
theorem dl_740 : decode code 740 = .ok (.if_icmp .eq 500, 3) := by decide +kernel
theorem dl_743 : decode code 743 = .ok (.iconst 0, 1) := by decide +kernel
theorem dl_744 : decode code 744 = .ok (.ireturn, 1) := by decide +kernel
theorem dl_745 : decode code 745 = .ok (.aload_n 1, 1) := by decide +kernel
theorem dl_746 : decode code 746 = .ok (.aload_n 0, 1) := by decide +kernel
theorem dl_747 : decode code 747 = .ok (.iload_n 3, 1) := by decide +kernel
theorem dl_748 : decode code 748 = .ok (.iconst 1, 1) := by decide +kernel
theorem dl_749 : decode code 749 = .ok (.iadd, 1) := by decide +kernel
theorem dl_750 : decode code 750 = .ok (.iaload, 1) := by decide +kernel
theorem dl_751 : decode code 751 = .ok (.aload_n 0, 1) := by decide +kernel
theorem dl_752 : decode code 752 = .ok (.iload_n 3, 1) := by decide +kernel
theorem dl_753 : decode code 753 = .ok (.iconst 2, 1) := by decide +kernel
theorem dl_754 : decode code 754 = .ok (.iadd, 1) := by decide +kernel
theorem dl_755 : decode code 755 = .ok (.iaload, 1) := by decide +kernel
theorem dl_756 : decode code 756 = .ok (.aload_n 0, 1) := by decide +kernel
theorem dl_757 : decode code 757 = .ok (.iload_n 3, 1) := by decide +kernel
theorem dl_758 : decode code 758 = .ok (.iconst 3, 1) := by decide +kernel
theorem dl_759 : decode code 759 = .ok (.iadd, 1) := by decide +kernel
theorem dl_760 : decode code 760 = .ok (.iaload, 1) := by decide +kernel
theorem dl_761 : decode code 761 = .ok (.aload_n 0, 1) := by decide +kernel
theorem dl_762 : decode code 762 = .ok (.iload_n 3, 1) := by decide +kernel
theorem dl_763 : decode code 763 = .ok (.iconst 4, 1) := by decide +kernel
theorem dl_764 : decode code 764 = .ok (.iadd, 1) := by decide +kernel
theorem dl_765 : decode code 765 = .ok (.iaload, 1) := by decide +kernel
theorem dl_766 : decode code 766 = .ok (.aload_n 0, 1) := by decide +kernel
theorem dl_767 : decode code 767 = .ok (.iload_n 3, 1) := by decide +kernel
theorem dl_768 : decode code 768 = .ok (.iconst 5, 1) := by decide +kernel
theorem dl_769 : decode code 769 = .ok (.iadd, 1) := by decide +kernel
theorem dl_770 : decode code 770 = .ok (.iaload, 1) := by decide +kernel
theorem dl_771 : decode code 771 = .ok (.invokevirtual 89, 3) := by decide +kernel
theorem dl_774 : decode code 774 = .ok (.aload_n 2, 1) := by decide +kernel
theorem dl_775 : decode code 775 = .ok (.aload_n 0, 1) := by decide +kernel
theorem dl_776 : decode code 776 = .ok (.iload_n 3, 1) := by decide +kernel
theorem dl_777 : decode code 777 = .ok (.iconst 1, 1) := by decide +kernel
theorem dl_778 : decode code 778 = .ok (.iadd, 1) := by decide +kernel
theorem dl_779 : decode code 779 = .ok (.iaload, 1) := by decide +kernel
theorem dl_780 : decode code 780 = .ok (.aload_n 0, 1) := by decide +kernel
theorem dl_781 : decode code 781 = .ok (.iload_n 3, 1) := by decide +kernel
theorem dl_782 : decode code 782 = .ok (.iconst 2, 1) := by decide +kernel
theorem dl_783 : decode code 783 = .ok (.iadd, 1) := by decide +kernel
theorem dl_784 : decode code 784 = .ok (.iaload, 1) := by decide +kernel
theorem dl_785 : decode code 785 = .ok (.aload_n 0, 1) := by decide +kernel
theorem dl_786 : decode code 786 = .ok (.iload_n 3, 1) := by decide +kernel
theorem dl_787 : decode code 787 = .ok (.iconst 3, 1) := by decide +kernel
theorem dl_788 : decode code 788 = .ok (.iadd, 1) := by decide +kernel
theorem dl_789 : decode code 789 = .ok (.iaload, 1) := by decide +kernel
theorem dl_790 : decode code 790 = .ok (.aload_n 0, 1) := by decide +kernel
theorem dl_791 : decode code 791 = .ok (.iload_n 3, 1) := by decide +kernel
theorem dl_792 : decode code 792 = .ok (.iconst 4, 1) := by decide +kernel
theorem dl_793 : decode code 793 = .ok (.iadd, 1) := by decide +kernel
theorem dl_794 : decode code 794 = .ok (.iaload, 1) := by decide +kernel
theorem dl_795 : decode code 795 = .ok (.aload_n 0, 1) := by decide +kernel
theorem dl_796 : decode code 796 = .ok (.iload_n 3, 1) := by decide +kernel
theorem dl_797 : decode code 797 = .ok (.iconst 5, 1) := by decide +kernel
theorem dl_798 : decode code 798 = .ok (.iadd, 1) := by decide +kernel
theorem dl_799 : decode code 799 = .ok (.iaload, 1) := by decide +kernel
theorem dl_800 : decode code 800 = .ok (.invokevirtual 93, 3) := by decide +kernel
theorem dl_803 : decode code 803 = .ok (.if_icmp .eq 437, 3) := by decide +kernel
theorem dl_806 : decode code 806 = .ok (.iconst 0, 1) := by decide +kernel
theorem dl_807 : decode code 807 = .ok (.ireturn, 1) := by decide +kernel
theorem dl_808 : decode code 808 = .ok (.aload_n 1, 1) := by decide +kernel
theorem dl_809 : decode code 809 = .ok (.aload_n 0, 1) := by decide +kernel
theorem dl_810 : decode code 810 = .ok (.iload_n 3, 1) := by decide +kernel
theorem dl_811 : decode code 811 = .ok (.iconst 1, 1) := by decide +kernel
theorem dl_812 : decode code 812 = .ok (.iadd, 1) := by decide +kernel
theorem dl_813 : decode code 813 = .ok (.iaload, 1) := by decide +kernel
theorem dl_814 : decode code 814 = .ok (.aload_n 0, 1) := by decide +kernel
theorem dl_815 : decode code 815 = .ok (.iload_n 3, 1) := by decide +kernel
theorem dl_816 : decode code 816 = .ok (.iconst 2, 1) := by decide +kernel
theorem dl_817 : decode code 817 = .ok (.iadd, 1) := by decide +kernel
theorem dl_818 : decode code 818 = .ok (.iaload, 1) := by decide +kernel
theorem dl_819 : decode code 819 = .ok (.aload_n 0, 1) := by decide +kernel
theorem dl_820 : decode code 820 = .ok (.iload_n 3, 1) := by decide +kernel
theorem dl_821 : decode code 821 = .ok (.iconst 3, 1) := by decide +kernel
theorem dl_822 : decode code 822 = .ok (.iadd, 1) := by decide +kernel
theorem dl_823 : decode code 823 = .ok (.iaload, 1) := by decide +kernel
theorem dl_824 : decode code 824 = .ok (.invokevirtual 94, 3) := by decide +kernel
theorem dl_827 : decode code 827 = .ok (.aload_n 2, 1) := by decide +kernel
theorem dl_828 : decode code 828 = .ok (.aload_n 0, 1) := by decide +kernel
theorem dl_829 : decode code 829 = .ok (.iload_n 3, 1) := by decide +kernel
theorem dl_830 : decode code 830 = .ok (.iconst 1, 1) := by decide +kernel
theorem dl_831 : decode code 831 = .ok (.iadd, 1) := by decide +kernel
theorem dl_832 : decode code 832 = .ok (.iaload, 1) := by decide +kernel
theorem dl_833 : decode code 833 = .ok (.aload_n 0, 1) := by decide +kernel
theorem dl_834 : decode code 834 = .ok (.iload_n 3, 1) := by decide +kernel
theorem dl_835 : decode code 835 = .ok (.iconst 2, 1) := by decide +kernel
theorem dl_836 : decode code 836 = .ok (.iadd, 1) := by decide +kernel
theorem dl_837 : decode code 837 = .ok (.iaload, 1) := by decide +kernel
theorem dl_838 : decode code 838 = .ok (.aload_n 0, 1) := by decide +kernel
theorem dl_839 : decode code 839 = .ok (.iload_n 3, 1) := by decide +kernel
theorem dl_840 : decode code 840 = .ok (.iconst 3, 1) := by decide +kernel
theorem dl_841 : decode code 841 = .ok (.iadd, 1) := by decide +kernel
theorem dl_842 : decode code 842 = .ok (.iaload, 1) := by decide +kernel
theorem dl_843 : decode code 843 = .ok (.invokevirtual 97, 3) := by decide +kernel
theorem dl_846 : decode code 846 = .ok (.if_icmp .eq 394, 3) := by decide +kernel
theorem dl_849 : decode code 849 = .ok (.iconst 0, 1) := by decide +kernel
theorem dl_850 : decode code 850 = .ok (.ireturn, 1) := by decide +kernel
theorem dl_851 : decode code 851 = .ok (.aload_n 1, 1) := by decide +kernel
theorem dl_852 : decode code 852 = .ok (.aload_n 0, 1) := by decide +kernel
theorem dl_853 : decode code 853 = .ok (.iload_n 3, 1) := by decide +kernel
theorem dl_854 : decode code 854 = .ok (.iconst 1, 1) := by decide +kernel
theorem dl_855 : decode code 855 = .ok (.iadd, 1) := by decide +kernel
theorem dl_856 : decode code 856 = .ok (.iaload, 1) := by decide +kernel
theorem dl_857 : decode code 857 = .ok (.aload_n 0, 1) := by decide +kernel
theorem dl_858 : decode code 858 = .ok (.iload_n 3, 1) := by decide +kernel
theorem dl_859 : decode code 859 = .ok (.iconst 2, 1) := by decide +kernel
theorem dl_860 : decode code 860 = .ok (.iadd, 1) := by decide +kernel
theorem dl_861 : decode code 861 = .ok (.iaload, 1) := by decide +kernel
theorem dl_862 : decode code 862 = .ok (.aload_n 0, 1) := by decide +kernel
theorem dl_863 : decode code 863 = .ok (.iload_n 3, 1) := by decide +kernel
theorem dl_864 : decode code 864 = .ok (.iconst 3, 1) := by decide +kernel
theorem dl_865 : decode code 865 = .ok (.iadd, 1) := by decide +kernel
theorem dl_866 : decode code 866 = .ok (.iaload, 1) := by decide +kernel
theorem dl_867 : decode code 867 = .ok (.invokevirtual 98, 3) := by decide +kernel
theorem dl_870 : decode code 870 = .ok (.aload_n 2, 1) := by decide +kernel
theorem dl_871 : decode code 871 = .ok (.aload_n 0, 1) := by decide +kernel
theorem dl_872 : decode code 872 = .ok (.iload_n 3, 1) := by decide +kernel
theorem dl_873 : decode code 873 = .ok (.iconst 1, 1) := by decide +kernel
theorem dl_874 : decode code 874 = .ok (.iadd, 1) := by decide +kernel
theorem dl_875 : decode code 875 = .ok (.iaload, 1) := by decide +kernel
theorem dl_876 : decode code 876 = .ok (.aload_n 0, 1) := by decide +kernel
theorem dl_877 : decode code 877 = .ok (.iload_n 3, 1) := by decide +kernel
theorem dl_878 : decode code 878 = .ok (.iconst 2, 1) := by decide +kernel
theorem dl_879 : decode code 879 = .ok (.iadd, 1) := by decide +kernel
theorem dl_880 : decode code 880 = .ok (.iaload, 1) := by decide +kernel
theorem dl_881 : decode code 881 = .ok (.aload_n 0, 1) := by decide +kernel
theorem dl_882 : decode code 882 = .ok (.iload_n 3, 1) := by decide +kernel
theorem dl_883 : decode code 883 = .ok (.iconst 3, 1) := by decide +kernel
theorem dl_884 : decode code 884 = .ok (.iadd, 1) := by decide +kernel
theorem dl_885 : decode code 885 = .ok (.iaload, 1) := by decide +kernel
theorem dl_886 : decode code 886 = .ok (.invokevirtual 101, 3) := by decide +kernel
theorem dl_889 : decode code 889 = .ok (.if_icmp .eq 351, 3) := by decide +kernel
theorem dl_892 : decode code 892 = .ok (.iconst 0, 1) := by decide +kernel
theorem dl_893 : decode code 893 = .ok (.ireturn, 1) := by decide +kernel
theorem dl_894 : decode code 894 = .ok (.aload_n 1, 1) := by decide +kernel
theorem dl_895 : decode code 895 = .ok (.aload_n 0, 1) := by decide +kernel
theorem dl_896 : decode code 896 = .ok (.iload_n 3, 1) := by decide +kernel
theorem dl_897 : decode code 897 = .ok (.iconst 1, 1) := by decide +kernel
theorem dl_898 : decode code 898 = .ok (.iadd, 1) := by decide +kernel
theorem dl_899 : decode code 899 = .ok (.iaload, 1) := by decide +kernel
theorem dl_900 : decode code 900 = .ok (.aload_n 0, 1) := by decide +kernel
theorem dl_901 : decode code 901 = .ok (.iload_n 3, 1) := by decide +kernel
theorem dl_902 : decode code 902 = .ok (.iconst 2, 1) := by decide +kernel
theorem dl_903 : decode code 903 = .ok (.iadd, 1) := by decide +kernel
theorem dl_904 : decode code 904 = .ok (.iaload, 1) := by decide +kernel
theorem dl_905 : decode code 905 = .ok (.aload_n 0, 1) := by decide +kernel
theorem dl_906 : decode code 906 = .ok (.iload_n 3, 1) := by decide +kernel
theorem dl_907 : decode code 907 = .ok (.iconst 3, 1) := by decide +kernel
theorem dl_908 : decode code 908 = .ok (.iadd, 1) := by decide +kernel
theorem dl_909 : decode code 909 = .ok (.iaload, 1) := by decide +kernel
theorem dl_910 : decode code 910 = .ok (.aload_n 0, 1) := by decide +kernel
theorem dl_911 : decode code 911 = .ok (.iload_n 3, 1) := by decide +kernel
theorem dl_912 : decode code 912 = .ok (.iconst 4, 1) := by decide +kernel
theorem dl_913 : decode code 913 = .ok (.iadd, 1) := by decide +kernel
theorem dl_914 : decode code 914 = .ok (.iaload, 1) := by decide +kernel
theorem dl_915 : decode code 915 = .ok (.aload_n 0, 1) := by decide +kernel
theorem dl_916 : decode code 916 = .ok (.iload_n 3, 1) := by decide +kernel
theorem dl_917 : decode code 917 = .ok (.iconst 5, 1) := by decide +kernel
theorem dl_918 : decode code 918 = .ok (.iadd, 1) := by decide +kernel
theorem dl_919 : decode code 919 = .ok (.iaload, 1) := by decide +kernel
theorem dl_920 : decode code 920 = .ok (.invokevirtual 102, 3) := by decide +kernel
theorem dl_923 : decode code 923 = .ok (.aload_n 2, 1) := by decide +kernel
theorem dl_924 : decode code 924 = .ok (.aload_n 0, 1) := by decide +kernel
theorem dl_925 : decode code 925 = .ok (.iload_n 3, 1) := by decide +kernel
theorem dl_926 : decode code 926 = .ok (.iconst 1, 1) := by decide +kernel
theorem dl_927 : decode code 927 = .ok (.iadd, 1) := by decide +kernel
theorem dl_928 : decode code 928 = .ok (.iaload, 1) := by decide +kernel
theorem dl_929 : decode code 929 = .ok (.aload_n 0, 1) := by decide +kernel
theorem dl_930 : decode code 930 = .ok (.iload_n 3, 1) := by decide +kernel
theorem dl_931 : decode code 931 = .ok (.iconst 2, 1) := by decide +kernel
theorem dl_932 : decode code 932 = .ok (.iadd, 1) := by decide +kernel
theorem dl_933 : decode code 933 = .ok (.iaload, 1) := by decide +kernel
theorem dl_934 : decode code 934 = .ok (.aload_n 0, 1) := by decide +kernel
theorem dl_935 : decode code 935 = .ok (.iload_n 3, 1) := by decide +kernel
theorem dl_936 : decode code 936 = .ok (.iconst 3, 1) := by decide +kernel
theorem dl_937 : decode code 937 = .ok (.iadd, 1) := by decide +kernel
theorem dl_938 : decode code 938 = .ok (.iaload, 1) := by decide +kernel
theorem dl_939 : decode code 939 = .ok (.aload_n 0, 1) := by decide +kernel
theorem dl_940 : decode code 940 = .ok (.iload_n 3, 1) := by decide +kernel
theorem dl_941 : decode code 941 = .ok (.iconst 4, 1) := by decide +kernel
theorem dl_942 : decode code 942 = .ok (.iadd, 1) := by decide +kernel
theorem dl_943 : decode code 943 = .ok (.iaload, 1) := by decide +kernel
theorem dl_944 : decode code 944 = .ok (.aload_n 0, 1) := by decide +kernel
theorem dl_945 : decode code 945 = .ok (.iload_n 3, 1) := by decide +kernel
theorem dl_946 : decode code 946 = .ok (.iconst 5, 1) := by decide +kernel
theorem dl_947 : decode code 947 = .ok (.iadd, 1) := by decide +kernel
theorem dl_948 : decode code 948 = .ok (.iaload, 1) := by decide +kernel
theorem dl_949 : decode code 949 = .ok (.invokevirtual 105, 3) := by decide +kernel
theorem dl_952 : decode code 952 = .ok (.if_icmp .eq 288, 3) := by decide +kernel
theorem dl_955 : decode code 955 = .ok (.iconst 0, 1) := by decide +kernel
theorem dl_956 : decode code 956 = .ok (.ireturn, 1) := by decide +kernel
theorem dl_957 : decode code 957 = .ok (.aload_n 1, 1) := by decide +kernel
theorem dl_958 : decode code 958 = .ok (.aload_n 0, 1) := by decide +kernel
theorem dl_959 : decode code 959 = .ok (.iload_n 3, 1) := by decide +kernel
theorem dl_960 : decode code 960 = .ok (.iconst 1, 1) := by decide +kernel
theorem dl_961 : decode code 961 = .ok (.iadd, 1) := by decide +kernel
theorem dl_962 : decode code 962 = .ok (.iaload, 1) := by decide +kernel
theorem dl_963 : decode code 963 = .ok (.aload_n 0, 1) := by decide +kernel
theorem dl_964 : decode code 964 = .ok (.iload_n 3, 1) := by decide +kernel
theorem dl_965 : decode code 965 = .ok (.iconst 2, 1) := by decide +kernel
theorem dl_966 : decode code 966 = .ok (.iadd, 1) := by decide +kernel
theorem dl_967 : decode code 967 = .ok (.iaload, 1) := by decide +kernel
theorem dl_968 : decode code 968 = .ok (.aload_n 0, 1) := by decide +kernel
theorem dl_969 : decode code 969 = .ok (.iload_n 3, 1) := by decide +kernel
theorem dl_970 : decode code 970 = .ok (.iconst 3, 1) := by decide +kernel
theorem dl_971 : decode code 971 = .ok (.iadd, 1) := by decide +kernel
theorem dl_972 : decode code 972 = .ok (.iaload, 1) := by decide +kernel
theorem dl_973 : decode code 973 = .ok (.aload_n 0, 1) := by decide +kernel
theorem dl_974 : decode code 974 = .ok (.iload_n 3, 1) := by decide +kernel
theorem dl_975 : decode code 975 = .ok (.iconst 4, 1) := by decide +kernel
theorem dl_976 : decode code 976 = .ok (.iadd, 1) := by decide +kernel
theorem dl_977 : decode code 977 = .ok (.iaload, 1) := by decide +kernel
theorem dl_978 : decode code 978 = .ok (.aload_n 0, 1) := by decide +kernel
theorem dl_979 : decode code 979 = .ok (.iload_n 3, 1) := by decide +kernel
theorem dl_980 : decode code 980 = .ok (.iconst 5, 1) := by decide +kernel
theorem dl_981 : decode code 981 = .ok (.iadd, 1) := by decide +kernel
theorem dl_982 : decode code 982 = .ok (.iaload, 1) := by decide +kernel
theorem dl_983 : decode code 983 = .ok (.invokevirtual 106, 3) := by decide +kernel
theorem dl_986 : decode code 986 = .ok (.aload_n 2, 1) := by decide +kernel
theorem dl_987 : decode code 987 = .ok (.aload_n 0, 1) := by decide +kernel
theorem dl_988 : decode code 988 = .ok (.iload_n 3, 1) := by decide +kernel
theorem dl_989 : decode code 989 = .ok (.iconst 1, 1) := by decide +kernel
theorem dl_990 : decode code 990 = .ok (.iadd, 1) := by decide +kernel
theorem dl_991 : decode code 991 = .ok (.iaload, 1) := by decide +kernel
theorem dl_992 : decode code 992 = .ok (.aload_n 0, 1) := by decide +kernel
theorem dl_993 : decode code 993 = .ok (.iload_n 3, 1) := by decide +kernel
theorem dl_994 : decode code 994 = .ok (.iconst 2, 1) := by decide +kernel
theorem dl_995 : decode code 995 = .ok (.iadd, 1) := by decide +kernel
theorem dl_996 : decode code 996 = .ok (.iaload, 1) := by decide +kernel
theorem dl_997 : decode code 997 = .ok (.aload_n 0, 1) := by decide +kernel
theorem dl_998 : decode code 998 = .ok (.iload_n 3, 1) := by decide +kernel
theorem dl_999 : decode code 999 = .ok (.iconst 3, 1) := by decide +kernel
theorem dl_1000 : decode code 1000 = .ok (.iadd, 1) := by decide +kernel
theorem dl_1001 : decode code 1001 = .ok (.iaload, 1) := by decide +kernel
theorem dl_1002 : decode code 1002 = .ok (.aload_n 0, 1) := by decide +kernel
theorem dl_1003 : decode code 1003 = .ok (.iload_n 3, 1) := by decide +kernel
theorem dl_1004 : decode code 1004 = .ok (.iconst 4, 1) := by decide +kernel
theorem dl_1005 : decode code 1005 = .ok (.iadd, 1) := by decide +kernel
theorem dl_1006 : decode code 1006 = .ok (.iaload, 1) := by decide +kernel
theorem dl_1007 : decode code 1007 = .ok (.aload_n 0, 1) := by decide +kernel
theorem dl_1008 : decode code 1008 = .ok (.iload_n 3, 1) := by decide +kernel
theorem dl_1009 : decode code 1009 = .ok (.iconst 5, 1) := by decide +kernel
theorem dl_1010 : decode code 1010 = .ok (.iadd, 1) := by decide +kernel
theorem dl_1011 : decode code 1011 = .ok (.iaload, 1) := by decide +kernel
theorem dl_1012 : decode code 1012 = .ok (.invokevirtual 109, 3) := by decide +kernel
theorem dl_1015 : decode code 1015 = .ok (.if_icmp .eq 225, 3) := by decide +kernel
theorem dl_1018 : decode code 1018 = .ok (.iconst 0, 1) := by decide +kernel
theorem dl_1019 : decode code 1019 = .ok (.ireturn, 1) := by decide +kernel
theorem dl_1020 : decode code 1020 = .ok (.aload_n 1, 1) := by decide +kernel
theorem dl_1021 : decode code 1021 = .ok (.aload_n 0, 1) := by decide +kernel
theorem dl_1022 : decode code 1022 = .ok (.iload_n 3, 1) := by decide +kernel
theorem dl_1023 : decode code 1023 = .ok (.iconst 1, 1) := by decide +kernel
theorem dl_1024 : decode code 1024 = .ok (.iadd, 1) := by decide +kernel
theorem dl_1025 : decode code 1025 = .ok (.iaload, 1) := by decide +kernel
theorem dl_1026 : decode code 1026 = .ok (.aload_n 0, 1) := by decide +kernel
theorem dl_1027 : decode code 1027 = .ok (.iload_n 3, 1) := by decide +kernel
theorem dl_1028 : decode code 1028 = .ok (.iconst 2, 1) := by decide +kernel
theorem dl_1029 : decode code 1029 = .ok (.iadd, 1) := by decide +kernel
theorem dl_1030 : decode code 1030 = .ok (.iaload, 1) := by decide +kernel
theorem dl_1031 : decode code 1031 = .ok (.invokevirtual 110, 3) := by decide +kernel
theorem dl_1034 : decode code 1034 = .ok (.aload_n 2, 1) := by decide +kernel
theorem dl_1035 : decode code 1035 = .ok (.aload_n 0, 1) := by decide +kernel
theorem dl_1036 : decode code 1036 = .ok (.iload_n 3, 1) := by decide +kernel
theorem dl_1037 : decode code 1037 = .ok (.iconst 1, 1) := by decide +kernel
theorem dl_1038 : decode code 1038 = .ok (.iadd, 1) := by decide +kernel
theorem dl_1039 : decode code 1039 = .ok (.iaload, 1) := by decide +kernel
theorem dl_1040 : decode code 1040 = .ok (.aload_n 0, 1) := by decide +kernel
theorem dl_1041 : decode code 1041 = .ok (.iload_n 3, 1) := by decide +kernel
theorem dl_1042 : decode code 1042 = .ok (.iconst 2, 1) := by decide +kernel
theorem dl_1043 : decode code 1043 = .ok (.iadd, 1) := by decide +kernel
theorem dl_1044 : decode code 1044 = .ok (.iaload, 1) := by decide +kernel
theorem dl_1045 : decode code 1045 = .ok (.invokevirtual 113, 3) := by decide +kernel
theorem dl_1048 : decode code 1048 = .ok (.if_icmp .eq 192, 3) := by decide +kernel
theorem dl_1051 : decode code 1051 = .ok (.iconst 0, 1) := by decide +kernel
theorem dl_1052 : decode code 1052 = .ok (.ireturn, 1) := by decide +kernel
theorem dl_1053 : decode code 1053 = .ok (.aload_n 1, 1) := by decide +kernel
theorem dl_1054 : decode code 1054 = .ok (.aload_n 0, 1) := by decide +kernel
theorem dl_1055 : decode code 1055 = .ok (.iload_n 3, 1) := by decide +kernel
theorem dl_1056 : decode code 1056 = .ok (.iconst 1, 1) := by decide +kernel
theorem dl_1057 : decode code 1057 = .ok (.iadd, 1) := by decide +kernel
theorem dl_1058 : decode code 1058 = .ok (.iaload, 1) := by decide +kernel
theorem dl_1059 : decode code 1059 = .ok (.invokevirtual 114, 3) := by decide +kernel
theorem dl_1062 : decode code 1062 = .ok (.aload_n 2, 1) := by decide +kernel
theorem dl_1063 : decode code 1063 = .ok (.aload_n 0, 1) := by decide +kernel
theorem dl_1064 : decode code 1064 = .ok (.iload_n 3, 1) := by decide +kernel
theorem dl_1065 : decode code 1065 = .ok (.iconst 1, 1) := by decide +kernel
theorem dl_1066 : decode code 1066 = .ok (.iadd, 1) := by decide +kernel
theorem dl_1067 : decode code 1067 = .ok (.iaload, 1) := by decide +kernel
theorem dl_1068 : decode code 1068 = .ok (.invokevirtual 117, 3) := by decide +kernel
theorem dl_1071 : decode code 1071 = .ok (.if_icmp .eq 169, 3) := by decide +kernel
theorem dl_1074 : decode code 1074 = .ok (.iconst 0, 1) := by decide +kernel
theorem dl_1075 : decode code 1075 = .ok (.ireturn, 1) := by decide +kernel
theorem dl_1076 : decode code 1076 = .ok (.aload_n 1, 1) := by decide +kernel
theorem dl_1077 : decode code 1077 = .ok (.aload_n 0, 1) := by decide +kernel
theorem dl_1078 : decode code 1078 = .ok (.iload_n 3, 1) := by decide +kernel
theorem dl_1079 : decode code 1079 = .ok (.iconst 1, 1) := by decide +kernel
theorem dl_1080 : decode code 1080 = .ok (.iadd, 1) := by decide +kernel
theorem dl_1081 : decode code 1081 = .ok (.iaload, 1) := by decide +kernel
theorem dl_1082 : decode code 1082 = .ok (.aload_n 0, 1) := by decide +kernel
theorem dl_1083 : decode code 1083 = .ok (.iload_n 3, 1) := by decide +kernel
theorem dl_1084 : decode code 1084 = .ok (.iconst 2, 1) := by decide +kernel
theorem dl_1085 : decode code 1085 = .ok (.iadd, 1) := by decide +kernel
theorem dl_1086 : decode code 1086 = .ok (.iaload, 1) := by decide +kernel
theorem dl_1087 : decode code 1087 = .ok (.aload_n 0, 1) := by decide +kernel
theorem dl_1088 : decode code 1088 = .ok (.iload_n 3, 1) := by decide +kernel
theorem dl_1089 : decode code 1089 = .ok (.iconst 3, 1) := by decide +kernel
theorem dl_1090 : decode code 1090 = .ok (.iadd, 1) := by decide +kernel
theorem dl_1091 : decode code 1091 = .ok (.iaload, 1) := by decide +kernel
theorem dl_1092 : decode code 1092 = .ok (.invokevirtual 118, 3) := by decide +kernel
theorem dl_1095 : decode code 1095 = .ok (.aload_n 2, 1) := by decide +kernel
theorem dl_1096 : decode code 1096 = .ok (.aload_n 0, 1) := by decide +kernel
theorem dl_1097 : decode code 1097 = .ok (.iload_n 3, 1) := by decide +kernel
theorem dl_1098 : decode code 1098 = .ok (.iconst 1, 1) := by decide +kernel
theorem dl_1099 : decode code 1099 = .ok (.iadd, 1) := by decide +kernel
theorem dl_1100 : decode code 1100 = .ok (.iaload, 1) := by decide +kernel
theorem dl_1101 : decode code 1101 = .ok (.aload_n 0, 1) := by decide +kernel
theorem dl_1102 : decode code 1102 = .ok (.iload_n 3, 1) := by decide +kernel
theorem dl_1103 : decode code 1103 = .ok (.iconst 2, 1) := by decide +kernel
theorem dl_1104 : decode code 1104 = .ok (.iadd, 1) := by decide +kernel
theorem dl_1105 : decode code 1105 = .ok (.iaload, 1) := by decide +kernel
theorem dl_1106 : decode code 1106 = .ok (.aload_n 0, 1) := by decide +kernel
theorem dl_1107 : decode code 1107 = .ok (.iload_n 3, 1) := by decide +kernel
theorem dl_1108 : decode code 1108 = .ok (.iconst 3, 1) := by decide +kernel
theorem dl_1109 : decode code 1109 = .ok (.iadd, 1) := by decide +kernel
theorem dl_1110 : decode code 1110 = .ok (.iaload, 1) := by decide +kernel
theorem dl_1111 : decode code 1111 = .ok (.invokevirtual 121, 3) := by decide +kernel
theorem dl_1114 : decode code 1114 = .ok (.if_icmp .eq 126, 3) := by decide +kernel
theorem dl_1117 : decode code 1117 = .ok (.iconst 0, 1) := by decide +kernel
theorem dl_1118 : decode code 1118 = .ok (.ireturn, 1) := by decide +kernel
theorem dl_1119 : decode code 1119 = .ok (.aload_n 1, 1) := by decide +kernel
theorem dl_1120 : decode code 1120 = .ok (.invokevirtual 122, 3) := by decide +kernel
theorem dl_1123 : decode code 1123 = .ok (.aload_n 2, 1) := by decide +kernel
theorem dl_1124 : decode code 1124 = .ok (.invokevirtual 125, 3) := by decide +kernel
theorem dl_1127 : decode code 1127 = .ok (.if_icmp .eq 113, 3) := by decide +kernel
theorem dl_1130 : decode code 1130 = .ok (.iconst 0, 1) := by decide +kernel
theorem dl_1131 : decode code 1131 = .ok (.ireturn, 1) := by decide +kernel
theorem dl_1132 : decode code 1132 = .ok (.aload_n 1, 1) := by decide +kernel
theorem dl_1133 : decode code 1133 = .ok (.invokevirtual 126, 3) := by decide +kernel
theorem dl_1136 : decode code 1136 = .ok (.aload_n 2, 1) := by decide +kernel
theorem dl_1137 : decode code 1137 = .ok (.invokevirtual 129, 3) := by decide +kernel
theorem dl_1140 : decode code 1140 = .ok (.if_icmp .eq 100, 3) := by decide +kernel
theorem dl_1143 : decode code 1143 = .ok (.iconst 0, 1) := by decide +kernel
theorem dl_1144 : decode code 1144 = .ok (.ireturn, 1) := by decide +kernel
theorem dl_1145 : decode code 1145 = .ok (.aload_n 1, 1) := by decide +kernel
theorem dl_1146 : decode code 1146 = .ok (.aload_n 0, 1) := by decide +kernel
theorem dl_1147 : decode code 1147 = .ok (.iload_n 3, 1) := by decide +kernel
theorem dl_1148 : decode code 1148 = .ok (.iconst 1, 1) := by decide +kernel
theorem dl_1149 : decode code 1149 = .ok (.iadd, 1) := by decide +kernel
theorem dl_1150 : decode code 1150 = .ok (.iaload, 1) := by decide +kernel
theorem dl_1151 : decode code 1151 = .ok (.aload_n 0, 1) := by decide +kernel
theorem dl_1152 : decode code 1152 = .ok (.iload_n 3, 1) := by decide +kernel
theorem dl_1153 : decode code 1153 = .ok (.iconst 2, 1) := by decide +kernel
theorem dl_1154 : decode code 1154 = .ok (.iadd, 1) := by decide +kernel
theorem dl_1155 : decode code 1155 = .ok (.iaload, 1) := by decide +kernel
theorem dl_1156 : decode code 1156 = .ok (.ifCond .eq 7, 3) := by decide +kernel
theorem dl_1159 : decode code 1159 = .ok (.iconst 1, 1) := by decide +kernel
theorem dl_1160 : decode code 1160 = .ok (.goto 4, 3) := by decide +kernel
theorem dl_1163 : decode code 1163 = .ok (.iconst 0, 1) := by decide +kernel
theorem dl_1164 : decode code 1164 = .ok (.invokevirtual 130, 3) := by decide +kernel
theorem dl_1167 : decode code 1167 = .ok (.aload_n 2, 1) := by decide +kernel
theorem dl_1168 : decode code 1168 = .ok (.aload_n 0, 1) := by decide +kernel
theorem dl_1169 : decode code 1169 = .ok (.iload_n 3, 1) := by decide +kernel
theorem dl_1170 : decode code 1170 = .ok (.iconst 1, 1) := by decide +kernel
theorem dl_1171 : decode code 1171 = .ok (.iadd, 1) := by decide +kernel
theorem dl_1172 : decode code 1172 = .ok (.iaload, 1) := by decide +kernel
theorem dl_1173 : decode code 1173 = .ok (.aload_n 0, 1) := by decide +kernel
theorem dl_1174 : decode code 1174 = .ok (.iload_n 3, 1) := by decide +kernel
theorem dl_1175 : decode code 1175 = .ok (.iconst 2, 1) := by decide +kernel
theorem dl_1176 : decode code 1176 = .ok (.iadd, 1) := by decide +kernel
theorem dl_1177 : decode code 1177 = .ok (.iaload, 1) := by decide +kernel
theorem dl_1178 : decode code 1178 = .ok (.ifCond .eq 7, 3) := by decide +kernel
theorem dl_1181 : decode code 1181 = .ok (.iconst 1, 1) := by decide +kernel
theorem dl_1182 : decode code 1182 = .ok (.goto 4, 3) := by decide +kernel
theorem dl_1185 : decode code 1185 = .ok (.iconst 0, 1) := by decide +kernel
theorem dl_1186 : decode code 1186 = .ok (.invokevirtual 134, 3) := by decide +kernel
theorem dl_1189 : decode code 1189 = .ok (.if_icmp .eq 51, 3) := by decide +kernel
theorem dl_1192 : decode code 1192 = .ok (.iconst 0, 1) := by decide +kernel
theorem dl_1193 : decode code 1193 = .ok (.ireturn, 1) := by decide +kernel
theorem dl_1194 : decode code 1194 = .ok (.aload_n 1, 1) := by decide +kernel
theorem dl_1195 : decode code 1195 = .ok (.aload_n 0, 1) := by decide +kernel
theorem dl_1196 : decode code 1196 = .ok (.iload_n 3, 1) := by decide +kernel
theorem dl_1197 : decode code 1197 = .ok (.iconst 1, 1) := by decide +kernel
theorem dl_1198 : decode code 1198 = .ok (.iadd, 1) := by decide +kernel
theorem dl_1199 : decode code 1199 = .ok (.iaload, 1) := by decide +kernel
theorem dl_1200 : decode code 1200 = .ok (.invokevirtual 135, 3) := by decide +kernel
theorem dl_1203 : decode code 1203 = .ok (.aload_n 2, 1) := by decide +kernel
theorem dl_1204 : decode code 1204 = .ok (.aload_n 0, 1) := by decide +kernel
theorem dl_1205 : decode code 1205 = .ok (.iload_n 3, 1) := by decide +kernel
theorem dl_1206 : decode code 1206 = .ok (.iconst 1, 1) := by decide +kernel
theorem dl_1207 : decode code 1207 = .ok (.iadd, 1) := by decide +kernel
theorem dl_1208 : decode code 1208 = .ok (.iaload, 1) := by decide +kernel
theorem dl_1209 : decode code 1209 = .ok (.invokevirtual 138, 3) := by decide +kernel
theorem dl_1212 : decode code 1212 = .ok (.if_icmp .eq 28, 3) := by decide +kernel
theorem dl_1215 : decode code 1215 = .ok (.iconst 0, 1) := by decide +kernel
theorem dl_1216 : decode code 1216 = .ok (.ireturn, 1) := by decide +kernel
theorem dl_1217 : decode code 1217 = .ok (.aload_n 1, 1) := by decide +kernel
theorem dl_1218 : decode code 1218 = .ok (.aload_n 0, 1) := by decide +kernel
theorem dl_1219 : decode code 1219 = .ok (.iload_n 3, 1) := by decide +kernel
theorem dl_1220 : decode code 1220 = .ok (.iconst 1, 1) := by decide +kernel
theorem dl_1221 : decode code 1221 = .ok (.iadd, 1) := by decide +kernel
theorem dl_1222 : decode code 1222 = .ok (.iaload, 1) := by decide +kernel
theorem dl_1223 : decode code 1223 = .ok (.invokevirtual 139, 3) := by decide +kernel
theorem dl_1226 : decode code 1226 = .ok (.aload_n 2, 1) := by decide +kernel
theorem dl_1227 : decode code 1227 = .ok (.aload_n 0, 1) := by decide +kernel
theorem dl_1228 : decode code 1228 = .ok (.iload_n 3, 1) := by decide +kernel
theorem dl_1229 : decode code 1229 = .ok (.iconst 1, 1) := by decide +kernel
theorem dl_1230 : decode code 1230 = .ok (.iadd, 1) := by decide +kernel
theorem dl_1231 : decode code 1231 = .ok (.iaload, 1) := by decide +kernel
theorem dl_1232 : decode code 1232 = .ok (.invokevirtual 142, 3) := by decide +kernel
theorem dl_1235 : decode code 1235 = .ok (.if_icmp .eq 5, 3) := by decide +kernel
theorem dl_1238 : decode code 1238 = .ok (.iconst 0, 1) := by decide +kernel
theorem dl_1239 : decode code 1239 = .ok (.ireturn, 1) := by decide +kernel
theorem dl_1240 : decode code 1240 = .ok (.iinc 3 6, 3) := by decide +kernel
theorem dl_1243 : decode code 1243 = .ok (.goto (-1225), 3) := by decide +kernel
theorem dl_1246 : decode code 1246 = .ok (.iconst 1, 1) := by decide +kernel
theorem dl_1247 : decode code 1247 = .ok (.ireturn, 1) := by decide +kernel
