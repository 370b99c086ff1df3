theorem dL_at_0 : decode cL_at 0 = .ok (.iload_n 1, 1) := by decide +kernel
theorem dL_at_1 : decode cL_at 1 = .ok (.aload_n 0, 1) := by decide +kernel
theorem dL_at_2 : decode cL_at 2 = .ok (.arraylength, 1) := by decide +kernel
theorem dL_at_3 : decode cL_at 3 = .ok (.if_icmp .ge 9, 3) := by decide +kernel
theorem dL_at_6 : decode cL_at 6 = .ok (.aload_n 0, 1) := by decide +kernel
theorem dL_at_7 : decode cL_at 7 = .ok (.iload_n 1, 1) := by decide +kernel
theorem dL_at_8 : decode cL_at 8 = .ok (.iaload, 1) := by decide +kernel
theorem dL_at_9 : decode cL_at 9 = .ok (.goto 4, 3) := by decide +kernel
theorem dL_at_12 : decode cL_at 12 = .ok (.iconst 0, 1) := by decide +kernel
theorem dL_at_13 : decode cL_at 13 = .ok (.ireturn, 1) := by decide +kernel
theorem dL_some_0 : decode cL_some 0 = .ok (.iload_n 0, 1) := by decide +kernel
theorem dL_some_1 : decode cL_some 1 = .ok (.iload_n 1, 1) := by decide +kernel
theorem dL_some_2 : decode cL_some 2 = .ok (.irem, 1) := by decide +kernel
theorem dL_some_3 : decode cL_some 3 = .ok (.istore_n 2, 1) := by decide +kernel
theorem dL_some_4 : decode cL_some 4 = .ok (.iload_n 2, 1) := by decide +kernel
theorem dL_some_5 : decode cL_some 5 = .ok (.ifCond .ge 9, 3) := by decide +kernel
theorem dL_some_8 : decode cL_some 8 = .ok (.iload_n 2, 1) := by decide +kernel
theorem dL_some_9 : decode cL_some 9 = .ok (.iload_n 1, 1) := by decide +kernel
theorem dL_some_10 : decode cL_some 10 = .ok (.iadd, 1) := by decide +kernel
theorem dL_some_11 : decode cL_some 11 = .ok (.goto 4, 3) := by decide +kernel
theorem dL_some_14 : decode cL_some 14 = .ok (.iload_n 2, 1) := by decide +kernel
theorem dL_some_15 : decode cL_some 15 = .ok (.ireturn, 1) := by decide +kernel
theorem dL_ask_0 : decode cL_ask 0 = .ok (.iload_n 1, 1) := by decide +kernel
theorem dL_ask_1 : decode cL_ask 1 = .ok (.tableswitch 440 67 120 #[231, 440, 440, 440, 440, 440, 440, 440, 440, 440, 440, 440, 440, 440, 440, 440, 257, 440, 440, 440, 440, 440, 440, 440, 440, 440, 440, 440, 440, 440, 440, 416, 249, 440, 440, 301, 440, 392, 440, 440, 318, 440, 424, 368, 271, 279, 440, 440, 384, 400, 440, 432, 287, 352], 231) := by decide +kernel
theorem dL_ask_232 : decode cL_ask 232 = .ok (.aload_n 0, 1) := by decide +kernel
theorem dL_ask_233 : decode cL_ask 233 = .ok (.aload_n 2, 1) := by decide +kernel
theorem dL_ask_234 : decode cL_ask 234 = .ok (.iconst 0, 1) := by decide +kernel
theorem dL_ask_235 : decode cL_ask 235 = .ok (.iaload, 1) := by decide +kernel
theorem dL_ask_236 : decode cL_ask 236 = .ok (.aload_n 2, 1) := by decide +kernel
theorem dL_ask_237 : decode cL_ask 237 = .ok (.iconst 1, 1) := by decide +kernel
theorem dL_ask_238 : decode cL_ask 238 = .ok (.iaload, 1) := by decide +kernel
theorem dL_ask_239 : decode cL_ask 239 = .ok (.i2c, 1) := by decide +kernel
theorem dL_ask_240 : decode cL_ask 240 = .ok (.aload_n 2, 1) := by decide +kernel
theorem dL_ask_241 : decode cL_ask 241 = .ok (.iconst 2, 1) := by decide +kernel
theorem dL_ask_242 : decode cL_ask 242 = .ok (.iaload, 1) := by decide +kernel
theorem dL_ask_243 : decode cL_ask 243 = .ok (.aload_n 2, 1) := by decide +kernel
theorem dL_ask_244 : decode cL_ask 244 = .ok (.iconst 3, 1) := by decide +kernel
theorem dL_ask_245 : decode cL_ask 245 = .ok (.iaload, 1) := by decide +kernel
theorem dL_ask_246 : decode cL_ask 246 = .ok (.invokevirtual 7, 3) := by decide +kernel
theorem dL_ask_249 : decode cL_ask 249 = .ok (.ireturn, 1) := by decide +kernel
theorem dL_ask_250 : decode cL_ask 250 = .ok (.aload_n 0, 1) := by decide +kernel
theorem dL_ask_251 : decode cL_ask 251 = .ok (.aload_n 2, 1) := by decide +kernel
theorem dL_ask_252 : decode cL_ask 252 = .ok (.iconst 0, 1) := by decide +kernel
theorem dL_ask_253 : decode cL_ask 253 = .ok (.iaload, 1) := by decide +kernel
theorem dL_ask_254 : decode cL_ask 254 = .ok (.invokevirtual 13, 3) := by decide +kernel
theorem dL_ask_257 : decode cL_ask 257 = .ok (.ireturn, 1) := by decide +kernel
theorem dL_ask_258 : decode cL_ask 258 = .ok (.aload_n 0, 1) := by decide +kernel
theorem dL_ask_259 : decode cL_ask 259 = .ok (.aload_n 2, 1) := by decide +kernel
theorem dL_ask_260 : decode cL_ask 260 = .ok (.iconst 0, 1) := by decide +kernel
theorem dL_ask_261 : decode cL_ask 261 = .ok (.iaload, 1) := by decide +kernel
theorem dL_ask_262 : decode cL_ask 262 = .ok (.aload_n 2, 1) := by decide +kernel
theorem dL_ask_263 : decode cL_ask 263 = .ok (.iconst 1, 1) := by decide +kernel
theorem dL_ask_264 : decode cL_ask 264 = .ok (.iaload, 1) := by decide +kernel
theorem dL_ask_265 : decode cL_ask 265 = .ok (.aload_n 2, 1) := by decide +kernel
theorem dL_ask_266 : decode cL_ask 266 = .ok (.iconst 2, 1) := by decide +kernel
theorem dL_ask_267 : decode cL_ask 267 = .ok (.iaload, 1) := by decide +kernel
theorem dL_ask_268 : decode cL_ask 268 = .ok (.invokevirtual 17, 3) := by decide +kernel
theorem dL_ask_271 : decode cL_ask 271 = .ok (.ireturn, 1) := by decide +kernel
theorem dL_ask_272 : decode cL_ask 272 = .ok (.aload_n 0, 1) := by decide +kernel
theorem dL_ask_273 : decode cL_ask 273 = .ok (.aload_n 2, 1) := by decide +kernel
theorem dL_ask_274 : decode cL_ask 274 = .ok (.iconst 0, 1) := by decide +kernel
theorem dL_ask_275 : decode cL_ask 275 = .ok (.iaload, 1) := by decide +kernel
theorem dL_ask_276 : decode cL_ask 276 = .ok (.invokevirtual 21, 3) := by decide +kernel
theorem dL_ask_279 : decode cL_ask 279 = .ok (.ireturn, 1) := by decide +kernel
theorem dL_ask_280 : decode cL_ask 280 = .ok (.aload_n 0, 1) := by decide +kernel
theorem dL_ask_281 : decode cL_ask 281 = .ok (.aload_n 2, 1) := by decide +kernel
theorem dL_ask_282 : decode cL_ask 282 = .ok (.iconst 0, 1) := by decide +kernel
theorem dL_ask_283 : decode cL_ask 283 = .ok (.iaload, 1) := by decide +kernel
theorem dL_ask_284 : decode cL_ask 284 = .ok (.invokevirtual 24, 3) := by decide +kernel
theorem dL_ask_287 : decode cL_ask 287 = .ok (.ireturn, 1) := by decide +kernel
theorem dL_ask_288 : decode cL_ask 288 = .ok (.aload_n 0, 1) := by decide +kernel
theorem dL_ask_289 : decode cL_ask 289 = .ok (.aload_n 2, 1) := by decide +kernel
theorem dL_ask_290 : decode cL_ask 290 = .ok (.iconst 0, 1) := by decide +kernel
theorem dL_ask_291 : decode cL_ask 291 = .ok (.iaload, 1) := by decide +kernel
theorem dL_ask_292 : decode cL_ask 292 = .ok (.aload_n 2, 1) := by decide +kernel
theorem dL_ask_293 : decode cL_ask 293 = .ok (.iconst 1, 1) := by decide +kernel
theorem dL_ask_294 : decode cL_ask 294 = .ok (.iaload, 1) := by decide +kernel
theorem dL_ask_295 : decode cL_ask 295 = .ok (.aload_n 2, 1) := by decide +kernel
theorem dL_ask_296 : decode cL_ask 296 = .ok (.iconst 2, 1) := by decide +kernel
theorem dL_ask_297 : decode cL_ask 297 = .ok (.iaload, 1) := by decide +kernel
theorem dL_ask_298 : decode cL_ask 298 = .ok (.invokevirtual 27, 3) := by decide +kernel
theorem dL_ask_301 : decode cL_ask 301 = .ok (.ireturn, 1) := by decide +kernel
theorem dL_ask_302 : decode cL_ask 302 = .ok (.aload_n 0, 1) := by decide +kernel
theorem dL_ask_303 : decode cL_ask 303 = .ok (.aload_n 2, 1) := by decide +kernel
theorem dL_ask_304 : decode cL_ask 304 = .ok (.iconst 0, 1) := by decide +kernel
theorem dL_ask_305 : decode cL_ask 305 = .ok (.iaload, 1) := by decide +kernel
theorem dL_ask_306 : decode cL_ask 306 = .ok (.aload_n 2, 1) := by decide +kernel
theorem dL_ask_307 : decode cL_ask 307 = .ok (.iconst 1, 1) := by decide +kernel
theorem dL_ask_308 : decode cL_ask 308 = .ok (.iaload, 1) := by decide +kernel
theorem dL_ask_309 : decode cL_ask 309 = .ok (.aload_n 2, 1) := by decide +kernel
theorem dL_ask_310 : decode cL_ask 310 = .ok (.iconst 2, 1) := by decide +kernel
theorem dL_ask_311 : decode cL_ask 311 = .ok (.iaload, 1) := by decide +kernel
theorem dL_ask_312 : decode cL_ask 312 = .ok (.aload_n 2, 1) := by decide +kernel
theorem dL_ask_313 : decode cL_ask 313 = .ok (.iconst 3, 1) := by decide +kernel
theorem dL_ask_314 : decode cL_ask 314 = .ok (.iaload, 1) := by decide +kernel
theorem dL_ask_315 : decode cL_ask 315 = .ok (.invokevirtual 30, 3) := by decide +kernel
theorem dL_ask_318 : decode cL_ask 318 = .ok (.ireturn, 1) := by decide +kernel
theorem dL_ask_319 : decode cL_ask 319 = .ok (.aload_n 0, 1) := by decide +kernel
theorem dL_ask_320 : decode cL_ask 320 = .ok (.aload_n 2, 1) := by decide +kernel
theorem dL_ask_321 : decode cL_ask 321 = .ok (.iconst 0, 1) := by decide +kernel
theorem dL_ask_322 : decode cL_ask 322 = .ok (.iaload, 1) := by decide +kernel
theorem dL_ask_323 : decode cL_ask 323 = .ok (.aload_n 2, 1) := by decide +kernel
theorem dL_ask_324 : decode cL_ask 324 = .ok (.iconst 1, 1) := by decide +kernel
theorem dL_ask_325 : decode cL_ask 325 = .ok (.iaload, 1) := by decide +kernel
theorem dL_ask_326 : decode cL_ask 326 = .ok (.aload_n 2, 1) := by decide +kernel
theorem dL_ask_327 : decode cL_ask 327 = .ok (.iconst 2, 1) := by decide +kernel
theorem dL_ask_328 : decode cL_ask 328 = .ok (.iaload, 1) := by decide +kernel
theorem dL_ask_329 : decode cL_ask 329 = .ok (.aload_n 2, 1) := by decide +kernel
theorem dL_ask_330 : decode cL_ask 330 = .ok (.iconst 3, 1) := by decide +kernel
theorem dL_ask_331 : decode cL_ask 331 = .ok (.iaload, 1) := by decide +kernel
theorem dL_ask_332 : decode cL_ask 332 = .ok (.iconst 1, 1) := by decide +kernel
theorem dL_ask_333 : decode cL_ask 333 = .ok (.if_icmp .ne 7, 3) := by decide +kernel
theorem dL_ask_336 : decode cL_ask 336 = .ok (.iconst 1, 1) := by decide +kernel
theorem dL_ask_337 : decode cL_ask 337 = .ok (.goto 4, 3) := by decide +kernel
theorem dL_ask_340 : decode cL_ask 340 = .ok (.iconst 0, 1) := by decide +kernel
theorem dL_ask_341 : decode cL_ask 341 = .ok (.invokevirtual 34, 3) := by decide +kernel
theorem dL_ask_344 : decode cL_ask 344 = .ok (.ifCond .eq 7, 3) := by decide +kernel
theorem dL_ask_347 : decode cL_ask 347 = .ok (.iconst 1, 1) := by decide +kernel
theorem dL_ask_348 : decode cL_ask 348 = .ok (.goto 4, 3) := by decide +kernel
theorem dL_ask_351 : decode cL_ask 351 = .ok (.iconst 0, 1) := by decide +kernel
theorem dL_ask_352 : decode cL_ask 352 = .ok (.ireturn, 1) := by decide +kernel
theorem dL_ask_353 : decode cL_ask 353 = .ok (.aload_n 0, 1) := by decide +kernel
theorem dL_ask_354 : decode cL_ask 354 = .ok (.aload_n 2, 1) := by decide +kernel
theorem dL_ask_355 : decode cL_ask 355 = .ok (.iconst 0, 1) := by decide +kernel
theorem dL_ask_356 : decode cL_ask 356 = .ok (.iaload, 1) := by decide +kernel
theorem dL_ask_357 : decode cL_ask 357 = .ok (.invokevirtual 38, 3) := by decide +kernel
theorem dL_ask_360 : decode cL_ask 360 = .ok (.ifCond .eq 7, 3) := by decide +kernel
theorem dL_ask_363 : decode cL_ask 363 = .ok (.iconst 1, 1) := by decide +kernel
theorem dL_ask_364 : decode cL_ask 364 = .ok (.goto 4, 3) := by decide +kernel
theorem dL_ask_367 : decode cL_ask 367 = .ok (.iconst 0, 1) := by decide +kernel
theorem dL_ask_368 : decode cL_ask 368 = .ok (.ireturn, 1) := by decide +kernel
theorem dL_ask_369 : decode cL_ask 369 = .ok (.aload_n 0, 1) := by decide +kernel
theorem dL_ask_370 : decode cL_ask 370 = .ok (.aload_n 2, 1) := by decide +kernel
theorem dL_ask_371 : decode cL_ask 371 = .ok (.iconst 0, 1) := by decide +kernel
theorem dL_ask_372 : decode cL_ask 372 = .ok (.iaload, 1) := by decide +kernel
theorem dL_ask_373 : decode cL_ask 373 = .ok (.invokevirtual 42, 3) := by decide +kernel
theorem dL_ask_376 : decode cL_ask 376 = .ok (.ifCond .eq 7, 3) := by decide +kernel
theorem dL_ask_379 : decode cL_ask 379 = .ok (.iconst 1, 1) := by decide +kernel
theorem dL_ask_380 : decode cL_ask 380 = .ok (.goto 4, 3) := by decide +kernel
theorem dL_ask_383 : decode cL_ask 383 = .ok (.iconst 0, 1) := by decide +kernel
theorem dL_ask_384 : decode cL_ask 384 = .ok (.ireturn, 1) := by decide +kernel
theorem dL_ask_385 : decode cL_ask 385 = .ok (.aload_n 0, 1) := by decide +kernel
theorem dL_ask_386 : decode cL_ask 386 = .ok (.aload_n 2, 1) := by decide +kernel
theorem dL_ask_387 : decode cL_ask 387 = .ok (.iconst 0, 1) := by decide +kernel
theorem dL_ask_388 : decode cL_ask 388 = .ok (.iaload, 1) := by decide +kernel
theorem dL_ask_389 : decode cL_ask 389 = .ok (.invokevirtual 45, 3) := by decide +kernel
theorem dL_ask_392 : decode cL_ask 392 = .ok (.ireturn, 1) := by decide +kernel
theorem dL_ask_393 : decode cL_ask 393 = .ok (.aload_n 0, 1) := by decide +kernel
theorem dL_ask_394 : decode cL_ask 394 = .ok (.aload_n 2, 1) := by decide +kernel
theorem dL_ask_395 : decode cL_ask 395 = .ok (.iconst 0, 1) := by decide +kernel
theorem dL_ask_396 : decode cL_ask 396 = .ok (.iaload, 1) := by decide +kernel
theorem dL_ask_397 : decode cL_ask 397 = .ok (.invokevirtual 48, 3) := by decide +kernel
theorem dL_ask_400 : decode cL_ask 400 = .ok (.ireturn, 1) := by decide +kernel
theorem dL_ask_401 : decode cL_ask 401 = .ok (.aload_n 0, 1) := by decide +kernel
theorem dL_ask_402 : decode cL_ask 402 = .ok (.aload_n 2, 1) := by decide +kernel
theorem dL_ask_403 : decode cL_ask 403 = .ok (.iconst 0, 1) := by decide +kernel
theorem dL_ask_404 : decode cL_ask 404 = .ok (.iaload, 1) := by decide +kernel
theorem dL_ask_405 : decode cL_ask 405 = .ok (.invokevirtual 51, 3) := by decide +kernel
theorem dL_ask_408 : decode cL_ask 408 = .ok (.ifCond .eq 7, 3) := by decide +kernel
theorem dL_ask_411 : decode cL_ask 411 = .ok (.iconst 1, 1) := by decide +kernel
theorem dL_ask_412 : decode cL_ask 412 = .ok (.goto 4, 3) := by decide +kernel
theorem dL_ask_415 : decode cL_ask 415 = .ok (.iconst 0, 1) := by decide +kernel
theorem dL_ask_416 : decode cL_ask 416 = .ok (.ireturn, 1) := by decide +kernel
theorem dL_ask_417 : decode cL_ask 417 = .ok (.aload_n 0, 1) := by decide +kernel
theorem dL_ask_418 : decode cL_ask 418 = .ok (.aload_n 2, 1) := by decide +kernel
theorem dL_ask_419 : decode cL_ask 419 = .ok (.iconst 0, 1) := by decide +kernel
theorem dL_ask_420 : decode cL_ask 420 = .ok (.iaload, 1) := by decide +kernel
theorem dL_ask_421 : decode cL_ask 421 = .ok (.invokevirtual 54, 3) := by decide +kernel
theorem dL_ask_424 : decode cL_ask 424 = .ok (.ireturn, 1) := by decide +kernel
theorem dL_ask_425 : decode cL_ask 425 = .ok (.aload_n 0, 1) := by decide +kernel
theorem dL_ask_426 : decode cL_ask 426 = .ok (.aload_n 2, 1) := by decide +kernel
theorem dL_ask_427 : decode cL_ask 427 = .ok (.iconst 0, 1) := by decide +kernel
theorem dL_ask_428 : decode cL_ask 428 = .ok (.iaload, 1) := by decide +kernel
theorem dL_ask_429 : decode cL_ask 429 = .ok (.invokevirtual 57, 3) := by decide +kernel
theorem dL_ask_432 : decode cL_ask 432 = .ok (.ireturn, 1) := by decide +kernel
theorem dL_ask_433 : decode cL_ask 433 = .ok (.aload_n 0, 1) := by decide +kernel
theorem dL_ask_434 : decode cL_ask 434 = .ok (.aload_n 2, 1) := by decide +kernel
theorem dL_ask_435 : decode cL_ask 435 = .ok (.iconst 0, 1) := by decide +kernel
theorem dL_ask_436 : decode cL_ask 436 = .ok (.iaload, 1) := by decide +kernel
theorem dL_ask_437 : decode cL_ask 437 = .ok (.invokevirtual 60, 3) := by decide +kernel
theorem dL_ask_440 : decode cL_ask 440 = .ok (.ireturn, 1) := by decide +kernel
theorem dL_ask_441 : decode cL_ask 441 = .ok (.aload_n 0, 1) := by decide +kernel
theorem dL_ask_442 : decode cL_ask 442 = .ok (.iload_n 1, 1) := by decide +kernel
theorem dL_ask_443 : decode cL_ask 443 = .ok (.aload_n 2, 1) := by decide +kernel
theorem dL_ask_444 : decode cL_ask 444 = .ok (.invokestatic 63, 3) := by decide +kernel
theorem dL_ask_447 : decode cL_ask 447 = .ok (.ireturn, 1) := by decide +kernel
theorem dL_ask_448 : decode cL_ask 448 = .ok (.astore_n 3, 1) := by decide +kernel
theorem dL_ask_449 : decode cL_ask 449 = .ok (.ldc 71, 2) := by decide +kernel
theorem dL_ask_451 : decode cL_ask 451 = .ok (.ireturn, 1) := by decide +kernel
theorem dL_ask_452 : decode cL_ask 452 = .ok (.astore_n 3, 1) := by decide +kernel
theorem dL_ask_453 : decode cL_ask 453 = .ok (.ldc 74, 2) := by decide +kernel
theorem dL_ask_455 : decode cL_ask 455 = .ok (.ireturn, 1) := by decide +kernel
theorem dL_ask_456 : decode cL_ask 456 = .ok (.astore_n 3, 1) := by decide +kernel
theorem dL_ask_457 : decode cL_ask 457 = .ok (.ldc 77, 2) := by decide +kernel
theorem dL_ask_459 : decode cL_ask 459 = .ok (.ireturn, 1) := by decide +kernel
theorem dL_ask_460 : decode cL_ask 460 = .ok (.astore_n 3, 1) := by decide +kernel
theorem dL_ask_461 : decode cL_ask 461 = .ok (.ldc 80, 2) := by decide +kernel
theorem dL_ask_463 : decode cL_ask 463 = .ok (.ireturn, 1) := by decide +kernel
theorem dL_ask_464 : decode cL_ask 464 = .ok (.astore_n 3, 1) := by decide +kernel
theorem dL_ask_465 : decode cL_ask 465 = .ok (.ldc 83, 2) := by decide +kernel
theorem dL_ask_467 : decode cL_ask 467 = .ok (.ireturn, 1) := by decide +kernel
theorem dL_asked_0 : decode cL_asked 0 = .ok (.iload_n 1, 1) := by decide +kernel
theorem dL_asked_1 : decode cL_asked 1 = .ok (.tableswitch 368 65 114 #[350, 368, 368, 368, 368, 312, 359, 368, 368, 368, 276, 304, 368, 368, 368, 326, 368, 368, 368, 368, 368, 284, 368, 368, 368, 368, 368, 368, 368, 368, 368, 368, 243, 368, 368, 251, 368, 368, 334, 368, 262, 368, 368, 232, 368, 368, 368, 368, 368, 215], 215) := by decide +kernel
theorem dL_asked_216 : decode cL_asked 216 = .ok (.aload_n 0, 1) := by decide +kernel
theorem dL_asked_217 : decode cL_asked 217 = .ok (.aload_n 2, 1) := by decide +kernel
theorem dL_asked_218 : decode cL_asked 218 = .ok (.iconst 0, 1) := by decide +kernel
theorem dL_asked_219 : decode cL_asked 219 = .ok (.iaload, 1) := by decide +kernel
theorem dL_asked_220 : decode cL_asked 220 = .ok (.aload_n 2, 1) := by decide +kernel
theorem dL_asked_221 : decode cL_asked 221 = .ok (.iconst 1, 1) := by decide +kernel
theorem dL_asked_222 : decode cL_asked 222 = .ok (.iaload, 1) := by decide +kernel
theorem dL_asked_223 : decode cL_asked 223 = .ok (.aload_n 2, 1) := by decide +kernel
theorem dL_asked_224 : decode cL_asked 224 = .ok (.iconst 2, 1) := by decide +kernel
theorem dL_asked_225 : decode cL_asked 225 = .ok (.iaload, 1) := by decide +kernel
theorem dL_asked_226 : decode cL_asked 226 = .ok (.aload_n 2, 1) := by decide +kernel
theorem dL_asked_227 : decode cL_asked 227 = .ok (.iconst 3, 1) := by decide +kernel
theorem dL_asked_228 : decode cL_asked 228 = .ok (.iaload, 1) := by decide +kernel
theorem dL_asked_229 : decode cL_asked 229 = .ok (.invokevirtual 84, 3) := by decide +kernel
theorem dL_asked_232 : decode cL_asked 232 = .ok (.ireturn, 1) := by decide +kernel
theorem dL_asked_233 : decode cL_asked 233 = .ok (.aload_n 0, 1) := by decide +kernel
theorem dL_asked_234 : decode cL_asked 234 = .ok (.aload_n 2, 1) := by decide +kernel
theorem dL_asked_235 : decode cL_asked 235 = .ok (.iconst 0, 1) := by decide +kernel
theorem dL_asked_236 : decode cL_asked 236 = .ok (.iaload, 1) := by decide +kernel
theorem dL_asked_237 : decode cL_asked 237 = .ok (.aload_n 2, 1) := by decide +kernel
theorem dL_asked_238 : decode cL_asked 238 = .ok (.iconst 1, 1) := by decide +kernel
theorem dL_asked_239 : decode cL_asked 239 = .ok (.iaload, 1) := by decide +kernel
theorem dL_asked_240 : decode cL_asked 240 = .ok (.invokevirtual 87, 3) := by decide +kernel
theorem dL_asked_243 : decode cL_asked 243 = .ok (.ireturn, 1) := by decide +kernel
theorem dL_asked_244 : decode cL_asked 244 = .ok (.aload_n 0, 1) := by decide +kernel
theorem dL_asked_245 : decode cL_asked 245 = .ok (.aload_n 2, 1) := by decide +kernel
theorem dL_asked_246 : decode cL_asked 246 = .ok (.iconst 0, 1) := by decide +kernel
theorem dL_asked_247 : decode cL_asked 247 = .ok (.iaload, 1) := by decide +kernel
theorem dL_asked_248 : decode cL_asked 248 = .ok (.invokevirtual 91, 3) := by decide +kernel
theorem dL_asked_251 : decode cL_asked 251 = .ok (.ireturn, 1) := by decide +kernel
theorem dL_asked_252 : decode cL_asked 252 = .ok (.aload_n 0, 1) := by decide +kernel
theorem dL_asked_253 : decode cL_asked 253 = .ok (.aload_n 2, 1) := by decide +kernel
theorem dL_asked_254 : decode cL_asked 254 = .ok (.iconst 0, 1) := by decide +kernel
theorem dL_asked_255 : decode cL_asked 255 = .ok (.iaload, 1) := by decide +kernel
theorem dL_asked_256 : decode cL_asked 256 = .ok (.aload_n 2, 1) := by decide +kernel
theorem dL_asked_257 : decode cL_asked 257 = .ok (.iconst 1, 1) := by decide +kernel
theorem dL_asked_258 : decode cL_asked 258 = .ok (.iaload, 1) := by decide +kernel
theorem dL_asked_259 : decode cL_asked 259 = .ok (.invokevirtual 94, 3) := by decide +kernel
theorem dL_asked_262 : decode cL_asked 262 = .ok (.ireturn, 1) := by decide +kernel
theorem dL_asked_263 : decode cL_asked 263 = .ok (.aload_n 0, 1) := by decide +kernel
theorem dL_asked_264 : decode cL_asked 264 = .ok (.aload_n 2, 1) := by decide +kernel
theorem dL_asked_265 : decode cL_asked 265 = .ok (.iconst 0, 1) := by decide +kernel
theorem dL_asked_266 : decode cL_asked 266 = .ok (.iaload, 1) := by decide +kernel
theorem dL_asked_267 : decode cL_asked 267 = .ok (.aload_n 2, 1) := by decide +kernel
theorem dL_asked_268 : decode cL_asked 268 = .ok (.iconst 1, 1) := by decide +kernel
theorem dL_asked_269 : decode cL_asked 269 = .ok (.iaload, 1) := by decide +kernel
theorem dL_asked_270 : decode cL_asked 270 = .ok (.aload_n 2, 1) := by decide +kernel
theorem dL_asked_271 : decode cL_asked 271 = .ok (.iconst 2, 1) := by decide +kernel
theorem dL_asked_272 : decode cL_asked 272 = .ok (.iaload, 1) := by decide +kernel
theorem dL_asked_273 : decode cL_asked 273 = .ok (.invokevirtual 97, 3) := by decide +kernel
theorem dL_asked_276 : decode cL_asked 276 = .ok (.ireturn, 1) := by decide +kernel
theorem dL_asked_277 : decode cL_asked 277 = .ok (.aload_n 0, 1) := by decide +kernel
theorem dL_asked_278 : decode cL_asked 278 = .ok (.aload_n 2, 1) := by decide +kernel
theorem dL_asked_279 : decode cL_asked 279 = .ok (.iconst 0, 1) := by decide +kernel
theorem dL_asked_280 : decode cL_asked 280 = .ok (.iaload, 1) := by decide +kernel
theorem dL_asked_281 : decode cL_asked 281 = .ok (.invokevirtual 100, 3) := by decide +kernel
theorem dL_asked_284 : decode cL_asked 284 = .ok (.ireturn, 1) := by decide +kernel
theorem dL_asked_285 : decode cL_asked 285 = .ok (.aload_n 0, 1) := by decide +kernel
theorem dL_asked_286 : decode cL_asked 286 = .ok (.aload_n 2, 1) := by decide +kernel
theorem dL_asked_287 : decode cL_asked 287 = .ok (.iconst 0, 1) := by decide +kernel
theorem dL_asked_288 : decode cL_asked 288 = .ok (.iaload, 1) := by decide +kernel
theorem dL_asked_289 : decode cL_asked 289 = .ok (.aload_n 2, 1) := by decide +kernel
theorem dL_asked_290 : decode cL_asked 290 = .ok (.iconst 1, 1) := by decide +kernel
theorem dL_asked_291 : decode cL_asked 291 = .ok (.iaload, 1) := by decide +kernel
theorem dL_asked_292 : decode cL_asked 292 = .ok (.iconst 1, 1) := by decide +kernel
theorem dL_asked_293 : decode cL_asked 293 = .ok (.if_icmp .ne 7, 3) := by decide +kernel
theorem dL_asked_296 : decode cL_asked 296 = .ok (.iconst 1, 1) := by decide +kernel
theorem dL_asked_297 : decode cL_asked 297 = .ok (.goto 4, 3) := by decide +kernel
theorem dL_asked_300 : decode cL_asked 300 = .ok (.iconst 0, 1) := by decide +kernel
theorem dL_asked_301 : decode cL_asked 301 = .ok (.invokevirtual 103, 3) := by decide +kernel
theorem dL_asked_304 : decode cL_asked 304 = .ok (.ireturn, 1) := by decide +kernel
theorem dL_asked_305 : decode cL_asked 305 = .ok (.aload_n 0, 1) := by decide +kernel
theorem dL_asked_306 : decode cL_asked 306 = .ok (.aload_n 2, 1) := by decide +kernel
theorem dL_asked_307 : decode cL_asked 307 = .ok (.iconst 0, 1) := by decide +kernel
theorem dL_asked_308 : decode cL_asked 308 = .ok (.iaload, 1) := by decide +kernel
theorem dL_asked_309 : decode cL_asked 309 = .ok (.invokevirtual 107, 3) := by decide +kernel
theorem dL_asked_312 : decode cL_asked 312 = .ok (.ireturn, 1) := by decide +kernel
theorem dL_asked_313 : decode cL_asked 313 = .ok (.aload_n 0, 1) := by decide +kernel
theorem dL_asked_314 : decode cL_asked 314 = .ok (.aload_n 2, 1) := by decide +kernel
theorem dL_asked_315 : decode cL_asked 315 = .ok (.iconst 0, 1) := by decide +kernel
theorem dL_asked_316 : decode cL_asked 316 = .ok (.iaload, 1) := by decide +kernel
theorem dL_asked_317 : decode cL_asked 317 = .ok (.aload_n 2, 1) := by decide +kernel
theorem dL_asked_318 : decode cL_asked 318 = .ok (.iconst 1, 1) := by decide +kernel
theorem dL_asked_319 : decode cL_asked 319 = .ok (.iaload, 1) := by decide +kernel
theorem dL_asked_320 : decode cL_asked 320 = .ok (.aload_n 2, 1) := by decide +kernel
theorem dL_asked_321 : decode cL_asked 321 = .ok (.iconst 2, 1) := by decide +kernel
theorem dL_asked_322 : decode cL_asked 322 = .ok (.iaload, 1) := by decide +kernel
theorem dL_asked_323 : decode cL_asked 323 = .ok (.invokevirtual 110, 3) := by decide +kernel
theorem dL_asked_326 : decode cL_asked 326 = .ok (.ireturn, 1) := by decide +kernel
theorem dL_asked_327 : decode cL_asked 327 = .ok (.aload_n 0, 1) := by decide +kernel
theorem dL_asked_328 : decode cL_asked 328 = .ok (.aload_n 2, 1) := by decide +kernel
theorem dL_asked_329 : decode cL_asked 329 = .ok (.iconst 0, 1) := by decide +kernel
theorem dL_asked_330 : decode cL_asked 330 = .ok (.iaload, 1) := by decide +kernel
theorem dL_asked_331 : decode cL_asked 331 = .ok (.invokevirtual 113, 3) := by decide +kernel
theorem dL_asked_334 : decode cL_asked 334 = .ok (.ireturn, 1) := by decide +kernel
theorem dL_asked_335 : decode cL_asked 335 = .ok (.aload_n 0, 1) := by decide +kernel
theorem dL_asked_336 : decode cL_asked 336 = .ok (.aload_n 2, 1) := by decide +kernel
theorem dL_asked_337 : decode cL_asked 337 = .ok (.iconst 0, 1) := by decide +kernel
theorem dL_asked_338 : decode cL_asked 338 = .ok (.iaload, 1) := by decide +kernel
theorem dL_asked_339 : decode cL_asked 339 = .ok (.invokevirtual 116, 3) := by decide +kernel
theorem dL_asked_342 : decode cL_asked 342 = .ok (.ifCond .eq 7, 3) := by decide +kernel
theorem dL_asked_345 : decode cL_asked 345 = .ok (.iconst 1, 1) := by decide +kernel
theorem dL_asked_346 : decode cL_asked 346 = .ok (.goto 4, 3) := by decide +kernel
theorem dL_asked_349 : decode cL_asked 349 = .ok (.iconst 0, 1) := by decide +kernel
theorem dL_asked_350 : decode cL_asked 350 = .ok (.ireturn, 1) := by decide +kernel
theorem dL_asked_351 : decode cL_asked 351 = .ok (.aload_n 0, 1) := by decide +kernel
theorem dL_asked_352 : decode cL_asked 352 = .ok (.aload_n 2, 1) := by decide +kernel
theorem dL_asked_353 : decode cL_asked 353 = .ok (.iconst 0, 1) := by decide +kernel
theorem dL_asked_354 : decode cL_asked 354 = .ok (.iaload, 1) := by decide +kernel
theorem dL_asked_355 : decode cL_asked 355 = .ok (.i2c, 1) := by decide +kernel
theorem dL_asked_356 : decode cL_asked 356 = .ok (.invokevirtual 119, 3) := by decide +kernel
theorem dL_asked_359 : decode cL_asked 359 = .ok (.ireturn, 1) := by decide +kernel
theorem dL_asked_360 : decode cL_asked 360 = .ok (.aload_n 0, 1) := by decide +kernel
theorem dL_asked_361 : decode cL_asked 361 = .ok (.aload_n 2, 1) := by decide +kernel
theorem dL_asked_362 : decode cL_asked 362 = .ok (.iconst 0, 1) := by decide +kernel
theorem dL_asked_363 : decode cL_asked 363 = .ok (.iaload, 1) := by decide +kernel
theorem dL_asked_364 : decode cL_asked 364 = .ok (.i2c, 1) := by decide +kernel
theorem dL_asked_365 : decode cL_asked 365 = .ok (.invokevirtual 123, 3) := by decide +kernel
theorem dL_asked_368 : decode cL_asked 368 = .ok (.ireturn, 1) := by decide +kernel
theorem dL_asked_369 : decode cL_asked 369 = .ok (.aload_n 0, 1) := by decide +kernel
theorem dL_asked_370 : decode cL_asked 370 = .ok (.aload_n 2, 1) := by decide +kernel
theorem dL_asked_371 : decode cL_asked 371 = .ok (.iconst 0, 1) := by decide +kernel
theorem dL_asked_372 : decode cL_asked 372 = .ok (.iaload, 1) := by decide +kernel
theorem dL_asked_373 : decode cL_asked 373 = .ok (.aload_n 2, 1) := by decide +kernel
theorem dL_asked_374 : decode cL_asked 374 = .ok (.iconst 1, 1) := by decide +kernel
theorem dL_asked_375 : decode cL_asked 375 = .ok (.iaload, 1) := by decide +kernel
theorem dL_asked_376 : decode cL_asked 376 = .ok (.i2c, 1) := by decide +kernel
theorem dL_asked_377 : decode cL_asked 377 = .ok (.invokevirtual 126, 3) := by decide +kernel
theorem dL_asked_380 : decode cL_asked 380 = .ok (.ireturn, 1) := by decide +kernel
theorem dL_law_0 : decode cL_law 0 = .ok (.new 8, 3) := by decide +kernel
theorem dL_law_3 : decode cL_law 3 = .ok (.dup, 1) := by decide +kernel
theorem dL_law_4 : decode cL_law 4 = .ok (.invokespecial 138, 3) := by decide +kernel
theorem dL_law_7 : decode cL_law 7 = .ok (.astore_n 1, 1) := by decide +kernel
theorem dL_law_8 : decode cL_law 8 = .ok (.aload_n 1, 1) := by decide +kernel
theorem dL_law_9 : decode cL_law 9 = .ok (.invokevirtual 139, 3) := by decide +kernel
theorem dL_law_12 : decode cL_law 12 = .ok (.ifCond .ne 915, 3) := by decide +kernel
theorem dL_law_15 : decode cL_law 15 = .ok (.aload_n 1, 1) := by decide +kernel
theorem dL_law_16 : decode cL_law 16 = .ok (.invokevirtual 143, 3) := by decide +kernel
theorem dL_law_19 : decode cL_law 19 = .ok (.ifCond .ne 908, 3) := by decide +kernel
theorem dL_law_22 : decode cL_law 22 = .ok (.aload_n 1, 1) := by decide +kernel
theorem dL_law_23 : decode cL_law 23 = .ok (.invokevirtual 146, 3) := by decide +kernel
theorem dL_law_26 : decode cL_law 26 = .ok (.ifCond .eq 901, 3) := by decide +kernel
theorem dL_law_29 : decode cL_law 29 = .ok (.aload_n 1, 1) := by decide +kernel
theorem dL_law_30 : decode cL_law 30 = .ok (.invokevirtual 150, 3) := by decide +kernel
theorem dL_law_33 : decode cL_law 33 = .ok (.ifCond .eq 894, 3) := by decide +kernel
theorem dL_law_36 : decode cL_law 36 = .ok (.aload_n 1, 1) := by decide +kernel
theorem dL_law_37 : decode cL_law 37 = .ok (.invokevirtual 153, 3) := by decide +kernel
theorem dL_law_40 : decode cL_law 40 = .ok (.dconst 0, 1) := by decide +kernel
theorem dL_law_41 : decode cL_law 41 = .ok (.dcmp .l, 1) := by decide +kernel
theorem dL_law_42 : decode cL_law 42 = .ok (.ifCond .ne 885, 3) := by decide +kernel
theorem dL_law_45 : decode cL_law 45 = .ok (.aload_n 1, 1) := by decide +kernel
theorem dL_law_46 : decode cL_law 46 = .ok (.invokevirtual 157, 3) := by decide +kernel
theorem dL_law_49 : decode cL_law 49 = .ok (.fconst 1, 1) := by decide +kernel
theorem dL_law_50 : decode cL_law 50 = .ok (.fcmp .l, 1) := by decide +kernel
theorem dL_law_51 : decode cL_law 51 = .ok (.ifCond .ne 876, 3) := by decide +kernel
theorem dL_law_54 : decode cL_law 54 = .ok (.aload_n 1, 1) := by decide +kernel
theorem dL_law_55 : decode cL_law 55 = .ok (.bipush 67, 2) := by decide +kernel
theorem dL_law_57 : decode cL_law 57 = .ok (.iconst 4, 1) := by decide +kernel
theorem dL_law_58 : decode cL_law 58 = .ok (.newarray .int, 2) := by decide +kernel
theorem dL_law_60 : decode cL_law 60 = .ok (.dup, 1) := by decide +kernel
theorem dL_law_61 : decode cL_law 61 = .ok (.iconst 0, 1) := by decide +kernel
theorem dL_law_62 : decode cL_law 62 = .ok (.iconst 3, 1) := by decide +kernel
theorem dL_law_63 : decode cL_law 63 = .ok (.iastore, 1) := by decide +kernel
theorem dL_law_64 : decode cL_law 64 = .ok (.dup, 1) := by decide +kernel
theorem dL_law_65 : decode cL_law 65 = .ok (.iconst 1, 1) := by decide +kernel
theorem dL_law_66 : decode cL_law 66 = .ok (.bipush 108, 2) := by decide +kernel
theorem dL_law_68 : decode cL_law 68 = .ok (.iastore, 1) := by decide +kernel
theorem dL_law_69 : decode cL_law 69 = .ok (.dup, 1) := by decide +kernel
theorem dL_law_70 : decode cL_law 70 = .ok (.iconst 2, 1) := by decide +kernel
theorem dL_law_71 : decode cL_law 71 = .ok (.iconst 0, 1) := by decide +kernel
theorem dL_law_72 : decode cL_law 72 = .ok (.iastore, 1) := by decide +kernel
theorem dL_law_73 : decode cL_law 73 = .ok (.dup, 1) := by decide +kernel
theorem dL_law_74 : decode cL_law 74 = .ok (.iconst 3, 1) := by decide +kernel
theorem dL_law_75 : decode cL_law 75 = .ok (.iconst 0, 1) := by decide +kernel
theorem dL_law_76 : decode cL_law 76 = .ok (.iastore, 1) := by decide +kernel
theorem dL_law_77 : decode cL_law 77 = .ok (.invokestatic 161, 3) := by decide +kernel
theorem dL_law_80 : decode cL_law 80 = .ok (.ldc 71, 2) := by decide +kernel
theorem dL_law_82 : decode cL_law 82 = .ok (.if_icmp .ne 845, 3) := by decide +kernel
theorem dL_law_85 : decode cL_law 85 = .ok (.aload_n 1, 1) := by decide +kernel
theorem dL_law_86 : decode cL_law 86 = .ok (.bipush 67, 2) := by decide +kernel
theorem dL_law_88 : decode cL_law 88 = .ok (.iconst 4, 1) := by decide +kernel
theorem dL_law_89 : decode cL_law 89 = .ok (.newarray .int, 2) := by decide +kernel
theorem dL_law_91 : decode cL_law 91 = .ok (.dup, 1) := by decide +kernel
theorem dL_law_92 : decode cL_law 92 = .ok (.iconst 0, 1) := by decide +kernel
theorem dL_law_93 : decode cL_law 93 = .ok (.iconst 0, 1) := by decide +kernel
theorem dL_law_94 : decode cL_law 94 = .ok (.iastore, 1) := by decide +kernel
theorem dL_law_95 : decode cL_law 95 = .ok (.dup, 1) := by decide +kernel
theorem dL_law_96 : decode cL_law 96 = .ok (.iconst 1, 1) := by decide +kernel
theorem dL_law_97 : decode cL_law 97 = .ok (.bipush 120, 2) := by decide +kernel
theorem dL_law_99 : decode cL_law 99 = .ok (.iastore, 1) := by decide +kernel
theorem dL_law_100 : decode cL_law 100 = .ok (.dup, 1) := by decide +kernel
theorem dL_law_101 : decode cL_law 101 = .ok (.iconst 2, 1) := by decide +kernel
theorem dL_law_102 : decode cL_law 102 = .ok (.iconst 0, 1) := by decide +kernel
theorem dL_law_103 : decode cL_law 103 = .ok (.iastore, 1) := by decide +kernel
theorem dL_law_104 : decode cL_law 104 = .ok (.dup, 1) := by decide +kernel
theorem dL_law_105 : decode cL_law 105 = .ok (.iconst 3, 1) := by decide +kernel
theorem dL_law_106 : decode cL_law 106 = .ok (.iconst 0, 1) := by decide +kernel
theorem dL_law_107 : decode cL_law 107 = .ok (.iastore, 1) := by decide +kernel
theorem dL_law_108 : decode cL_law 108 = .ok (.invokestatic 161, 3) := by decide +kernel
theorem dL_law_111 : decode cL_law 111 = .ok (.ldc 74, 2) := by decide +kernel
theorem dL_law_113 : decode cL_law 113 = .ok (.if_icmp .ne 814, 3) := by decide +kernel
theorem dL_law_116 : decode cL_law 116 = .ok (.aload_n 1, 1) := by decide +kernel
theorem dL_law_117 : decode cL_law 117 = .ok (.bipush 67, 2) := by decide +kernel
theorem dL_law_119 : decode cL_law 119 = .ok (.iconst 4, 1) := by decide +kernel
theorem dL_law_120 : decode cL_law 120 = .ok (.newarray .int, 2) := by decide +kernel
theorem dL_law_122 : decode cL_law 122 = .ok (.dup, 1) := by decide +kernel
theorem dL_law_123 : decode cL_law 123 = .ok (.iconst 0, 1) := by decide +kernel
theorem dL_law_124 : decode cL_law 124 = .ok (.iconst 0, 1) := by decide +kernel
theorem dL_law_125 : decode cL_law 125 = .ok (.iastore, 1) := by decide +kernel
theorem dL_law_126 : decode cL_law 126 = .ok (.dup, 1) := by decide +kernel
theorem dL_law_127 : decode cL_law 127 = .ok (.iconst 1, 1) := by decide +kernel
theorem dL_law_128 : decode cL_law 128 = .ok (.bipush 108, 2) := by decide +kernel
theorem dL_law_130 : decode cL_law 130 = .ok (.iastore, 1) := by decide +kernel
theorem dL_law_131 : decode cL_law 131 = .ok (.dup, 1) := by decide +kernel
theorem dL_law_132 : decode cL_law 132 = .ok (.iconst 2, 1) := by decide +kernel
theorem dL_law_133 : decode cL_law 133 = .ok (.iconst 0, 1) := by decide +kernel
theorem dL_law_134 : decode cL_law 134 = .ok (.iastore, 1) := by decide +kernel
theorem dL_law_135 : decode cL_law 135 = .ok (.dup, 1) := by decide +kernel
theorem dL_law_136 : decode cL_law 136 = .ok (.iconst 3, 1) := by decide +kernel
theorem dL_law_137 : decode cL_law 137 = .ok (.ldc 164, 2) := by decide +kernel
theorem dL_law_139 : decode cL_law 139 = .ok (.iastore, 1) := by decide +kernel
theorem dL_law_140 : decode cL_law 140 = .ok (.invokestatic 161, 3) := by decide +kernel
theorem dL_law_143 : decode cL_law 143 = .ok (.ldc 74, 2) := by decide +kernel
theorem dL_law_145 : decode cL_law 145 = .ok (.if_icmp .ne 782, 3) := by decide +kernel
theorem dL_law_148 : decode cL_law 148 = .ok (.aload_n 1, 1) := by decide +kernel
theorem dL_law_149 : decode cL_law 149 = .ok (.bipush 67, 2) := by decide +kernel
theorem dL_law_151 : decode cL_law 151 = .ok (.iconst 4, 1) := by decide +kernel
theorem dL_law_152 : decode cL_law 152 = .ok (.newarray .int, 2) := by decide +kernel
theorem dL_law_154 : decode cL_law 154 = .ok (.dup, 1) := by decide +kernel
theorem dL_law_155 : decode cL_law 155 = .ok (.iconst 0, 1) := by decide +kernel
theorem dL_law_156 : decode cL_law 156 = .ok (.iconst 0, 1) := by decide +kernel
theorem dL_law_157 : decode cL_law 157 = .ok (.iastore, 1) := by decide +kernel
theorem dL_law_158 : decode cL_law 158 = .ok (.dup, 1) := by decide +kernel
theorem dL_law_159 : decode cL_law 159 = .ok (.iconst 1, 1) := by decide +kernel
theorem dL_law_160 : decode cL_law 160 = .ok (.bipush 114, 2) := by decide +kernel
theorem dL_law_162 : decode cL_law 162 = .ok (.iastore, 1) := by decide +kernel
theorem dL_law_163 : decode cL_law 163 = .ok (.dup, 1) := by decide +kernel
theorem dL_law_164 : decode cL_law 164 = .ok (.iconst 2, 1) := by decide +kernel
theorem dL_law_165 : decode cL_law 165 = .ok (.iconst 0, 1) := by decide +kernel
theorem dL_law_166 : decode cL_law 166 = .ok (.iastore, 1) := by decide +kernel
theorem dL_law_167 : decode cL_law 167 = .ok (.dup, 1) := by decide +kernel
theorem dL_law_168 : decode cL_law 168 = .ok (.iconst 3, 1) := by decide +kernel
theorem dL_law_169 : decode cL_law 169 = .ok (.bipush 6, 2) := by decide +kernel
theorem dL_law_171 : decode cL_law 171 = .ok (.iastore, 1) := by decide +kernel
theorem dL_law_172 : decode cL_law 172 = .ok (.invokestatic 161, 3) := by decide +kernel
theorem dL_law_175 : decode cL_law 175 = .ok (.ldc 74, 2) := by decide +kernel
theorem dL_law_177 : decode cL_law 177 = .ok (.if_icmp .ne 750, 3) := by decide +kernel
theorem dL_law_180 : decode cL_law 180 = .ok (.aload_n 1, 1) := by decide +kernel
theorem dL_law_181 : decode cL_law 181 = .ok (.bipush 67, 2) := by decide +kernel
theorem dL_law_183 : decode cL_law 183 = .ok (.iconst 4, 1) := by decide +kernel
theorem dL_law_184 : decode cL_law 184 = .ok (.newarray .int, 2) := by decide +kernel
theorem dL_law_186 : decode cL_law 186 = .ok (.dup, 1) := by decide +kernel
theorem dL_law_187 : decode cL_law 187 = .ok (.iconst 0, 1) := by decide +kernel
theorem dL_law_188 : decode cL_law 188 = .ok (.iconst 0, 1) := by decide +kernel
theorem dL_law_189 : decode cL_law 189 = .ok (.iastore, 1) := by decide +kernel
theorem dL_law_190 : decode cL_law 190 = .ok (.dup, 1) := by decide +kernel
theorem dL_law_191 : decode cL_law 191 = .ok (.iconst 1, 1) := by decide +kernel
theorem dL_law_192 : decode cL_law 192 = .ok (.bipush 111, 2) := by decide +kernel
theorem dL_law_194 : decode cL_law 194 = .ok (.iastore, 1) := by decide +kernel
theorem dL_law_195 : decode cL_law 195 = .ok (.dup, 1) := by decide +kernel
theorem dL_law_196 : decode cL_law 196 = .ok (.iconst 2, 1) := by decide +kernel
theorem dL_law_197 : decode cL_law 197 = .ok (.iconst 4, 1) := by decide +kernel
theorem dL_law_198 : decode cL_law 198 = .ok (.iastore, 1) := by decide +kernel
theorem dL_law_199 : decode cL_law 199 = .ok (.dup, 1) := by decide +kernel
theorem dL_law_200 : decode cL_law 200 = .ok (.iconst 3, 1) := by decide +kernel
theorem dL_law_201 : decode cL_law 201 = .ok (.iconst 0, 1) := by decide +kernel
theorem dL_law_202 : decode cL_law 202 = .ok (.iastore, 1) := by decide +kernel
theorem dL_law_203 : decode cL_law 203 = .ok (.invokestatic 161, 3) := by decide +kernel
theorem dL_law_206 : decode cL_law 206 = .ok (.ldc 74, 2) := by decide +kernel
theorem dL_law_208 : decode cL_law 208 = .ok (.if_icmp .ne 719, 3) := by decide +kernel
theorem dL_law_211 : decode cL_law 211 = .ok (.aload_n 1, 1) := by decide +kernel
theorem dL_law_212 : decode cL_law 212 = .ok (.bipush 99, 2) := by decide +kernel
theorem dL_law_214 : decode cL_law 214 = .ok (.iconst 1, 1) := by decide +kernel
theorem dL_law_215 : decode cL_law 215 = .ok (.newarray .int, 2) := by decide +kernel
theorem dL_law_217 : decode cL_law 217 = .ok (.dup, 1) := by decide +kernel
theorem dL_law_218 : decode cL_law 218 = .ok (.iconst 0, 1) := by decide +kernel
theorem dL_law_219 : decode cL_law 219 = .ok (.iconst (-1), 1) := by decide +kernel
theorem dL_law_220 : decode cL_law 220 = .ok (.iastore, 1) := by decide +kernel
theorem dL_law_221 : decode cL_law 221 = .ok (.invokestatic 161, 3) := by decide +kernel
theorem dL_law_224 : decode cL_law 224 = .ok (.ldc 71, 2) := by decide +kernel
theorem dL_law_226 : decode cL_law 226 = .ok (.if_icmp .ne 701, 3) := by decide +kernel
theorem dL_law_229 : decode cL_law 229 = .ok (.aload_n 1, 1) := by decide +kernel
theorem dL_law_230 : decode cL_law 230 = .ok (.bipush 83, 2) := by decide +kernel
theorem dL_law_232 : decode cL_law 232 = .ok (.iconst 3, 1) := by decide +kernel
theorem dL_law_233 : decode cL_law 233 = .ok (.newarray .int, 2) := by decide +kernel
theorem dL_law_235 : decode cL_law 235 = .ok (.dup, 1) := by decide +kernel
theorem dL_law_236 : decode cL_law 236 = .ok (.iconst 0, 1) := by decide +kernel
theorem dL_law_237 : decode cL_law 237 = .ok (.iconst 2, 1) := by decide +kernel
theorem dL_law_238 : decode cL_law 238 = .ok (.iastore, 1) := by decide +kernel
theorem dL_law_239 : decode cL_law 239 = .ok (.dup, 1) := by decide +kernel
theorem dL_law_240 : decode cL_law 240 = .ok (.iconst 1, 1) := by decide +kernel
theorem dL_law_241 : decode cL_law 241 = .ok (.iconst 0, 1) := by decide +kernel
theorem dL_law_242 : decode cL_law 242 = .ok (.iastore, 1) := by decide +kernel
theorem dL_law_243 : decode cL_law 243 = .ok (.dup, 1) := by decide +kernel
theorem dL_law_244 : decode cL_law 244 = .ok (.iconst 2, 1) := by decide +kernel
theorem dL_law_245 : decode cL_law 245 = .ok (.iconst 0, 1) := by decide +kernel
theorem dL_law_246 : decode cL_law 246 = .ok (.iastore, 1) := by decide +kernel
theorem dL_law_247 : decode cL_law 247 = .ok (.invokestatic 161, 3) := by decide +kernel
theorem dL_law_250 : decode cL_law 250 = .ok (.ldc 71, 2) := by decide +kernel
theorem dL_law_252 : decode cL_law 252 = .ok (.if_icmp .ne 675, 3) := by decide +kernel
theorem dL_law_255 : decode cL_law 255 = .ok (.aload_n 1, 1) := by decide +kernel
theorem dL_law_256 : decode cL_law 256 = .ok (.bipush 83, 2) := by decide +kernel
theorem dL_law_258 : decode cL_law 258 = .ok (.iconst 3, 1) := by decide +kernel
theorem dL_law_259 : decode cL_law 259 = .ok (.newarray .int, 2) := by decide +kernel
theorem dL_law_261 : decode cL_law 261 = .ok (.dup, 1) := by decide +kernel
theorem dL_law_262 : decode cL_law 262 = .ok (.iconst 0, 1) := by decide +kernel
theorem dL_law_263 : decode cL_law 263 = .ok (.iconst 0, 1) := by decide +kernel
theorem dL_law_264 : decode cL_law 264 = .ok (.iastore, 1) := by decide +kernel
theorem dL_law_265 : decode cL_law 265 = .ok (.dup, 1) := by decide +kernel
theorem dL_law_266 : decode cL_law 266 = .ok (.iconst 1, 1) := by decide +kernel
theorem dL_law_267 : decode cL_law 267 = .ok (.iconst 3, 1) := by decide +kernel
theorem dL_law_268 : decode cL_law 268 = .ok (.iastore, 1) := by decide +kernel
theorem dL_law_269 : decode cL_law 269 = .ok (.dup, 1) := by decide +kernel
theorem dL_law_270 : decode cL_law 270 = .ok (.iconst 2, 1) := by decide +kernel
theorem dL_law_271 : decode cL_law 271 = .ok (.iconst 0, 1) := by decide +kernel
theorem dL_law_272 : decode cL_law 272 = .ok (.iastore, 1) := by decide +kernel
theorem dL_law_273 : decode cL_law 273 = .ok (.invokestatic 161, 3) := by decide +kernel
theorem dL_law_276 : decode cL_law 276 = .ok (.ldc 71, 2) := by decide +kernel
theorem dL_law_278 : decode cL_law 278 = .ok (.if_icmp .ne 649, 3) := by decide +kernel
theorem dL_law_281 : decode cL_law 281 = .ok (.aload_n 1, 1) := by decide +kernel
theorem dL_law_282 : decode cL_law 282 = .ok (.bipush 83, 2) := by decide +kernel
theorem dL_law_284 : decode cL_law 284 = .ok (.iconst 3, 1) := by decide +kernel
theorem dL_law_285 : decode cL_law 285 = .ok (.newarray .int, 2) := by decide +kernel
theorem dL_law_287 : decode cL_law 287 = .ok (.dup, 1) := by decide +kernel
theorem dL_law_288 : decode cL_law 288 = .ok (.iconst 0, 1) := by decide +kernel
theorem dL_law_289 : decode cL_law 289 = .ok (.iconst 0, 1) := by decide +kernel
theorem dL_law_290 : decode cL_law 290 = .ok (.iastore, 1) := by decide +kernel
theorem dL_law_291 : decode cL_law 291 = .ok (.dup, 1) := by decide +kernel
theorem dL_law_292 : decode cL_law 292 = .ok (.iconst 1, 1) := by decide +kernel
theorem dL_law_293 : decode cL_law 293 = .ok (.iconst 0, 1) := by decide +kernel
theorem dL_law_294 : decode cL_law 294 = .ok (.iastore, 1) := by decide +kernel
theorem dL_law_295 : decode cL_law 295 = .ok (.dup, 1) := by decide +kernel
theorem dL_law_296 : decode cL_law 296 = .ok (.iconst 2, 1) := by decide +kernel
theorem dL_law_297 : decode cL_law 297 = .ok (.iconst 3, 1) := by decide +kernel
theorem dL_law_298 : decode cL_law 298 = .ok (.iastore, 1) := by decide +kernel
theorem dL_law_299 : decode cL_law 299 = .ok (.invokestatic 161, 3) := by decide +kernel
theorem dL_law_302 : decode cL_law 302 = .ok (.ldc 71, 2) := by decide +kernel
theorem dL_law_304 : decode cL_law 304 = .ok (.if_icmp .ne 623, 3) := by decide +kernel
theorem dL_law_307 : decode cL_law 307 = .ok (.aload_n 1, 1) := by decide +kernel
theorem dL_law_308 : decode cL_law 308 = .ok (.bipush 111, 2) := by decide +kernel
theorem dL_law_310 : decode cL_law 310 = .ok (.iconst 1, 1) := by decide +kernel
theorem dL_law_311 : decode cL_law 311 = .ok (.newarray .int, 2) := by decide +kernel
theorem dL_law_313 : decode cL_law 313 = .ok (.dup, 1) := by decide +kernel
theorem dL_law_314 : decode cL_law 314 = .ok (.iconst 0, 1) := by decide +kernel
theorem dL_law_315 : decode cL_law 315 = .ok (.iconst 4, 1) := by decide +kernel
theorem dL_law_316 : decode cL_law 316 = .ok (.iastore, 1) := by decide +kernel
theorem dL_law_317 : decode cL_law 317 = .ok (.invokestatic 161, 3) := by decide +kernel
theorem dL_law_320 : decode cL_law 320 = .ok (.ldc 71, 2) := by decide +kernel
theorem dL_law_322 : decode cL_law 322 = .ok (.if_icmp .ne 605, 3) := by decide +kernel
theorem dL_law_325 : decode cL_law 325 = .ok (.aload_n 1, 1) := by decide +kernel
theorem dL_law_326 : decode cL_law 326 = .ok (.bipush 112, 2) := by decide +kernel
theorem dL_law_328 : decode cL_law 328 = .ok (.iconst 1, 1) := by decide +kernel
theorem dL_law_329 : decode cL_law 329 = .ok (.newarray .int, 2) := by decide +kernel
theorem dL_law_331 : decode cL_law 331 = .ok (.dup, 1) := by decide +kernel
theorem dL_law_332 : decode cL_law 332 = .ok (.iconst 0, 1) := by decide +kernel
theorem dL_law_333 : decode cL_law 333 = .ok (.iconst (-1), 1) := by decide +kernel
theorem dL_law_334 : decode cL_law 334 = .ok (.iastore, 1) := by decide +kernel
theorem dL_law_335 : decode cL_law 335 = .ok (.invokestatic 161, 3) := by decide +kernel
theorem dL_law_338 : decode cL_law 338 = .ok (.ldc 71, 2) := by decide +kernel
theorem dL_law_340 : decode cL_law 340 = .ok (.if_icmp .ne 587, 3) := by decide +kernel
theorem dL_law_343 : decode cL_law 343 = .ok (.aload_n 1, 1) := by decide +kernel
theorem dL_law_344 : decode cL_law 344 = .ok (.bipush 119, 2) := by decide +kernel
theorem dL_law_346 : decode cL_law 346 = .ok (.iconst 3, 1) := by decide +kernel
theorem dL_law_347 : decode cL_law 347 = .ok (.newarray .int, 2) := by decide +kernel
theorem dL_law_349 : decode cL_law 349 = .ok (.dup, 1) := by decide +kernel
theorem dL_law_350 : decode cL_law 350 = .ok (.iconst 0, 1) := by decide +kernel
theorem dL_law_351 : decode cL_law 351 = .ok (.iconst 0, 1) := by decide +kernel
theorem dL_law_352 : decode cL_law 352 = .ok (.iastore, 1) := by decide +kernel
theorem dL_law_353 : decode cL_law 353 = .ok (.dup, 1) := by decide +kernel
theorem dL_law_354 : decode cL_law 354 = .ok (.iconst 1, 1) := by decide +kernel
theorem dL_law_355 : decode cL_law 355 = .ok (.iconst 0, 1) := by decide +kernel
theorem dL_law_356 : decode cL_law 356 = .ok (.iastore, 1) := by decide +kernel
theorem dL_law_357 : decode cL_law 357 = .ok (.dup, 1) := by decide +kernel
theorem dL_law_358 : decode cL_law 358 = .ok (.iconst 2, 1) := by decide +kernel
theorem dL_law_359 : decode cL_law 359 = .ok (.bipush 6, 2) := by decide +kernel
theorem dL_law_361 : decode cL_law 361 = .ok (.iastore, 1) := by decide +kernel
theorem dL_law_362 : decode cL_law 362 = .ok (.invokestatic 161, 3) := by decide +kernel
theorem dL_law_365 : decode cL_law 365 = .ok (.ldc 71, 2) := by decide +kernel
theorem dL_law_367 : decode cL_law 367 = .ok (.if_icmp .ne 560, 3) := by decide +kernel
theorem dL_law_370 : decode cL_law 370 = .ok (.aload_n 1, 1) := by decide +kernel
theorem dL_law_371 : decode cL_law 371 = .ok (.bipush 102, 2) := by decide +kernel
theorem dL_law_373 : decode cL_law 373 = .ok (.iconst 4, 1) := by decide +kernel
theorem dL_law_374 : decode cL_law 374 = .ok (.newarray .int, 2) := by decide +kernel
theorem dL_law_376 : decode cL_law 376 = .ok (.dup, 1) := by decide +kernel
theorem dL_law_377 : decode cL_law 377 = .ok (.iconst 0, 1) := by decide +kernel
theorem dL_law_378 : decode cL_law 378 = .ok (.iconst 0, 1) := by decide +kernel
theorem dL_law_379 : decode cL_law 379 = .ok (.iastore, 1) := by decide +kernel
theorem dL_law_380 : decode cL_law 380 = .ok (.dup, 1) := by decide +kernel
theorem dL_law_381 : decode cL_law 381 = .ok (.iconst 1, 1) := by decide +kernel
theorem dL_law_382 : decode cL_law 382 = .ok (.iconst 0, 1) := by decide +kernel
theorem dL_law_383 : decode cL_law 383 = .ok (.iastore, 1) := by decide +kernel
theorem dL_law_384 : decode cL_law 384 = .ok (.dup, 1) := by decide +kernel
theorem dL_law_385 : decode cL_law 385 = .ok (.iconst 2, 1) := by decide +kernel
theorem dL_law_386 : decode cL_law 386 = .ok (.iconst 0, 1) := by decide +kernel
theorem dL_law_387 : decode cL_law 387 = .ok (.iastore, 1) := by decide +kernel
theorem dL_law_388 : decode cL_law 388 = .ok (.dup, 1) := by decide +kernel
theorem dL_law_389 : decode cL_law 389 = .ok (.iconst 3, 1) := by decide +kernel
theorem dL_law_390 : decode cL_law 390 = .ok (.bipush 16, 2) := by decide +kernel
theorem dL_law_392 : decode cL_law 392 = .ok (.iastore, 1) := by decide +kernel
theorem dL_law_393 : decode cL_law 393 = .ok (.invokestatic 161, 3) := by decide +kernel
theorem dL_law_396 : decode cL_law 396 = .ok (.ldc 71, 2) := by decide +kernel
theorem dL_law_398 : decode cL_law 398 = .ok (.if_icmp .ne 529, 3) := by decide +kernel
theorem dL_law_401 : decode cL_law 401 = .ok (.aload_n 1, 1) := by decide +kernel
theorem dL_law_402 : decode cL_law 402 = .ok (.bipush 107, 2) := by decide +kernel
theorem dL_law_404 : decode cL_law 404 = .ok (.iconst 4, 1) := by decide +kernel
theorem dL_law_405 : decode cL_law 405 = .ok (.newarray .int, 2) := by decide +kernel
theorem dL_law_407 : decode cL_law 407 = .ok (.dup, 1) := by decide +kernel
theorem dL_law_408 : decode cL_law 408 = .ok (.iconst 0, 1) := by decide +kernel
theorem dL_law_409 : decode cL_law 409 = .ok (.iconst 0, 1) := by decide +kernel
theorem dL_law_410 : decode cL_law 410 = .ok (.iastore, 1) := by decide +kernel
theorem dL_law_411 : decode cL_law 411 = .ok (.dup, 1) := by decide +kernel
theorem dL_law_412 : decode cL_law 412 = .ok (.iconst 1, 1) := by decide +kernel
theorem dL_law_413 : decode cL_law 413 = .ok (.iconst 4, 1) := by decide +kernel
theorem dL_law_414 : decode cL_law 414 = .ok (.iastore, 1) := by decide +kernel
theorem dL_law_415 : decode cL_law 415 = .ok (.dup, 1) := by decide +kernel
theorem dL_law_416 : decode cL_law 416 = .ok (.iconst 2, 1) := by decide +kernel
theorem dL_law_417 : decode cL_law 417 = .ok (.iconst 0, 1) := by decide +kernel
theorem dL_law_418 : decode cL_law 418 = .ok (.iastore, 1) := by decide +kernel
theorem dL_law_419 : decode cL_law 419 = .ok (.dup, 1) := by decide +kernel
theorem dL_law_420 : decode cL_law 420 = .ok (.iconst 3, 1) := by decide +kernel
theorem dL_law_421 : decode cL_law 421 = .ok (.iconst 0, 1) := by decide +kernel
theorem dL_law_422 : decode cL_law 422 = .ok (.iastore, 1) := by decide +kernel
theorem dL_law_423 : decode cL_law 423 = .ok (.invokestatic 161, 3) := by decide +kernel
theorem dL_law_426 : decode cL_law 426 = .ok (.ldc 71, 2) := by decide +kernel
theorem dL_law_428 : decode cL_law 428 = .ok (.if_icmp .ne 499, 3) := by decide +kernel
theorem dL_law_431 : decode cL_law 431 = .ok (.aload_n 1, 1) := by decide +kernel
theorem dL_law_432 : decode cL_law 432 = .ok (.bipush 120, 2) := by decide +kernel
theorem dL_law_434 : decode cL_law 434 = .ok (.iconst 1, 1) := by decide +kernel
theorem dL_law_435 : decode cL_law 435 = .ok (.newarray .int, 2) := by decide +kernel
theorem dL_law_437 : decode cL_law 437 = .ok (.dup, 1) := by decide +kernel
theorem dL_law_438 : decode cL_law 438 = .ok (.iconst 0, 1) := by decide +kernel
theorem dL_law_439 : decode cL_law 439 = .ok (.iconst 3, 1) := by decide +kernel
theorem dL_law_440 : decode cL_law 440 = .ok (.iastore, 1) := by decide +kernel
theorem dL_law_441 : decode cL_law 441 = .ok (.invokestatic 161, 3) := by decide +kernel
theorem dL_law_444 : decode cL_law 444 = .ok (.ldc 71, 2) := by decide +kernel
theorem dL_law_446 : decode cL_law 446 = .ok (.if_icmp .ne 481, 3) := by decide +kernel
theorem dL_law_449 : decode cL_law 449 = .ok (.aload_n 1, 1) := by decide +kernel
theorem dL_law_450 : decode cL_law 450 = .ok (.bipush 110, 2) := by decide +kernel
theorem dL_law_452 : decode cL_law 452 = .ok (.iconst 1, 1) := by decide +kernel
theorem dL_law_453 : decode cL_law 453 = .ok (.newarray .int, 2) := by decide +kernel
theorem dL_law_455 : decode cL_law 455 = .ok (.dup, 1) := by decide +kernel
theorem dL_law_456 : decode cL_law 456 = .ok (.iconst 0, 1) := by decide +kernel
theorem dL_law_457 : decode cL_law 457 = .ok (.iconst 3, 1) := by decide +kernel
theorem dL_law_458 : decode cL_law 458 = .ok (.iastore, 1) := by decide +kernel
theorem dL_law_459 : decode cL_law 459 = .ok (.invokestatic 161, 3) := by decide +kernel
theorem dL_law_462 : decode cL_law 462 = .ok (.ldc 71, 2) := by decide +kernel
theorem dL_law_464 : decode cL_law 464 = .ok (.if_icmp .ne 463, 3) := by decide +kernel
theorem dL_law_467 : decode cL_law 467 = .ok (.aload_n 1, 1) := by decide +kernel
theorem dL_law_468 : decode cL_law 468 = .ok (.bipush 115, 2) := by decide +kernel
theorem dL_law_470 : decode cL_law 470 = .ok (.iconst 1, 1) := by decide +kernel
theorem dL_law_471 : decode cL_law 471 = .ok (.newarray .int, 2) := by decide +kernel
theorem dL_law_473 : decode cL_law 473 = .ok (.dup, 1) := by decide +kernel
theorem dL_law_474 : decode cL_law 474 = .ok (.iconst 0, 1) := by decide +kernel
theorem dL_law_475 : decode cL_law 475 = .ok (.iconst 3, 1) := by decide +kernel
theorem dL_law_476 : decode cL_law 476 = .ok (.iastore, 1) := by decide +kernel
theorem dL_law_477 : decode cL_law 477 = .ok (.invokestatic 161, 3) := by decide +kernel
theorem dL_law_480 : decode cL_law 480 = .ok (.ldc 71, 2) := by decide +kernel
theorem dL_law_482 : decode cL_law 482 = .ok (.if_icmp .ne 445, 3) := by decide +kernel
theorem dL_law_485 : decode cL_law 485 = .ok (.aload_n 1, 1) := by decide +kernel
theorem dL_law_486 : decode cL_law 486 = .ok (.bipush 104, 2) := by decide +kernel
theorem dL_law_488 : decode cL_law 488 = .ok (.iconst 1, 1) := by decide +kernel
theorem dL_law_489 : decode cL_law 489 = .ok (.newarray .int, 2) := by decide +kernel
theorem dL_law_491 : decode cL_law 491 = .ok (.dup, 1) := by decide +kernel
theorem dL_law_492 : decode cL_law 492 = .ok (.iconst 0, 1) := by decide +kernel
theorem dL_law_493 : decode cL_law 493 = .ok (.iconst 3, 1) := by decide +kernel
theorem dL_law_494 : decode cL_law 494 = .ok (.iastore, 1) := by decide +kernel
theorem dL_law_495 : decode cL_law 495 = .ok (.invokestatic 161, 3) := by decide +kernel
theorem dL_law_498 : decode cL_law 498 = .ok (.ldc 71, 2) := by decide +kernel
theorem dL_law_500 : decode cL_law 500 = .ok (.if_icmp .ne 427, 3) := by decide +kernel
theorem dL_law_503 : decode cL_law 503 = .ok (.aload_n 1, 1) := by decide +kernel
theorem dL_law_504 : decode cL_law 504 = .ok (.bipush 116, 2) := by decide +kernel
theorem dL_law_506 : decode cL_law 506 = .ok (.iconst 1, 1) := by decide +kernel
theorem dL_law_507 : decode cL_law 507 = .ok (.newarray .int, 2) := by decide +kernel
theorem dL_law_509 : decode cL_law 509 = .ok (.dup, 1) := by decide +kernel
theorem dL_law_510 : decode cL_law 510 = .ok (.iconst 0, 1) := by decide +kernel
theorem dL_law_511 : decode cL_law 511 = .ok (.iconst 3, 1) := by decide +kernel
theorem dL_law_512 : decode cL_law 512 = .ok (.iastore, 1) := by decide +kernel
theorem dL_law_513 : decode cL_law 513 = .ok (.invokestatic 161, 3) := by decide +kernel
theorem dL_law_516 : decode cL_law 516 = .ok (.ldc 71, 2) := by decide +kernel
theorem dL_law_518 : decode cL_law 518 = .ok (.if_icmp .ne 409, 3) := by decide +kernel
theorem dL_law_521 : decode cL_law 521 = .ok (.aload_n 1, 1) := by decide +kernel
theorem dL_law_522 : decode cL_law 522 = .ok (.bipush 116, 2) := by decide +kernel
theorem dL_law_524 : decode cL_law 524 = .ok (.iconst 1, 1) := by decide +kernel
theorem dL_law_525 : decode cL_law 525 = .ok (.newarray .int, 2) := by decide +kernel
theorem dL_law_527 : decode cL_law 527 = .ok (.dup, 1) := by decide +kernel
theorem dL_law_528 : decode cL_law 528 = .ok (.iconst 0, 1) := by decide +kernel
theorem dL_law_529 : decode cL_law 529 = .ok (.iconst 0, 1) := by decide +kernel
theorem dL_law_530 : decode cL_law 530 = .ok (.iastore, 1) := by decide +kernel
theorem dL_law_531 : decode cL_law 531 = .ok (.invokestatic 161, 3) := by decide +kernel
theorem dL_law_534 : decode cL_law 534 = .ok (.ldc 80, 2) := by decide +kernel
theorem dL_law_536 : decode cL_law 536 = .ok (.if_icmp .ne 391, 3) := by decide +kernel
theorem dL_law_539 : decode cL_law 539 = .ok (.aload_n 1, 1) := by decide +kernel
theorem dL_law_540 : decode cL_law 540 = .ok (.bipush 98, 2) := by decide +kernel
theorem dL_law_542 : decode cL_law 542 = .ok (.iconst 1, 1) := by decide +kernel
theorem dL_law_543 : decode cL_law 543 = .ok (.newarray .int, 2) := by decide +kernel
theorem dL_law_545 : decode cL_law 545 = .ok (.dup, 1) := by decide +kernel
theorem dL_law_546 : decode cL_law 546 = .ok (.iconst 0, 1) := by decide +kernel
theorem dL_law_547 : decode cL_law 547 = .ok (.iconst 0, 1) := by decide +kernel
theorem dL_law_548 : decode cL_law 548 = .ok (.iastore, 1) := by decide +kernel
theorem dL_law_549 : decode cL_law 549 = .ok (.invokestatic 161, 3) := by decide +kernel
theorem dL_law_552 : decode cL_law 552 = .ok (.ldc 80, 2) := by decide +kernel
theorem dL_law_554 : decode cL_law 554 = .ok (.if_icmp .ne 373, 3) := by decide +kernel
theorem dL_law_557 : decode cL_law 557 = .ok (.aload_n 1, 1) := by decide +kernel
theorem dL_law_558 : decode cL_law 558 = .ok (.bipush 109, 2) := by decide +kernel
theorem dL_law_560 : decode cL_law 560 = .ok (.iconst 1, 1) := by decide +kernel
theorem dL_law_561 : decode cL_law 561 = .ok (.newarray .int, 2) := by decide +kernel
theorem dL_law_563 : decode cL_law 563 = .ok (.dup, 1) := by decide +kernel
theorem dL_law_564 : decode cL_law 564 = .ok (.iconst 0, 1) := by decide +kernel
theorem dL_law_565 : decode cL_law 565 = .ok (.iconst 3, 1) := by decide +kernel
theorem dL_law_566 : decode cL_law 566 = .ok (.iastore, 1) := by decide +kernel
theorem dL_law_567 : decode cL_law 567 = .ok (.invokestatic 161, 3) := by decide +kernel
theorem dL_law_570 : decode cL_law 570 = .ok (.ldc 71, 2) := by decide +kernel
theorem dL_law_572 : decode cL_law 572 = .ok (.if_icmp .ne 355, 3) := by decide +kernel
theorem dL_law_575 : decode cL_law 575 = .ok (.aload_n 1, 1) := by decide +kernel
theorem dL_law_576 : decode cL_law 576 = .ok (.bipush 118, 2) := by decide +kernel
theorem dL_law_578 : decode cL_law 578 = .ok (.iconst 1, 1) := by decide +kernel
theorem dL_law_579 : decode cL_law 579 = .ok (.newarray .int, 2) := by decide +kernel
theorem dL_law_581 : decode cL_law 581 = .ok (.dup, 1) := by decide +kernel
theorem dL_law_582 : decode cL_law 582 = .ok (.iconst 0, 1) := by decide +kernel
theorem dL_law_583 : decode cL_law 583 = .ok (.iconst 3, 1) := by decide +kernel
theorem dL_law_584 : decode cL_law 584 = .ok (.iastore, 1) := by decide +kernel
theorem dL_law_585 : decode cL_law 585 = .ok (.invokestatic 161, 3) := by decide +kernel
theorem dL_law_588 : decode cL_law 588 = .ok (.ldc 71, 2) := by decide +kernel
theorem dL_law_590 : decode cL_law 590 = .ok (.if_icmp .ne 337, 3) := by decide +kernel
theorem dL_law_593 : decode cL_law 593 = .ok (.aload_n 1, 1) := by decide +kernel
theorem dL_law_594 : decode cL_law 594 = .ok (.bipush 114, 2) := by decide +kernel
theorem dL_law_596 : decode cL_law 596 = .ok (.iconst 4, 1) := by decide +kernel
theorem dL_law_597 : decode cL_law 597 = .ok (.newarray .int, 2) := by decide +kernel
theorem dL_law_599 : decode cL_law 599 = .ok (.dup, 1) := by decide +kernel
theorem dL_law_600 : decode cL_law 600 = .ok (.iconst 0, 1) := by decide +kernel
theorem dL_law_601 : decode cL_law 601 = .ok (.iconst 4, 1) := by decide +kernel
theorem dL_law_602 : decode cL_law 602 = .ok (.iastore, 1) := by decide +kernel
theorem dL_law_603 : decode cL_law 603 = .ok (.dup, 1) := by decide +kernel
theorem dL_law_604 : decode cL_law 604 = .ok (.iconst 1, 1) := by decide +kernel
theorem dL_law_605 : decode cL_law 605 = .ok (.iconst 0, 1) := by decide +kernel
theorem dL_law_606 : decode cL_law 606 = .ok (.iastore, 1) := by decide +kernel
theorem dL_law_607 : decode cL_law 607 = .ok (.dup, 1) := by decide +kernel
theorem dL_law_608 : decode cL_law 608 = .ok (.iconst 2, 1) := by decide +kernel
theorem dL_law_609 : decode cL_law 609 = .ok (.iconst 0, 1) := by decide +kernel
theorem dL_law_610 : decode cL_law 610 = .ok (.iastore, 1) := by decide +kernel
theorem dL_law_611 : decode cL_law 611 = .ok (.dup, 1) := by decide +kernel
theorem dL_law_612 : decode cL_law 612 = .ok (.iconst 3, 1) := by decide +kernel
theorem dL_law_613 : decode cL_law 613 = .ok (.iconst 0, 1) := by decide +kernel
theorem dL_law_614 : decode cL_law 614 = .ok (.iastore, 1) := by decide +kernel
theorem dL_law_615 : decode cL_law 615 = .ok (.invokestatic 161, 3) := by decide +kernel
theorem dL_law_618 : decode cL_law 618 = .ok (.ldc 71, 2) := by decide +kernel
theorem dL_law_620 : decode cL_law 620 = .ok (.if_icmp .ne 307, 3) := by decide +kernel
theorem dL_law_623 : decode cL_law 623 = .ok (.aload_n 1, 1) := by decide +kernel
theorem dL_law_624 : decode cL_law 624 = .ok (.bipush 114, 2) := by decide +kernel
theorem dL_law_626 : decode cL_law 626 = .ok (.iconst 4, 1) := by decide +kernel
theorem dL_law_627 : decode cL_law 627 = .ok (.newarray .int, 2) := by decide +kernel
theorem dL_law_629 : decode cL_law 629 = .ok (.dup, 1) := by decide +kernel
theorem dL_law_630 : decode cL_law 630 = .ok (.iconst 0, 1) := by decide +kernel
theorem dL_law_631 : decode cL_law 631 = .ok (.iconst 0, 1) := by decide +kernel
theorem dL_law_632 : decode cL_law 632 = .ok (.iastore, 1) := by decide +kernel
theorem dL_law_633 : decode cL_law 633 = .ok (.dup, 1) := by decide +kernel
theorem dL_law_634 : decode cL_law 634 = .ok (.iconst 1, 1) := by decide +kernel
theorem dL_law_635 : decode cL_law 635 = .ok (.iconst 0, 1) := by decide +kernel
theorem dL_law_636 : decode cL_law 636 = .ok (.iastore, 1) := by decide +kernel
theorem dL_law_637 : decode cL_law 637 = .ok (.dup, 1) := by decide +kernel
theorem dL_law_638 : decode cL_law 638 = .ok (.iconst 2, 1) := by decide +kernel
theorem dL_law_639 : decode cL_law 639 = .ok (.iconst 0, 1) := by decide +kernel
theorem dL_law_640 : decode cL_law 640 = .ok (.iastore, 1) := by decide +kernel
theorem dL_law_641 : decode cL_law 641 = .ok (.dup, 1) := by decide +kernel
theorem dL_law_642 : decode cL_law 642 = .ok (.iconst 3, 1) := by decide +kernel
theorem dL_law_643 : decode cL_law 643 = .ok (.ldc 165, 2) := by decide +kernel
theorem dL_law_645 : decode cL_law 645 = .ok (.iastore, 1) := by decide +kernel
theorem dL_law_646 : decode cL_law 646 = .ok (.invokestatic 161, 3) := by decide +kernel
theorem dL_law_649 : decode cL_law 649 = .ok (.ldc 74, 2) := by decide +kernel
theorem dL_law_651 : decode cL_law 651 = .ok (.if_icmp .ne 276, 3) := by decide +kernel
theorem dL_law_654 : decode cL_law 654 = .ok (.aload_n 1, 1) := by decide +kernel
theorem dL_law_655 : decode cL_law 655 = .ok (.bipush 108, 2) := by decide +kernel
theorem dL_law_657 : decode cL_law 657 = .ok (.iconst 2, 1) := by decide +kernel
theorem dL_law_658 : decode cL_law 658 = .ok (.newarray .int, 2) := by decide +kernel
theorem dL_law_660 : decode cL_law 660 = .ok (.dup, 1) := by decide +kernel
theorem dL_law_661 : decode cL_law 661 = .ok (.iconst 0, 1) := by decide +kernel
theorem dL_law_662 : decode cL_law 662 = .ok (.iconst 0, 1) := by decide +kernel
theorem dL_law_663 : decode cL_law 663 = .ok (.iastore, 1) := by decide +kernel
theorem dL_law_664 : decode cL_law 664 = .ok (.dup, 1) := by decide +kernel
theorem dL_law_665 : decode cL_law 665 = .ok (.iconst 1, 1) := by decide +kernel
theorem dL_law_666 : decode cL_law 666 = .ok (.iconst (-1), 1) := by decide +kernel
theorem dL_law_667 : decode cL_law 667 = .ok (.iastore, 1) := by decide +kernel
theorem dL_law_668 : decode cL_law 668 = .ok (.invokestatic 161, 3) := by decide +kernel
theorem dL_law_671 : decode cL_law 671 = .ok (.ldc 74, 2) := by decide +kernel
theorem dL_law_673 : decode cL_law 673 = .ok (.if_icmp .ne 254, 3) := by decide +kernel
theorem dL_law_676 : decode cL_law 676 = .ok (.aload_n 1, 1) := by decide +kernel
theorem dL_law_677 : decode cL_law 677 = .ok (.bipush 97, 2) := by decide +kernel
theorem dL_law_679 : decode cL_law 679 = .ok (.iconst 1, 1) := by decide +kernel
theorem dL_law_680 : decode cL_law 680 = .ok (.newarray .int, 2) := by decide +kernel
theorem dL_law_682 : decode cL_law 682 = .ok (.dup, 1) := by decide +kernel
theorem dL_law_683 : decode cL_law 683 = .ok (.iconst 0, 1) := by decide +kernel
theorem dL_law_684 : decode cL_law 684 = .ok (.iconst 4, 1) := by decide +kernel
theorem dL_law_685 : decode cL_law 685 = .ok (.iastore, 1) := by decide +kernel
theorem dL_law_686 : decode cL_law 686 = .ok (.invokestatic 161, 3) := by decide +kernel
theorem dL_law_689 : decode cL_law 689 = .ok (.ldc 71, 2) := by decide +kernel
theorem dL_law_691 : decode cL_law 691 = .ok (.if_icmp .ne 236, 3) := by decide +kernel
theorem dL_law_694 : decode cL_law 694 = .ok (.aload_n 1, 1) := by decide +kernel
theorem dL_law_695 : decode cL_law 695 = .ok (.bipush 105, 2) := by decide +kernel
theorem dL_law_697 : decode cL_law 697 = .ok (.iconst 3, 1) := by decide +kernel
theorem dL_law_698 : decode cL_law 698 = .ok (.newarray .int, 2) := by decide +kernel
theorem dL_law_700 : decode cL_law 700 = .ok (.dup, 1) := by decide +kernel
theorem dL_law_701 : decode cL_law 701 = .ok (.iconst 0, 1) := by decide +kernel
theorem dL_law_702 : decode cL_law 702 = .ok (.iconst 0, 1) := by decide +kernel
theorem dL_law_703 : decode cL_law 703 = .ok (.iastore, 1) := by decide +kernel
theorem dL_law_704 : decode cL_law 704 = .ok (.dup, 1) := by decide +kernel
theorem dL_law_705 : decode cL_law 705 = .ok (.iconst 1, 1) := by decide +kernel
theorem dL_law_706 : decode cL_law 706 = .ok (.iconst 0, 1) := by decide +kernel
theorem dL_law_707 : decode cL_law 707 = .ok (.iastore, 1) := by decide +kernel
theorem dL_law_708 : decode cL_law 708 = .ok (.dup, 1) := by decide +kernel
theorem dL_law_709 : decode cL_law 709 = .ok (.iconst 2, 1) := by decide +kernel
theorem dL_law_710 : decode cL_law 710 = .ok (.iconst 0, 1) := by decide +kernel
theorem dL_law_711 : decode cL_law 711 = .ok (.iastore, 1) := by decide +kernel
theorem dL_law_712 : decode cL_law 712 = .ok (.invokestatic 161, 3) := by decide +kernel
theorem dL_law_715 : decode cL_law 715 = .ok (.ldc 74, 2) := by decide +kernel
theorem dL_law_717 : decode cL_law 717 = .ok (.if_icmp .ne 210, 3) := by decide +kernel
theorem dL_law_720 : decode cL_law 720 = .ok (.aload_n 1, 1) := by decide +kernel
theorem dL_law_721 : decode cL_law 721 = .ok (.bipush 105, 2) := by decide +kernel
theorem dL_law_723 : decode cL_law 723 = .ok (.iconst 3, 1) := by decide +kernel
theorem dL_law_724 : decode cL_law 724 = .ok (.newarray .int, 2) := by decide +kernel
theorem dL_law_726 : decode cL_law 726 = .ok (.dup, 1) := by decide +kernel
theorem dL_law_727 : decode cL_law 727 = .ok (.iconst 0, 1) := by decide +kernel
theorem dL_law_728 : decode cL_law 728 = .ok (.iconst 0, 1) := by decide +kernel
theorem dL_law_729 : decode cL_law 729 = .ok (.iastore, 1) := by decide +kernel
theorem dL_law_730 : decode cL_law 730 = .ok (.dup, 1) := by decide +kernel
theorem dL_law_731 : decode cL_law 731 = .ok (.iconst 1, 1) := by decide +kernel
theorem dL_law_732 : decode cL_law 732 = .ok (.iconst 3, 1) := by decide +kernel
theorem dL_law_733 : decode cL_law 733 = .ok (.iastore, 1) := by decide +kernel
theorem dL_law_734 : decode cL_law 734 = .ok (.dup, 1) := by decide +kernel
theorem dL_law_735 : decode cL_law 735 = .ok (.iconst 2, 1) := by decide +kernel
theorem dL_law_736 : decode cL_law 736 = .ok (.iconst 0, 1) := by decide +kernel
theorem dL_law_737 : decode cL_law 737 = .ok (.iastore, 1) := by decide +kernel
theorem dL_law_738 : decode cL_law 738 = .ok (.invokestatic 161, 3) := by decide +kernel
theorem dL_law_741 : decode cL_law 741 = .ok (.ldc 71, 2) := by decide +kernel
theorem dL_law_743 : decode cL_law 743 = .ok (.if_icmp .ne 184, 3) := by decide +kernel
theorem dL_law_746 : decode cL_law 746 = .ok (.aload_n 1, 1) := by decide +kernel
theorem dL_law_747 : decode cL_law 747 = .ok (.bipush 75, 2) := by decide +kernel
theorem dL_law_749 : decode cL_law 749 = .ok (.iconst 1, 1) := by decide +kernel
theorem dL_law_750 : decode cL_law 750 = .ok (.newarray .int, 2) := by decide +kernel
theorem dL_law_752 : decode cL_law 752 = .ok (.dup, 1) := by decide +kernel
theorem dL_law_753 : decode cL_law 753 = .ok (.iconst 0, 1) := by decide +kernel
theorem dL_law_754 : decode cL_law 754 = .ok (.iconst 3, 1) := by decide +kernel
theorem dL_law_755 : decode cL_law 755 = .ok (.iastore, 1) := by decide +kernel
theorem dL_law_756 : decode cL_law 756 = .ok (.invokestatic 161, 3) := by decide +kernel
theorem dL_law_759 : decode cL_law 759 = .ok (.ldc 71, 2) := by decide +kernel
theorem dL_law_761 : decode cL_law 761 = .ok (.if_icmp .ne 166, 3) := by decide +kernel
theorem dL_law_764 : decode cL_law 764 = .ok (.aload_n 1, 1) := by decide +kernel
theorem dL_law_765 : decode cL_law 765 = .ok (.bipush 86, 2) := by decide +kernel
theorem dL_law_767 : decode cL_law 767 = .ok (.iconst 2, 1) := by decide +kernel
theorem dL_law_768 : decode cL_law 768 = .ok (.newarray .int, 2) := by decide +kernel
theorem dL_law_770 : decode cL_law 770 = .ok (.dup, 1) := by decide +kernel
theorem dL_law_771 : decode cL_law 771 = .ok (.iconst 0, 1) := by decide +kernel
theorem dL_law_772 : decode cL_law 772 = .ok (.iconst 3, 1) := by decide +kernel
theorem dL_law_773 : decode cL_law 773 = .ok (.iastore, 1) := by decide +kernel
theorem dL_law_774 : decode cL_law 774 = .ok (.dup, 1) := by decide +kernel
theorem dL_law_775 : decode cL_law 775 = .ok (.iconst 1, 1) := by decide +kernel
theorem dL_law_776 : decode cL_law 776 = .ok (.iconst 0, 1) := by decide +kernel
theorem dL_law_777 : decode cL_law 777 = .ok (.iastore, 1) := by decide +kernel
theorem dL_law_778 : decode cL_law 778 = .ok (.invokestatic 161, 3) := by decide +kernel
theorem dL_law_781 : decode cL_law 781 = .ok (.ldc 71, 2) := by decide +kernel
theorem dL_law_783 : decode cL_law 783 = .ok (.if_icmp .ne 144, 3) := by decide +kernel
theorem dL_law_786 : decode cL_law 786 = .ok (.aload_n 1, 1) := by decide +kernel
theorem dL_law_787 : decode cL_law 787 = .ok (.bipush 76, 2) := by decide +kernel
theorem dL_law_789 : decode cL_law 789 = .ok (.iconst 1, 1) := by decide +kernel
theorem dL_law_790 : decode cL_law 790 = .ok (.newarray .int, 2) := by decide +kernel
theorem dL_law_792 : decode cL_law 792 = .ok (.dup, 1) := by decide +kernel
theorem dL_law_793 : decode cL_law 793 = .ok (.iconst 0, 1) := by decide +kernel
theorem dL_law_794 : decode cL_law 794 = .ok (.iconst 0, 1) := by decide +kernel
theorem dL_law_795 : decode cL_law 795 = .ok (.iastore, 1) := by decide +kernel
theorem dL_law_796 : decode cL_law 796 = .ok (.invokestatic 161, 3) := by decide +kernel
theorem dL_law_799 : decode cL_law 799 = .ok (.ldc 83, 2) := by decide +kernel
theorem dL_law_801 : decode cL_law 801 = .ok (.if_icmp .ne 126, 3) := by decide +kernel
theorem dL_law_804 : decode cL_law 804 = .ok (.aload_n 1, 1) := by decide +kernel
theorem dL_law_805 : decode cL_law 805 = .ok (.bipush 70, 2) := by decide +kernel
theorem dL_law_807 : decode cL_law 807 = .ok (.iconst 3, 1) := by decide +kernel
theorem dL_law_808 : decode cL_law 808 = .ok (.newarray .int, 2) := by decide +kernel
theorem dL_law_810 : decode cL_law 810 = .ok (.dup, 1) := by decide +kernel
theorem dL_law_811 : decode cL_law 811 = .ok (.iconst 0, 1) := by decide +kernel
theorem dL_law_812 : decode cL_law 812 = .ok (.iconst 0, 1) := by decide +kernel
theorem dL_law_813 : decode cL_law 813 = .ok (.iastore, 1) := by decide +kernel
theorem dL_law_814 : decode cL_law 814 = .ok (.dup, 1) := by decide +kernel
theorem dL_law_815 : decode cL_law 815 = .ok (.iconst 1, 1) := by decide +kernel
theorem dL_law_816 : decode cL_law 816 = .ok (.iconst 3, 1) := by decide +kernel
theorem dL_law_817 : decode cL_law 817 = .ok (.iastore, 1) := by decide +kernel
theorem dL_law_818 : decode cL_law 818 = .ok (.dup, 1) := by decide +kernel
theorem dL_law_819 : decode cL_law 819 = .ok (.iconst 2, 1) := by decide +kernel
theorem dL_law_820 : decode cL_law 820 = .ok (.iconst 0, 1) := by decide +kernel
theorem dL_law_821 : decode cL_law 821 = .ok (.iastore, 1) := by decide +kernel
theorem dL_law_822 : decode cL_law 822 = .ok (.invokestatic 161, 3) := by decide +kernel
theorem dL_law_825 : decode cL_law 825 = .ok (.ldc 71, 2) := by decide +kernel
theorem dL_law_827 : decode cL_law 827 = .ok (.if_icmp .ne 100, 3) := by decide +kernel
theorem dL_law_830 : decode cL_law 830 = .ok (.aload_n 1, 1) := by decide +kernel
theorem dL_law_831 : decode cL_law 831 = .ok (.bipush 80, 2) := by decide +kernel
theorem dL_law_833 : decode cL_law 833 = .ok (.iconst 1, 1) := by decide +kernel
theorem dL_law_834 : decode cL_law 834 = .ok (.newarray .int, 2) := by decide +kernel
theorem dL_law_836 : decode cL_law 836 = .ok (.dup, 1) := by decide +kernel
theorem dL_law_837 : decode cL_law 837 = .ok (.iconst 0, 1) := by decide +kernel
theorem dL_law_838 : decode cL_law 838 = .ok (.iconst 4, 1) := by decide +kernel
theorem dL_law_839 : decode cL_law 839 = .ok (.iastore, 1) := by decide +kernel
theorem dL_law_840 : decode cL_law 840 = .ok (.invokestatic 161, 3) := by decide +kernel
theorem dL_law_843 : decode cL_law 843 = .ok (.ldc 71, 2) := by decide +kernel
theorem dL_law_845 : decode cL_law 845 = .ok (.if_icmp .ne 82, 3) := by decide +kernel
theorem dL_law_848 : decode cL_law 848 = .ok (.aload_n 1, 1) := by decide +kernel
theorem dL_law_849 : decode cL_law 849 = .ok (.bipush 103, 2) := by decide +kernel
theorem dL_law_851 : decode cL_law 851 = .ok (.iconst 1, 1) := by decide +kernel
theorem dL_law_852 : decode cL_law 852 = .ok (.newarray .int, 2) := by decide +kernel
theorem dL_law_854 : decode cL_law 854 = .ok (.dup, 1) := by decide +kernel
theorem dL_law_855 : decode cL_law 855 = .ok (.iconst 0, 1) := by decide +kernel
theorem dL_law_856 : decode cL_law 856 = .ok (.iconst 4, 1) := by decide +kernel
theorem dL_law_857 : decode cL_law 857 = .ok (.iastore, 1) := by decide +kernel
theorem dL_law_858 : decode cL_law 858 = .ok (.invokestatic 161, 3) := by decide +kernel
theorem dL_law_861 : decode cL_law 861 = .ok (.ldc 71, 2) := by decide +kernel
theorem dL_law_863 : decode cL_law 863 = .ok (.if_icmp .ne 64, 3) := by decide +kernel
theorem dL_law_866 : decode cL_law 866 = .ok (.aload_n 1, 1) := by decide +kernel
theorem dL_law_867 : decode cL_law 867 = .ok (.bipush 65, 2) := by decide +kernel
theorem dL_law_869 : decode cL_law 869 = .ok (.iconst 1, 1) := by decide +kernel
theorem dL_law_870 : decode cL_law 870 = .ok (.newarray .int, 2) := by decide +kernel
theorem dL_law_872 : decode cL_law 872 = .ok (.dup, 1) := by decide +kernel
theorem dL_law_873 : decode cL_law 873 = .ok (.iconst 0, 1) := by decide +kernel
theorem dL_law_874 : decode cL_law 874 = .ok (.bipush 120, 2) := by decide +kernel
theorem dL_law_876 : decode cL_law 876 = .ok (.iastore, 1) := by decide +kernel
theorem dL_law_877 : decode cL_law 877 = .ok (.invokestatic 161, 3) := by decide +kernel
theorem dL_law_880 : decode cL_law 880 = .ok (.ldc 74, 2) := by decide +kernel
theorem dL_law_882 : decode cL_law 882 = .ok (.if_icmp .ne 45, 3) := by decide +kernel
theorem dL_law_885 : decode cL_law 885 = .ok (.aload_n 1, 1) := by decide +kernel
theorem dL_law_886 : decode cL_law 886 = .ok (.bipush 71, 2) := by decide +kernel
theorem dL_law_888 : decode cL_law 888 = .ok (.iconst 1, 1) := by decide +kernel
theorem dL_law_889 : decode cL_law 889 = .ok (.newarray .int, 2) := by decide +kernel
theorem dL_law_891 : decode cL_law 891 = .ok (.dup, 1) := by decide +kernel
theorem dL_law_892 : decode cL_law 892 = .ok (.iconst 0, 1) := by decide +kernel
theorem dL_law_893 : decode cL_law 893 = .ok (.bipush 97, 2) := by decide +kernel
theorem dL_law_895 : decode cL_law 895 = .ok (.iastore, 1) := by decide +kernel
theorem dL_law_896 : decode cL_law 896 = .ok (.invokestatic 161, 3) := by decide +kernel
theorem dL_law_899 : decode cL_law 899 = .ok (.ldc 80, 2) := by decide +kernel
theorem dL_law_901 : decode cL_law 901 = .ok (.if_icmp .ne 26, 3) := by decide +kernel
theorem dL_law_904 : decode cL_law 904 = .ok (.aload_n 1, 1) := by decide +kernel
theorem dL_law_905 : decode cL_law 905 = .ok (.bipush 78, 2) := by decide +kernel
theorem dL_law_907 : decode cL_law 907 = .ok (.iconst 2, 1) := by decide +kernel
theorem dL_law_908 : decode cL_law 908 = .ok (.newarray .int, 2) := by decide +kernel
theorem dL_law_910 : decode cL_law 910 = .ok (.dup, 1) := by decide +kernel
theorem dL_law_911 : decode cL_law 911 = .ok (.iconst 0, 1) := by decide +kernel
theorem dL_law_912 : decode cL_law 912 = .ok (.iconst 0, 1) := by decide +kernel
theorem dL_law_913 : decode cL_law 913 = .ok (.iastore, 1) := by decide +kernel
theorem dL_law_914 : decode cL_law 914 = .ok (.dup, 1) := by decide +kernel
theorem dL_law_915 : decode cL_law 915 = .ok (.iconst 1, 1) := by decide +kernel
theorem dL_law_916 : decode cL_law 916 = .ok (.bipush 116, 2) := by decide +kernel
theorem dL_law_918 : decode cL_law 918 = .ok (.iastore, 1) := by decide +kernel
theorem dL_law_919 : decode cL_law 919 = .ok (.invokestatic 161, 3) := by decide +kernel
theorem dL_law_922 : decode cL_law 922 = .ok (.ldc 83, 2) := by decide +kernel
theorem dL_law_924 : decode cL_law 924 = .ok (.if_icmp .eq 5, 3) := by decide +kernel
theorem dL_law_927 : decode cL_law 927 = .ok (.iconst 0, 1) := by decide +kernel
theorem dL_law_928 : decode cL_law 928 = .ok (.ireturn, 1) := by decide +kernel
theorem dL_law_929 : decode cL_law 929 = .ok (.aload_n 0, 1) := by decide +kernel
theorem dL_law_930 : decode cL_law 930 = .ok (.invokestatic 166, 3) := by decide +kernel
theorem dL_law_933 : decode cL_law 933 = .ok (.ifCond .eq 21, 3) := by decide +kernel
theorem dL_law_936 : decode cL_law 936 = .ok (.aload_n 0, 1) := by decide +kernel
theorem dL_law_937 : decode cL_law 937 = .ok (.invokestatic 170, 3) := by decide +kernel
theorem dL_law_940 : decode cL_law 940 = .ok (.ifCond .eq 14, 3) := by decide +kernel
theorem dL_law_943 : decode cL_law 943 = .ok (.aload_n 0, 1) := by decide +kernel
theorem dL_law_944 : decode cL_law 944 = .ok (.invokestatic 173, 3) := by decide +kernel
theorem dL_law_947 : decode cL_law 947 = .ok (.ifCond .eq 7, 3) := by decide +kernel
theorem dL_law_950 : decode cL_law 950 = .ok (.iconst 1, 1) := by decide +kernel
theorem dL_law_951 : decode cL_law 951 = .ok (.goto 4, 3) := by decide +kernel
theorem dL_law_954 : decode cL_law 954 = .ok (.iconst 0, 1) := by decide +kernel
theorem dL_law_955 : decode cL_law 955 = .ok (.ireturn, 1) := by decide +kernel
theorem dL_flips_0 : decode cL_flips 0 = .ok (.new 8, 3) := by decide +kernel
theorem dL_flips_3 : decode cL_flips 3 = .ok (.dup, 1) := by decide +kernel
theorem dL_flips_4 : decode cL_flips 4 = .ok (.invokespecial 138, 3) := by decide +kernel
theorem dL_flips_7 : decode cL_flips 7 = .ok (.astore_n 1, 1) := by decide +kernel
theorem dL_flips_8 : decode cL_flips 8 = .ok (.iconst 3, 1) := by decide +kernel
theorem dL_flips_9 : decode cL_flips 9 = .ok (.bipush 18, 2) := by decide +kernel
theorem dL_flips_11 : decode cL_flips 11 = .ok (.multianewarray 176 2, 4) := by decide +kernel
theorem dL_flips_15 : decode cL_flips 15 = .ok (.astore_n 2, 1) := by decide +kernel
theorem dL_flips_16 : decode cL_flips 16 = .ok (.iconst 3, 1) := by decide +kernel
theorem dL_flips_17 : decode cL_flips 17 = .ok (.newarray .int, 2) := by decide +kernel
theorem dL_flips_19 : decode cL_flips 19 = .ok (.astore_n 3, 1) := by decide +kernel
theorem dL_flips_20 : decode cL_flips 20 = .ok (.iconst 3, 1) := by decide +kernel
theorem dL_flips_21 : decode cL_flips 21 = .ok (.newarray .boolean, 2) := by decide +kernel
theorem dL_flips_23 : decode cL_flips 23 = .ok (.astore 4, 2) := by decide +kernel
theorem dL_flips_25 : decode cL_flips 25 = .ok (.iconst 0, 1) := by decide +kernel
theorem dL_flips_26 : decode cL_flips 26 = .ok (.istore 5, 2) := by decide +kernel
theorem dL_flips_28 : decode cL_flips 28 = .ok (.iconst 0, 1) := by decide +kernel
theorem dL_flips_29 : decode cL_flips 29 = .ok (.istore 6, 2) := by decide +kernel
theorem dL_flips_31 : decode cL_flips 31 = .ok (.iload 6, 2) := by decide +kernel
theorem dL_flips_33 : decode cL_flips 33 = .ok (.bipush 50, 2) := by decide +kernel
theorem dL_flips_35 : decode cL_flips 35 = .ok (.if_icmp .ge 353, 3) := by decide +kernel
theorem dL_flips_38 : decode cL_flips 38 = .ok (.aload_n 0, 1) := by decide +kernel
theorem dL_flips_39 : decode cL_flips 39 = .ok (.iload 6, 2) := by decide +kernel
theorem dL_flips_41 : decode cL_flips 41 = .ok (.invokestatic 178, 3) := by decide +kernel
theorem dL_flips_44 : decode cL_flips 44 = .ok (.ldc 182, 2) := by decide +kernel
theorem dL_flips_46 : decode cL_flips 46 = .ok (.invokestatic 183, 3) := by decide +kernel
theorem dL_flips_49 : decode cL_flips 49 = .ok (.istore 7, 2) := by decide +kernel
theorem dL_flips_51 : decode cL_flips 51 = .ok (.iload 7, 2) := by decide +kernel
theorem dL_flips_53 : decode cL_flips 53 = .ok (.iconst 3, 1) := by decide +kernel
theorem dL_flips_54 : decode cL_flips 54 = .ok (.idiv, 1) := by decide +kernel
theorem dL_flips_55 : decode cL_flips 55 = .ok (.iconst 3, 1) := by decide +kernel
theorem dL_flips_56 : decode cL_flips 56 = .ok (.irem, 1) := by decide +kernel
theorem dL_flips_57 : decode cL_flips 57 = .ok (.istore 8, 2) := by decide +kernel
theorem dL_flips_59 : decode cL_flips 59 = .ok (.iload 7, 2) := by decide +kernel
theorem dL_flips_61 : decode cL_flips 61 = .ok (.bipush 9, 2) := by decide +kernel
theorem dL_flips_63 : decode cL_flips 63 = .ok (.idiv, 1) := by decide +kernel
theorem dL_flips_64 : decode cL_flips 64 = .ok (.bipush 18, 2) := by decide +kernel
theorem dL_flips_66 : decode cL_flips 66 = .ok (.irem, 1) := by decide +kernel
theorem dL_flips_67 : decode cL_flips 67 = .ok (.istore 9, 2) := by decide +kernel
theorem dL_flips_69 : decode cL_flips 69 = .ok (.iload 7, 2) := by decide +kernel
theorem dL_flips_71 : decode cL_flips 71 = .ok (.sipush 162, 3) := by decide +kernel
theorem dL_flips_74 : decode cL_flips 74 = .ok (.idiv, 1) := by decide +kernel
theorem dL_flips_75 : decode cL_flips 75 = .ok (.bipush 16, 2) := by decide +kernel
theorem dL_flips_77 : decode cL_flips 77 = .ok (.irem, 1) := by decide +kernel
theorem dL_flips_78 : decode cL_flips 78 = .ok (.istore 10, 2) := by decide +kernel
theorem dL_flips_80 : decode cL_flips 80 = .ok (.iload 7, 2) := by decide +kernel
theorem dL_flips_82 : decode cL_flips 82 = .ok (.iconst 3, 1) := by decide +kernel
theorem dL_flips_83 : decode cL_flips 83 = .ok (.irem, 1) := by decide +kernel
theorem dL_flips_84 : decode cL_flips 84 = .ok (.ifCond .ne 67, 3) := by decide +kernel
theorem dL_flips_87 : decode cL_flips 87 = .ok (.aload_n 2, 1) := by decide +kernel
theorem dL_flips_88 : decode cL_flips 88 = .ok (.iload 8, 2) := by decide +kernel
theorem dL_flips_90 : decode cL_flips 90 = .ok (.aaload, 1) := by decide +kernel
theorem dL_flips_91 : decode cL_flips 91 = .ok (.iload 9, 2) := by decide +kernel
theorem dL_flips_93 : decode cL_flips 93 = .ok (.dup2, 1) := by decide +kernel
theorem dL_flips_94 : decode cL_flips 94 = .ok (.iaload, 1) := by decide +kernel
theorem dL_flips_95 : decode cL_flips 95 = .ok (.iconst 1, 1) := by decide +kernel
theorem dL_flips_96 : decode cL_flips 96 = .ok (.iload 10, 2) := by decide +kernel
theorem dL_flips_98 : decode cL_flips 98 = .ok (.ishl, 1) := by decide +kernel
theorem dL_flips_99 : decode cL_flips 99 = .ok (.ixor, 1) := by decide +kernel
theorem dL_flips_100 : decode cL_flips 100 = .ok (.iastore, 1) := by decide +kernel
theorem dL_flips_101 : decode cL_flips 101 = .ok (.aload_n 1, 1) := by decide +kernel
theorem dL_flips_102 : decode cL_flips 102 = .ok (.bipush 102, 2) := by decide +kernel
theorem dL_flips_104 : decode cL_flips 104 = .ok (.iconst 4, 1) := by decide +kernel
theorem dL_flips_105 : decode cL_flips 105 = .ok (.newarray .int, 2) := by decide +kernel
theorem dL_flips_107 : decode cL_flips 107 = .ok (.dup, 1) := by decide +kernel
theorem dL_flips_108 : decode cL_flips 108 = .ok (.iconst 0, 1) := by decide +kernel
theorem dL_flips_109 : decode cL_flips 109 = .ok (.iload 8, 2) := by decide +kernel
theorem dL_flips_111 : decode cL_flips 111 = .ok (.iastore, 1) := by decide +kernel
theorem dL_flips_112 : decode cL_flips 112 = .ok (.dup, 1) := by decide +kernel
theorem dL_flips_113 : decode cL_flips 113 = .ok (.iconst 1, 1) := by decide +kernel
theorem dL_flips_114 : decode cL_flips 114 = .ok (.iload 9, 2) := by decide +kernel
theorem dL_flips_116 : decode cL_flips 116 = .ok (.bipush 6, 2) := by decide +kernel
theorem dL_flips_118 : decode cL_flips 118 = .ok (.idiv, 1) := by decide +kernel
theorem dL_flips_119 : decode cL_flips 119 = .ok (.iastore, 1) := by decide +kernel
theorem dL_flips_120 : decode cL_flips 120 = .ok (.dup, 1) := by decide +kernel
theorem dL_flips_121 : decode cL_flips 121 = .ok (.iconst 2, 1) := by decide +kernel
theorem dL_flips_122 : decode cL_flips 122 = .ok (.iload 9, 2) := by decide +kernel
theorem dL_flips_124 : decode cL_flips 124 = .ok (.bipush 6, 2) := by decide +kernel
theorem dL_flips_126 : decode cL_flips 126 = .ok (.irem, 1) := by decide +kernel
theorem dL_flips_127 : decode cL_flips 127 = .ok (.iastore, 1) := by decide +kernel
theorem dL_flips_128 : decode cL_flips 128 = .ok (.dup, 1) := by decide +kernel
theorem dL_flips_129 : decode cL_flips 129 = .ok (.iconst 3, 1) := by decide +kernel
theorem dL_flips_130 : decode cL_flips 130 = .ok (.iload 10, 2) := by decide +kernel
theorem dL_flips_132 : decode cL_flips 132 = .ok (.iastore, 1) := by decide +kernel
theorem dL_flips_133 : decode cL_flips 133 = .ok (.invokestatic 161, 3) := by decide +kernel
theorem dL_flips_136 : decode cL_flips 136 = .ok (.aload_n 2, 1) := by decide +kernel
theorem dL_flips_137 : decode cL_flips 137 = .ok (.iload 8, 2) := by decide +kernel
theorem dL_flips_139 : decode cL_flips 139 = .ok (.aaload, 1) := by decide +kernel
theorem dL_flips_140 : decode cL_flips 140 = .ok (.iload 9, 2) := by decide +kernel
theorem dL_flips_142 : decode cL_flips 142 = .ok (.iaload, 1) := by decide +kernel
theorem dL_flips_143 : decode cL_flips 143 = .ok (.invokestatic 186, 3) := by decide +kernel
theorem dL_flips_146 : decode cL_flips 146 = .ok (.if_icmp .eq 127, 3) := by decide +kernel
theorem dL_flips_149 : decode cL_flips 149 = .ok (.iconst 0, 1) := by decide +kernel
theorem dL_flips_150 : decode cL_flips 150 = .ok (.ireturn, 1) := by decide +kernel
theorem dL_flips_151 : decode cL_flips 151 = .ok (.iinc 5 1, 3) := by decide +kernel
theorem dL_flips_154 : decode cL_flips 154 = .ok (.iconst 0, 1) := by decide +kernel
theorem dL_flips_155 : decode cL_flips 155 = .ok (.istore 11, 2) := by decide +kernel
theorem dL_flips_157 : decode cL_flips 157 = .ok (.iconst 0, 1) := by decide +kernel
theorem dL_flips_158 : decode cL_flips 158 = .ok (.istore 12, 2) := by decide +kernel
theorem dL_flips_160 : decode cL_flips 160 = .ok (.iload 12, 2) := by decide +kernel
theorem dL_flips_162 : decode cL_flips 162 = .ok (.iconst 3, 1) := by decide +kernel
theorem dL_flips_163 : decode cL_flips 163 = .ok (.if_icmp .ge 99, 3) := by decide +kernel
theorem dL_flips_166 : decode cL_flips 166 = .ok (.aload_n 2, 1) := by decide +kernel
theorem dL_flips_167 : decode cL_flips 167 = .ok (.iload 12, 2) := by decide +kernel
theorem dL_flips_169 : decode cL_flips 169 = .ok (.aaload, 1) := by decide +kernel
theorem dL_flips_170 : decode cL_flips 170 = .ok (.iload 5, 2) := by decide +kernel
theorem dL_flips_172 : decode cL_flips 172 = .ok (.bipush 18, 2) := by decide +kernel
theorem dL_flips_174 : decode cL_flips 174 = .ok (.irem, 1) := by decide +kernel
theorem dL_flips_175 : decode cL_flips 175 = .ok (.iaload, 1) := by decide +kernel
theorem dL_flips_176 : decode cL_flips 176 = .ok (.invokestatic 186, 3) := by decide +kernel
theorem dL_flips_179 : decode cL_flips 179 = .ok (.istore 13, 2) := by decide +kernel
theorem dL_flips_181 : decode cL_flips 181 = .ok (.aload 4, 2) := by decide +kernel
theorem dL_flips_183 : decode cL_flips 183 = .ok (.iload 12, 2) := by decide +kernel
theorem dL_flips_185 : decode cL_flips 185 = .ok (.baload, 1) := by decide +kernel
theorem dL_flips_186 : decode cL_flips 186 = .ok (.ifCond .ne 28, 3) := by decide +kernel
theorem dL_flips_189 : decode cL_flips 189 = .ok (.iload 13, 2) := by decide +kernel
theorem dL_flips_191 : decode cL_flips 191 = .ok (.iconst 1, 1) := by decide +kernel
theorem dL_flips_192 : decode cL_flips 192 = .ok (.if_icmp .ne 22, 3) := by decide +kernel
theorem dL_flips_195 : decode cL_flips 195 = .ok (.aload_n 3, 1) := by decide +kernel
theorem dL_flips_196 : decode cL_flips 196 = .ok (.iload 12, 2) := by decide +kernel
theorem dL_flips_198 : decode cL_flips 198 = .ok (.dup2, 1) := by decide +kernel
theorem dL_flips_199 : decode cL_flips 199 = .ok (.iaload, 1) := by decide +kernel
theorem dL_flips_200 : decode cL_flips 200 = .ok (.iconst 1, 1) := by decide +kernel
theorem dL_flips_201 : decode cL_flips 201 = .ok (.iadd, 1) := by decide +kernel
theorem dL_flips_202 : decode cL_flips 202 = .ok (.iastore, 1) := by decide +kernel
theorem dL_flips_203 : decode cL_flips 203 = .ok (.aload_n 2, 1) := by decide +kernel
theorem dL_flips_204 : decode cL_flips 204 = .ok (.iload 12, 2) := by decide +kernel
theorem dL_flips_206 : decode cL_flips 206 = .ok (.aaload, 1) := by decide +kernel
theorem dL_flips_207 : decode cL_flips 207 = .ok (.iload 5, 2) := by decide +kernel
theorem dL_flips_209 : decode cL_flips 209 = .ok (.bipush 18, 2) := by decide +kernel
theorem dL_flips_211 : decode cL_flips 211 = .ok (.irem, 1) := by decide +kernel
theorem dL_flips_212 : decode cL_flips 212 = .ok (.iconst 0, 1) := by decide +kernel
theorem dL_flips_213 : decode cL_flips 213 = .ok (.iastore, 1) := by decide +kernel
theorem dL_flips_214 : decode cL_flips 214 = .ok (.aload 4, 2) := by decide +kernel
theorem dL_flips_216 : decode cL_flips 216 = .ok (.iload 12, 2) := by decide +kernel
theorem dL_flips_218 : decode cL_flips 218 = .ok (.aload 4, 2) := by decide +kernel
theorem dL_flips_220 : decode cL_flips 220 = .ok (.iload 12, 2) := by decide +kernel
theorem dL_flips_222 : decode cL_flips 222 = .ok (.baload, 1) := by decide +kernel
theorem dL_flips_223 : decode cL_flips 223 = .ok (.ifCond .ne 9, 3) := by decide +kernel
theorem dL_flips_226 : decode cL_flips 226 = .ok (.iload 13, 2) := by decide +kernel
theorem dL_flips_228 : decode cL_flips 228 = .ok (.iconst 1, 1) := by decide +kernel
theorem dL_flips_229 : decode cL_flips 229 = .ok (.if_icmp .le 7, 3) := by decide +kernel
theorem dL_flips_232 : decode cL_flips 232 = .ok (.iconst 1, 1) := by decide +kernel
theorem dL_flips_233 : decode cL_flips 233 = .ok (.goto 4, 3) := by decide +kernel
theorem dL_flips_236 : decode cL_flips 236 = .ok (.iconst 0, 1) := by decide +kernel
theorem dL_flips_237 : decode cL_flips 237 = .ok (.bastore, 1) := by decide +kernel
theorem dL_flips_238 : decode cL_flips 238 = .ok (.iload 11, 2) := by decide +kernel
theorem dL_flips_240 : decode cL_flips 240 = .ok (.aload 4, 2) := by decide +kernel
theorem dL_flips_242 : decode cL_flips 242 = .ok (.iload 12, 2) := by decide +kernel
theorem dL_flips_244 : decode cL_flips 244 = .ok (.baload, 1) := by decide +kernel
theorem dL_flips_245 : decode cL_flips 245 = .ok (.ifCond .eq 7, 3) := by decide +kernel
theorem dL_flips_248 : decode cL_flips 248 = .ok (.iconst 0, 1) := by decide +kernel
theorem dL_flips_249 : decode cL_flips 249 = .ok (.goto 4, 3) := by decide +kernel
theorem dL_flips_252 : decode cL_flips 252 = .ok (.iconst 1, 1) := by decide +kernel
theorem dL_flips_253 : decode cL_flips 253 = .ok (.iadd, 1) := by decide +kernel
theorem dL_flips_254 : decode cL_flips 254 = .ok (.istore 11, 2) := by decide +kernel
theorem dL_flips_256 : decode cL_flips 256 = .ok (.iinc 12 1, 3) := by decide +kernel
theorem dL_flips_259 : decode cL_flips 259 = .ok (.goto (-99), 3) := by decide +kernel
theorem dL_flips_262 : decode cL_flips 262 = .ok (.aload_n 1, 1) := by decide +kernel
theorem dL_flips_263 : decode cL_flips 263 = .ok (.invokevirtual 191, 3) := by decide +kernel
theorem dL_flips_266 : decode cL_flips 266 = .ok (.iload 11, 2) := by decide +kernel
theorem dL_flips_268 : decode cL_flips 268 = .ok (.if_icmp .eq 5, 3) := by decide +kernel
theorem dL_flips_271 : decode cL_flips 271 = .ok (.iconst 0, 1) := by decide +kernel
theorem dL_flips_272 : decode cL_flips 272 = .ok (.ireturn, 1) := by decide +kernel
theorem dL_flips_273 : decode cL_flips 273 = .ok (.iconst 0, 1) := by decide +kernel
theorem dL_flips_274 : decode cL_flips 274 = .ok (.istore 11, 2) := by decide +kernel
theorem dL_flips_276 : decode cL_flips 276 = .ok (.iload 11, 2) := by decide +kernel
theorem dL_flips_278 : decode cL_flips 278 = .ok (.iconst 3, 1) := by decide +kernel
theorem dL_flips_279 : decode cL_flips 279 = .ok (.if_icmp .ge 103, 3) := by decide +kernel
theorem dL_flips_282 : decode cL_flips 282 = .ok (.aload_n 1, 1) := by decide +kernel
theorem dL_flips_283 : decode cL_flips 283 = .ok (.bipush 109, 2) := by decide +kernel
theorem dL_flips_285 : decode cL_flips 285 = .ok (.iconst 1, 1) := by decide +kernel
theorem dL_flips_286 : decode cL_flips 286 = .ok (.newarray .int, 2) := by decide +kernel
theorem dL_flips_288 : decode cL_flips 288 = .ok (.dup, 1) := by decide +kernel
theorem dL_flips_289 : decode cL_flips 289 = .ok (.iconst 0, 1) := by decide +kernel
theorem dL_flips_290 : decode cL_flips 290 = .ok (.iload 11, 2) := by decide +kernel
theorem dL_flips_292 : decode cL_flips 292 = .ok (.iastore, 1) := by decide +kernel
theorem dL_flips_293 : decode cL_flips 293 = .ok (.invokestatic 161, 3) := by decide +kernel
theorem dL_flips_296 : decode cL_flips 296 = .ok (.aload_n 3, 1) := by decide +kernel
theorem dL_flips_297 : decode cL_flips 297 = .ok (.iload 11, 2) := by decide +kernel
theorem dL_flips_299 : decode cL_flips 299 = .ok (.iaload, 1) := by decide +kernel
theorem dL_flips_300 : decode cL_flips 300 = .ok (.if_icmp .ne 74, 3) := by decide +kernel
theorem dL_flips_303 : decode cL_flips 303 = .ok (.aload_n 1, 1) := by decide +kernel
theorem dL_flips_304 : decode cL_flips 304 = .ok (.bipush 110, 2) := by decide +kernel
theorem dL_flips_306 : decode cL_flips 306 = .ok (.iconst 1, 1) := by decide +kernel
theorem dL_flips_307 : decode cL_flips 307 = .ok (.newarray .int, 2) := by decide +kernel
theorem dL_flips_309 : decode cL_flips 309 = .ok (.dup, 1) := by decide +kernel
theorem dL_flips_310 : decode cL_flips 310 = .ok (.iconst 0, 1) := by decide +kernel
theorem dL_flips_311 : decode cL_flips 311 = .ok (.iload 11, 2) := by decide +kernel
theorem dL_flips_313 : decode cL_flips 313 = .ok (.iastore, 1) := by decide +kernel
theorem dL_flips_314 : decode cL_flips 314 = .ok (.invokestatic 161, 3) := by decide +kernel
theorem dL_flips_317 : decode cL_flips 317 = .ok (.aload 4, 2) := by decide +kernel
theorem dL_flips_319 : decode cL_flips 319 = .ok (.iload 11, 2) := by decide +kernel
theorem dL_flips_321 : decode cL_flips 321 = .ok (.baload, 1) := by decide +kernel
theorem dL_flips_322 : decode cL_flips 322 = .ok (.ifCond .eq 7, 3) := by decide +kernel
theorem dL_flips_325 : decode cL_flips 325 = .ok (.iconst 0, 1) := by decide +kernel
theorem dL_flips_326 : decode cL_flips 326 = .ok (.goto 4, 3) := by decide +kernel
theorem dL_flips_329 : decode cL_flips 329 = .ok (.iconst 1, 1) := by decide +kernel
theorem dL_flips_330 : decode cL_flips 330 = .ok (.if_icmp .ne 44, 3) := by decide +kernel
theorem dL_flips_333 : decode cL_flips 333 = .ok (.aload_n 1, 1) := by decide +kernel
theorem dL_flips_334 : decode cL_flips 334 = .ok (.bipush 119, 2) := by decide +kernel
theorem dL_flips_336 : decode cL_flips 336 = .ok (.iconst 3, 1) := by decide +kernel
theorem dL_flips_337 : decode cL_flips 337 = .ok (.newarray .int, 2) := by decide +kernel
theorem dL_flips_339 : decode cL_flips 339 = .ok (.dup, 1) := by decide +kernel
theorem dL_flips_340 : decode cL_flips 340 = .ok (.iconst 0, 1) := by decide +kernel
theorem dL_flips_341 : decode cL_flips 341 = .ok (.iload 11, 2) := by decide +kernel
theorem dL_flips_343 : decode cL_flips 343 = .ok (.iastore, 1) := by decide +kernel
theorem dL_flips_344 : decode cL_flips 344 = .ok (.dup, 1) := by decide +kernel
theorem dL_flips_345 : decode cL_flips 345 = .ok (.iconst 1, 1) := by decide +kernel
theorem dL_flips_346 : decode cL_flips 346 = .ok (.iload 9, 2) := by decide +kernel
theorem dL_flips_348 : decode cL_flips 348 = .ok (.bipush 6, 2) := by decide +kernel
theorem dL_flips_350 : decode cL_flips 350 = .ok (.idiv, 1) := by decide +kernel
theorem dL_flips_351 : decode cL_flips 351 = .ok (.iastore, 1) := by decide +kernel
theorem dL_flips_352 : decode cL_flips 352 = .ok (.dup, 1) := by decide +kernel
theorem dL_flips_353 : decode cL_flips 353 = .ok (.iconst 2, 1) := by decide +kernel
theorem dL_flips_354 : decode cL_flips 354 = .ok (.iload 9, 2) := by decide +kernel
theorem dL_flips_356 : decode cL_flips 356 = .ok (.bipush 6, 2) := by decide +kernel
theorem dL_flips_358 : decode cL_flips 358 = .ok (.irem, 1) := by decide +kernel
theorem dL_flips_359 : decode cL_flips 359 = .ok (.iastore, 1) := by decide +kernel
theorem dL_flips_360 : decode cL_flips 360 = .ok (.invokestatic 161, 3) := by decide +kernel
theorem dL_flips_363 : decode cL_flips 363 = .ok (.aload_n 2, 1) := by decide +kernel
theorem dL_flips_364 : decode cL_flips 364 = .ok (.iload 11, 2) := by decide +kernel
theorem dL_flips_366 : decode cL_flips 366 = .ok (.aaload, 1) := by decide +kernel
theorem dL_flips_367 : decode cL_flips 367 = .ok (.iload 9, 2) := by decide +kernel
theorem dL_flips_369 : decode cL_flips 369 = .ok (.iaload, 1) := by decide +kernel
theorem dL_flips_370 : decode cL_flips 370 = .ok (.i2s, 1) := by decide +kernel
theorem dL_flips_371 : decode cL_flips 371 = .ok (.if_icmp .eq 5, 3) := by decide +kernel
theorem dL_flips_374 : decode cL_flips 374 = .ok (.iconst 0, 1) := by decide +kernel
theorem dL_flips_375 : decode cL_flips 375 = .ok (.ireturn, 1) := by decide +kernel
theorem dL_flips_376 : decode cL_flips 376 = .ok (.iinc 11 1, 3) := by decide +kernel
theorem dL_flips_379 : decode cL_flips 379 = .ok (.goto (-103), 3) := by decide +kernel
theorem dL_flips_382 : decode cL_flips 382 = .ok (.iinc 6 1, 3) := by decide +kernel
theorem dL_flips_385 : decode cL_flips 385 = .ok (.goto (-354), 3) := by decide +kernel
theorem dL_flips_388 : decode cL_flips 388 = .ok (.aload_n 1, 1) := by decide +kernel
theorem dL_flips_389 : decode cL_flips 389 = .ok (.invokevirtual 150, 3) := by decide +kernel
theorem dL_flips_392 : decode cL_flips 392 = .ok (.ireturn, 1) := by decide +kernel
theorem dL_sticks_0 : decode cL_sticks 0 = .ok (.new 8, 3) := by decide +kernel
theorem dL_sticks_3 : decode cL_sticks 3 = .ok (.dup, 1) := by decide +kernel
theorem dL_sticks_4 : decode cL_sticks 4 = .ok (.invokespecial 138, 3) := by decide +kernel
theorem dL_sticks_7 : decode cL_sticks 7 = .ok (.astore_n 1, 1) := by decide +kernel
theorem dL_sticks_8 : decode cL_sticks 8 = .ok (.aload_n 0, 1) := by decide +kernel
theorem dL_sticks_9 : decode cL_sticks 9 = .ok (.bipush 60, 2) := by decide +kernel
theorem dL_sticks_11 : decode cL_sticks 11 = .ok (.invokestatic 178, 3) := by decide +kernel
theorem dL_sticks_14 : decode cL_sticks 14 = .ok (.iconst 3, 1) := by decide +kernel
theorem dL_sticks_15 : decode cL_sticks 15 = .ok (.invokestatic 183, 3) := by decide +kernel
theorem dL_sticks_18 : decode cL_sticks 18 = .ok (.istore_n 2, 1) := by decide +kernel
theorem dL_sticks_19 : decode cL_sticks 19 = .ok (.aload_n 0, 1) := by decide +kernel
theorem dL_sticks_20 : decode cL_sticks 20 = .ok (.bipush 61, 2) := by decide +kernel
theorem dL_sticks_22 : decode cL_sticks 22 = .ok (.invokestatic 178, 3) := by decide +kernel
theorem dL_sticks_25 : decode cL_sticks 25 = .ok (.bipush 14, 2) := by decide +kernel
theorem dL_sticks_27 : decode cL_sticks 27 = .ok (.invokestatic 183, 3) := by decide +kernel
theorem dL_sticks_30 : decode cL_sticks 30 = .ok (.istore_n 3, 1) := by decide +kernel
theorem dL_sticks_31 : decode cL_sticks 31 = .ok (.aload_n 0, 1) := by decide +kernel
theorem dL_sticks_32 : decode cL_sticks 32 = .ok (.bipush 62, 2) := by decide +kernel
theorem dL_sticks_34 : decode cL_sticks 34 = .ok (.invokestatic 178, 3) := by decide +kernel
theorem dL_sticks_37 : decode cL_sticks 37 = .ok (.sipush 8000, 3) := by decide +kernel
theorem dL_sticks_40 : decode cL_sticks 40 = .ok (.invokestatic 183, 3) := by decide +kernel
theorem dL_sticks_43 : decode cL_sticks 43 = .ok (.istore 4, 2) := by decide +kernel
theorem dL_sticks_45 : decode cL_sticks 45 = .ok (.iload 4, 2) := by decide +kernel
theorem dL_sticks_47 : decode cL_sticks 47 = .ok (.iload_n 3, 1) := by decide +kernel
theorem dL_sticks_48 : decode cL_sticks 48 = .ok (.ishr, 1) := by decide +kernel
theorem dL_sticks_49 : decode cL_sticks 49 = .ok (.iconst 1, 1) := by decide +kernel
theorem dL_sticks_50 : decode cL_sticks 50 = .ok (.iand, 1) := by decide +kernel
theorem dL_sticks_51 : decode cL_sticks 51 = .ok (.ifCond .ne 7, 3) := by decide +kernel
theorem dL_sticks_54 : decode cL_sticks 54 = .ok (.iconst 1, 1) := by decide +kernel
theorem dL_sticks_55 : decode cL_sticks 55 = .ok (.goto 4, 3) := by decide +kernel
theorem dL_sticks_58 : decode cL_sticks 58 = .ok (.iconst 0, 1) := by decide +kernel
theorem dL_sticks_59 : decode cL_sticks 59 = .ok (.istore 5, 2) := by decide +kernel
theorem dL_sticks_61 : decode cL_sticks 61 = .ok (.aload_n 1, 1) := by decide +kernel
theorem dL_sticks_62 : decode cL_sticks 62 = .ok (.bipush 67, 2) := by decide +kernel
theorem dL_sticks_64 : decode cL_sticks 64 = .ok (.iconst 4, 1) := by decide +kernel
theorem dL_sticks_65 : decode cL_sticks 65 = .ok (.newarray .int, 2) := by decide +kernel
theorem dL_sticks_67 : decode cL_sticks 67 = .ok (.dup, 1) := by decide +kernel
theorem dL_sticks_68 : decode cL_sticks 68 = .ok (.iconst 0, 1) := by decide +kernel
theorem dL_sticks_69 : decode cL_sticks 69 = .ok (.iconst 2, 1) := by decide +kernel
theorem dL_sticks_70 : decode cL_sticks 70 = .ok (.iastore, 1) := by decide +kernel
theorem dL_sticks_71 : decode cL_sticks 71 = .ok (.dup, 1) := by decide +kernel
theorem dL_sticks_72 : decode cL_sticks 72 = .ok (.iconst 1, 1) := by decide +kernel
theorem dL_sticks_73 : decode cL_sticks 73 = .ok (.bipush 108, 2) := by decide +kernel
theorem dL_sticks_75 : decode cL_sticks 75 = .ok (.iastore, 1) := by decide +kernel
theorem dL_sticks_76 : decode cL_sticks 76 = .ok (.dup, 1) := by decide +kernel
theorem dL_sticks_77 : decode cL_sticks 77 = .ok (.iconst 2, 1) := by decide +kernel
theorem dL_sticks_78 : decode cL_sticks 78 = .ok (.iconst 3, 1) := by decide +kernel
theorem dL_sticks_79 : decode cL_sticks 79 = .ok (.iastore, 1) := by decide +kernel
theorem dL_sticks_80 : decode cL_sticks 80 = .ok (.dup, 1) := by decide +kernel
theorem dL_sticks_81 : decode cL_sticks 81 = .ok (.iconst 3, 1) := by decide +kernel
theorem dL_sticks_82 : decode cL_sticks 82 = .ok (.iload 4, 2) := by decide +kernel
theorem dL_sticks_84 : decode cL_sticks 84 = .ok (.iastore, 1) := by decide +kernel
theorem dL_sticks_85 : decode cL_sticks 85 = .ok (.invokestatic 161, 3) := by decide +kernel
theorem dL_sticks_88 : decode cL_sticks 88 = .ok (.iconst 1, 1) := by decide +kernel
theorem dL_sticks_89 : decode cL_sticks 89 = .ok (.if_icmp .ne 163, 3) := by decide +kernel
theorem dL_sticks_92 : decode cL_sticks 92 = .ok (.aload_n 1, 1) := by decide +kernel
theorem dL_sticks_93 : decode cL_sticks 93 = .ok (.bipush 67, 2) := by decide +kernel
theorem dL_sticks_95 : decode cL_sticks 95 = .ok (.iconst 4, 1) := by decide +kernel
theorem dL_sticks_96 : decode cL_sticks 96 = .ok (.newarray .int, 2) := by decide +kernel
theorem dL_sticks_98 : decode cL_sticks 98 = .ok (.dup, 1) := by decide +kernel
theorem dL_sticks_99 : decode cL_sticks 99 = .ok (.iconst 0, 1) := by decide +kernel
theorem dL_sticks_100 : decode cL_sticks 100 = .ok (.iconst 2, 1) := by decide +kernel
theorem dL_sticks_101 : decode cL_sticks 101 = .ok (.iastore, 1) := by decide +kernel
theorem dL_sticks_102 : decode cL_sticks 102 = .ok (.dup, 1) := by decide +kernel
theorem dL_sticks_103 : decode cL_sticks 103 = .ok (.iconst 1, 1) := by decide +kernel
theorem dL_sticks_104 : decode cL_sticks 104 = .ok (.bipush 111, 2) := by decide +kernel
theorem dL_sticks_106 : decode cL_sticks 106 = .ok (.iastore, 1) := by decide +kernel
theorem dL_sticks_107 : decode cL_sticks 107 = .ok (.dup, 1) := by decide +kernel
theorem dL_sticks_108 : decode cL_sticks 108 = .ok (.iconst 2, 1) := by decide +kernel
theorem dL_sticks_109 : decode cL_sticks 109 = .ok (.iconst 3, 1) := by decide +kernel
theorem dL_sticks_110 : decode cL_sticks 110 = .ok (.iastore, 1) := by decide +kernel
theorem dL_sticks_111 : decode cL_sticks 111 = .ok (.dup, 1) := by decide +kernel
theorem dL_sticks_112 : decode cL_sticks 112 = .ok (.iconst 3, 1) := by decide +kernel
theorem dL_sticks_113 : decode cL_sticks 113 = .ok (.iconst 1, 1) := by decide +kernel
theorem dL_sticks_114 : decode cL_sticks 114 = .ok (.iastore, 1) := by decide +kernel
theorem dL_sticks_115 : decode cL_sticks 115 = .ok (.invokestatic 161, 3) := by decide +kernel
theorem dL_sticks_118 : decode cL_sticks 118 = .ok (.iconst 2, 1) := by decide +kernel
theorem dL_sticks_119 : decode cL_sticks 119 = .ok (.if_icmp .ne 133, 3) := by decide +kernel
theorem dL_sticks_122 : decode cL_sticks 122 = .ok (.aload_n 1, 1) := by decide +kernel
theorem dL_sticks_123 : decode cL_sticks 123 = .ok (.bipush 67, 2) := by decide +kernel
theorem dL_sticks_125 : decode cL_sticks 125 = .ok (.iconst 4, 1) := by decide +kernel
theorem dL_sticks_126 : decode cL_sticks 126 = .ok (.newarray .int, 2) := by decide +kernel
theorem dL_sticks_128 : decode cL_sticks 128 = .ok (.dup, 1) := by decide +kernel
theorem dL_sticks_129 : decode cL_sticks 129 = .ok (.iconst 0, 1) := by decide +kernel
theorem dL_sticks_130 : decode cL_sticks 130 = .ok (.iconst 2, 1) := by decide +kernel
theorem dL_sticks_131 : decode cL_sticks 131 = .ok (.iastore, 1) := by decide +kernel
theorem dL_sticks_132 : decode cL_sticks 132 = .ok (.dup, 1) := by decide +kernel
theorem dL_sticks_133 : decode cL_sticks 133 = .ok (.iconst 1, 1) := by decide +kernel
theorem dL_sticks_134 : decode cL_sticks 134 = .ok (.bipush 109, 2) := by decide +kernel
theorem dL_sticks_136 : decode cL_sticks 136 = .ok (.iastore, 1) := by decide +kernel
theorem dL_sticks_137 : decode cL_sticks 137 = .ok (.dup, 1) := by decide +kernel
theorem dL_sticks_138 : decode cL_sticks 138 = .ok (.iconst 2, 1) := by decide +kernel
theorem dL_sticks_139 : decode cL_sticks 139 = .ok (.iconst 3, 1) := by decide +kernel
theorem dL_sticks_140 : decode cL_sticks 140 = .ok (.iastore, 1) := by decide +kernel
theorem dL_sticks_141 : decode cL_sticks 141 = .ok (.dup, 1) := by decide +kernel
theorem dL_sticks_142 : decode cL_sticks 142 = .ok (.iconst 3, 1) := by decide +kernel
theorem dL_sticks_143 : decode cL_sticks 143 = .ok (.iconst 5, 1) := by decide +kernel
theorem dL_sticks_144 : decode cL_sticks 144 = .ok (.iastore, 1) := by decide +kernel
theorem dL_sticks_145 : decode cL_sticks 145 = .ok (.invokestatic 161, 3) := by decide +kernel
theorem dL_sticks_148 : decode cL_sticks 148 = .ok (.iconst 3, 1) := by decide +kernel
theorem dL_sticks_149 : decode cL_sticks 149 = .ok (.if_icmp .ne 103, 3) := by decide +kernel
theorem dL_sticks_152 : decode cL_sticks 152 = .ok (.aload_n 1, 1) := by decide +kernel
theorem dL_sticks_153 : decode cL_sticks 153 = .ok (.bipush 83, 2) := by decide +kernel
theorem dL_sticks_155 : decode cL_sticks 155 = .ok (.iconst 3, 1) := by decide +kernel
theorem dL_sticks_156 : decode cL_sticks 156 = .ok (.newarray .int, 2) := by decide +kernel
theorem dL_sticks_158 : decode cL_sticks 158 = .ok (.dup, 1) := by decide +kernel
theorem dL_sticks_159 : decode cL_sticks 159 = .ok (.iconst 0, 1) := by decide +kernel
theorem dL_sticks_160 : decode cL_sticks 160 = .ok (.iconst 0, 1) := by decide +kernel
theorem dL_sticks_161 : decode cL_sticks 161 = .ok (.iastore, 1) := by decide +kernel
theorem dL_sticks_162 : decode cL_sticks 162 = .ok (.dup, 1) := by decide +kernel
theorem dL_sticks_163 : decode cL_sticks 163 = .ok (.iconst 1, 1) := by decide +kernel
theorem dL_sticks_164 : decode cL_sticks 164 = .ok (.iconst 1, 1) := by decide +kernel
theorem dL_sticks_165 : decode cL_sticks 165 = .ok (.iastore, 1) := by decide +kernel
theorem dL_sticks_166 : decode cL_sticks 166 = .ok (.dup, 1) := by decide +kernel
theorem dL_sticks_167 : decode cL_sticks 167 = .ok (.iconst 2, 1) := by decide +kernel
theorem dL_sticks_168 : decode cL_sticks 168 = .ok (.iconst 2, 1) := by decide +kernel
theorem dL_sticks_169 : decode cL_sticks 169 = .ok (.iastore, 1) := by decide +kernel
theorem dL_sticks_170 : decode cL_sticks 170 = .ok (.invokestatic 161, 3) := by decide +kernel
theorem dL_sticks_173 : decode cL_sticks 173 = .ok (.iconst (-1), 1) := by decide +kernel
theorem dL_sticks_174 : decode cL_sticks 174 = .ok (.if_icmp .ne 78, 3) := by decide +kernel
theorem dL_sticks_177 : decode cL_sticks 177 = .ok (.aload_n 1, 1) := by decide +kernel
theorem dL_sticks_178 : decode cL_sticks 178 = .ok (.bipush 107, 2) := by decide +kernel
theorem dL_sticks_180 : decode cL_sticks 180 = .ok (.iconst 4, 1) := by decide +kernel
theorem dL_sticks_181 : decode cL_sticks 181 = .ok (.newarray .int, 2) := by decide +kernel
theorem dL_sticks_183 : decode cL_sticks 183 = .ok (.dup, 1) := by decide +kernel
theorem dL_sticks_184 : decode cL_sticks 184 = .ok (.iconst 0, 1) := by decide +kernel
theorem dL_sticks_185 : decode cL_sticks 185 = .ok (.iload_n 2, 1) := by decide +kernel
theorem dL_sticks_186 : decode cL_sticks 186 = .ok (.iastore, 1) := by decide +kernel
theorem dL_sticks_187 : decode cL_sticks 187 = .ok (.dup, 1) := by decide +kernel
theorem dL_sticks_188 : decode cL_sticks 188 = .ok (.iconst 1, 1) := by decide +kernel
theorem dL_sticks_189 : decode cL_sticks 189 = .ok (.iconst 3, 1) := by decide +kernel
theorem dL_sticks_190 : decode cL_sticks 190 = .ok (.iastore, 1) := by decide +kernel
theorem dL_sticks_191 : decode cL_sticks 191 = .ok (.dup, 1) := by decide +kernel
theorem dL_sticks_192 : decode cL_sticks 192 = .ok (.iconst 2, 1) := by decide +kernel
theorem dL_sticks_193 : decode cL_sticks 193 = .ok (.iload_n 3, 1) := by decide +kernel
theorem dL_sticks_194 : decode cL_sticks 194 = .ok (.iastore, 1) := by decide +kernel
theorem dL_sticks_195 : decode cL_sticks 195 = .ok (.dup, 1) := by decide +kernel
theorem dL_sticks_196 : decode cL_sticks 196 = .ok (.iconst 3, 1) := by decide +kernel
theorem dL_sticks_197 : decode cL_sticks 197 = .ok (.iload 5, 2) := by decide +kernel
theorem dL_sticks_199 : decode cL_sticks 199 = .ok (.ifCond .eq 7, 3) := by decide +kernel
theorem dL_sticks_202 : decode cL_sticks 202 = .ok (.iconst 1, 1) := by decide +kernel
theorem dL_sticks_203 : decode cL_sticks 203 = .ok (.goto 4, 3) := by decide +kernel
theorem dL_sticks_206 : decode cL_sticks 206 = .ok (.iconst 0, 1) := by decide +kernel
theorem dL_sticks_207 : decode cL_sticks 207 = .ok (.iastore, 1) := by decide +kernel
theorem dL_sticks_208 : decode cL_sticks 208 = .ok (.invokestatic 161, 3) := by decide +kernel
theorem dL_sticks_211 : decode cL_sticks 211 = .ok (.ifCond .ne 41, 3) := by decide +kernel
theorem dL_sticks_214 : decode cL_sticks 214 = .ok (.aload_n 1, 1) := by decide +kernel
theorem dL_sticks_215 : decode cL_sticks 215 = .ok (.bipush 107, 2) := by decide +kernel
theorem dL_sticks_217 : decode cL_sticks 217 = .ok (.iconst 4, 1) := by decide +kernel
theorem dL_sticks_218 : decode cL_sticks 218 = .ok (.newarray .int, 2) := by decide +kernel
theorem dL_sticks_220 : decode cL_sticks 220 = .ok (.dup, 1) := by decide +kernel
theorem dL_sticks_221 : decode cL_sticks 221 = .ok (.iconst 0, 1) := by decide +kernel
theorem dL_sticks_222 : decode cL_sticks 222 = .ok (.iload_n 2, 1) := by decide +kernel
theorem dL_sticks_223 : decode cL_sticks 223 = .ok (.iastore, 1) := by decide +kernel
theorem dL_sticks_224 : decode cL_sticks 224 = .ok (.dup, 1) := by decide +kernel
theorem dL_sticks_225 : decode cL_sticks 225 = .ok (.iconst 1, 1) := by decide +kernel
theorem dL_sticks_226 : decode cL_sticks 226 = .ok (.iconst 3, 1) := by decide +kernel
theorem dL_sticks_227 : decode cL_sticks 227 = .ok (.iastore, 1) := by decide +kernel
theorem dL_sticks_228 : decode cL_sticks 228 = .ok (.dup, 1) := by decide +kernel
theorem dL_sticks_229 : decode cL_sticks 229 = .ok (.iconst 2, 1) := by decide +kernel
theorem dL_sticks_230 : decode cL_sticks 230 = .ok (.iload_n 3, 1) := by decide +kernel
theorem dL_sticks_231 : decode cL_sticks 231 = .ok (.iastore, 1) := by decide +kernel
theorem dL_sticks_232 : decode cL_sticks 232 = .ok (.dup, 1) := by decide +kernel
theorem dL_sticks_233 : decode cL_sticks 233 = .ok (.iconst 3, 1) := by decide +kernel
theorem dL_sticks_234 : decode cL_sticks 234 = .ok (.iload 5, 2) := by decide +kernel
theorem dL_sticks_236 : decode cL_sticks 236 = .ok (.ifCond .eq 7, 3) := by decide +kernel
theorem dL_sticks_239 : decode cL_sticks 239 = .ok (.iconst 1, 1) := by decide +kernel
theorem dL_sticks_240 : decode cL_sticks 240 = .ok (.goto 4, 3) := by decide +kernel
theorem dL_sticks_243 : decode cL_sticks 243 = .ok (.iconst 0, 1) := by decide +kernel
theorem dL_sticks_244 : decode cL_sticks 244 = .ok (.iastore, 1) := by decide +kernel
theorem dL_sticks_245 : decode cL_sticks 245 = .ok (.invokestatic 161, 3) := by decide +kernel
theorem dL_sticks_248 : decode cL_sticks 248 = .ok (.iconst 1, 1) := by decide +kernel
theorem dL_sticks_249 : decode cL_sticks 249 = .ok (.if_icmp .eq 5, 3) := by decide +kernel
theorem dL_sticks_252 : decode cL_sticks 252 = .ok (.iconst 0, 1) := by decide +kernel
theorem dL_sticks_253 : decode cL_sticks 253 = .ok (.ireturn, 1) := by decide +kernel
theorem dL_sticks_254 : decode cL_sticks 254 = .ok (.iconst 1, 1) := by decide +kernel
theorem dL_sticks_255 : decode cL_sticks 255 = .ok (.istore 6, 2) := by decide +kernel
theorem dL_sticks_257 : decode cL_sticks 257 = .ok (.iload 6, 2) := by decide +kernel
theorem dL_sticks_259 : decode cL_sticks 259 = .ok (.iconst 3, 1) := by decide +kernel
theorem dL_sticks_260 : decode cL_sticks 260 = .ok (.if_icmp .gt 111, 3) := by decide +kernel
theorem dL_sticks_263 : decode cL_sticks 263 = .ok (.aload_n 1, 1) := by decide +kernel
theorem dL_sticks_264 : decode cL_sticks 264 = .ok (.invokevirtual 191, 3) := by decide +kernel
theorem dL_sticks_267 : decode cL_sticks 267 = .ok (.iload 6, 2) := by decide +kernel
theorem dL_sticks_269 : decode cL_sticks 269 = .ok (.iconst 3, 1) := by decide +kernel
theorem dL_sticks_270 : decode cL_sticks 270 = .ok (.if_icmp .ge 7, 3) := by decide +kernel
theorem dL_sticks_273 : decode cL_sticks 273 = .ok (.iconst 3, 1) := by decide +kernel
theorem dL_sticks_274 : decode cL_sticks 274 = .ok (.goto 4, 3) := by decide +kernel
theorem dL_sticks_277 : decode cL_sticks 277 = .ok (.iconst 2, 1) := by decide +kernel
theorem dL_sticks_278 : decode cL_sticks 278 = .ok (.if_icmp .ne 85, 3) := by decide +kernel
theorem dL_sticks_281 : decode cL_sticks 281 = .ok (.aload_n 1, 1) := by decide +kernel
theorem dL_sticks_282 : decode cL_sticks 282 = .ok (.bipush 115, 2) := by decide +kernel
theorem dL_sticks_284 : decode cL_sticks 284 = .ok (.iconst 1, 1) := by decide +kernel
theorem dL_sticks_285 : decode cL_sticks 285 = .ok (.newarray .int, 2) := by decide +kernel
theorem dL_sticks_287 : decode cL_sticks 287 = .ok (.dup, 1) := by decide +kernel
theorem dL_sticks_288 : decode cL_sticks 288 = .ok (.iconst 0, 1) := by decide +kernel
theorem dL_sticks_289 : decode cL_sticks 289 = .ok (.iload_n 2, 1) := by decide +kernel
theorem dL_sticks_290 : decode cL_sticks 290 = .ok (.iastore, 1) := by decide +kernel
theorem dL_sticks_291 : decode cL_sticks 291 = .ok (.invokestatic 161, 3) := by decide +kernel
theorem dL_sticks_294 : decode cL_sticks 294 = .ok (.iload 6, 2) := by decide +kernel
theorem dL_sticks_296 : decode cL_sticks 296 = .ok (.if_icmp .ne 67, 3) := by decide +kernel
theorem dL_sticks_299 : decode cL_sticks 299 = .ok (.aload_n 1, 1) := by decide +kernel
theorem dL_sticks_300 : decode cL_sticks 300 = .ok (.bipush 111, 2) := by decide +kernel
theorem dL_sticks_302 : decode cL_sticks 302 = .ok (.iconst 1, 1) := by decide +kernel
theorem dL_sticks_303 : decode cL_sticks 303 = .ok (.newarray .int, 2) := by decide +kernel
theorem dL_sticks_305 : decode cL_sticks 305 = .ok (.dup, 1) := by decide +kernel
theorem dL_sticks_306 : decode cL_sticks 306 = .ok (.iconst 0, 1) := by decide +kernel
theorem dL_sticks_307 : decode cL_sticks 307 = .ok (.iconst 1, 1) := by decide +kernel
theorem dL_sticks_308 : decode cL_sticks 308 = .ok (.iastore, 1) := by decide +kernel
theorem dL_sticks_309 : decode cL_sticks 309 = .ok (.invokestatic 161, 3) := by decide +kernel
theorem dL_sticks_312 : decode cL_sticks 312 = .ok (.iload 4, 2) := by decide +kernel
theorem dL_sticks_314 : decode cL_sticks 314 = .ok (.if_icmp .ne 49, 3) := by decide +kernel
theorem dL_sticks_317 : decode cL_sticks 317 = .ok (.aload_n 1, 1) := by decide +kernel
theorem dL_sticks_318 : decode cL_sticks 318 = .ok (.bipush 119, 2) := by decide +kernel
theorem dL_sticks_320 : decode cL_sticks 320 = .ok (.iconst 3, 1) := by decide +kernel
theorem dL_sticks_321 : decode cL_sticks 321 = .ok (.newarray .int, 2) := by decide +kernel
theorem dL_sticks_323 : decode cL_sticks 323 = .ok (.dup, 1) := by decide +kernel
theorem dL_sticks_324 : decode cL_sticks 324 = .ok (.iconst 0, 1) := by decide +kernel
theorem dL_sticks_325 : decode cL_sticks 325 = .ok (.iload_n 2, 1) := by decide +kernel
theorem dL_sticks_326 : decode cL_sticks 326 = .ok (.iastore, 1) := by decide +kernel
theorem dL_sticks_327 : decode cL_sticks 327 = .ok (.dup, 1) := by decide +kernel
theorem dL_sticks_328 : decode cL_sticks 328 = .ok (.iconst 1, 1) := by decide +kernel
theorem dL_sticks_329 : decode cL_sticks 329 = .ok (.iconst 2, 1) := by decide +kernel
theorem dL_sticks_330 : decode cL_sticks 330 = .ok (.iastore, 1) := by decide +kernel
theorem dL_sticks_331 : decode cL_sticks 331 = .ok (.dup, 1) := by decide +kernel
theorem dL_sticks_332 : decode cL_sticks 332 = .ok (.iconst 2, 1) := by decide +kernel
theorem dL_sticks_333 : decode cL_sticks 333 = .ok (.iconst 5, 1) := by decide +kernel
theorem dL_sticks_334 : decode cL_sticks 334 = .ok (.iastore, 1) := by decide +kernel
theorem dL_sticks_335 : decode cL_sticks 335 = .ok (.invokestatic 161, 3) := by decide +kernel
theorem dL_sticks_338 : decode cL_sticks 338 = .ok (.iload 6, 2) := by decide +kernel
theorem dL_sticks_340 : decode cL_sticks 340 = .ok (.iconst 3, 1) := by decide +kernel
theorem dL_sticks_341 : decode cL_sticks 341 = .ok (.if_icmp .ge 12, 3) := by decide +kernel
theorem dL_sticks_344 : decode cL_sticks 344 = .ok (.iload 4, 2) := by decide +kernel
theorem dL_sticks_346 : decode cL_sticks 346 = .ok (.iconst 1, 1) := by decide +kernel
theorem dL_sticks_347 : decode cL_sticks 347 = .ok (.iload_n 3, 1) := by decide +kernel
theorem dL_sticks_348 : decode cL_sticks 348 = .ok (.ishl, 1) := by decide +kernel
theorem dL_sticks_349 : decode cL_sticks 349 = .ok (.ixor, 1) := by decide +kernel
theorem dL_sticks_350 : decode cL_sticks 350 = .ok (.goto 10, 3) := by decide +kernel
theorem dL_sticks_353 : decode cL_sticks 353 = .ok (.aload_n 1, 1) := by decide +kernel
theorem dL_sticks_354 : decode cL_sticks 354 = .ok (.iload_n 2, 1) := by decide +kernel
theorem dL_sticks_355 : decode cL_sticks 355 = .ok (.iconst 2, 1) := by decide +kernel
theorem dL_sticks_356 : decode cL_sticks 356 = .ok (.iconst 5, 1) := by decide +kernel
theorem dL_sticks_357 : decode cL_sticks 357 = .ok (.invokevirtual 27, 3) := by decide +kernel
theorem dL_sticks_360 : decode cL_sticks 360 = .ok (.if_icmp .eq 5, 3) := by decide +kernel
theorem dL_sticks_363 : decode cL_sticks 363 = .ok (.iconst 0, 1) := by decide +kernel
theorem dL_sticks_364 : decode cL_sticks 364 = .ok (.ireturn, 1) := by decide +kernel
theorem dL_sticks_365 : decode cL_sticks 365 = .ok (.iinc 6 1, 3) := by decide +kernel
theorem dL_sticks_368 : decode cL_sticks 368 = .ok (.goto (-111), 3) := by decide +kernel
theorem dL_sticks_371 : decode cL_sticks 371 = .ok (.aload_n 1, 1) := by decide +kernel
theorem dL_sticks_372 : decode cL_sticks 372 = .ok (.bipush 78, 2) := by decide +kernel
theorem dL_sticks_374 : decode cL_sticks 374 = .ok (.iconst 2, 1) := by decide +kernel
theorem dL_sticks_375 : decode cL_sticks 375 = .ok (.newarray .int, 2) := by decide +kernel
theorem dL_sticks_377 : decode cL_sticks 377 = .ok (.dup, 1) := by decide +kernel
theorem dL_sticks_378 : decode cL_sticks 378 = .ok (.iconst 0, 1) := by decide +kernel
theorem dL_sticks_379 : decode cL_sticks 379 = .ok (.iconst 0, 1) := by decide +kernel
theorem dL_sticks_380 : decode cL_sticks 380 = .ok (.iastore, 1) := by decide +kernel
theorem dL_sticks_381 : decode cL_sticks 381 = .ok (.dup, 1) := by decide +kernel
theorem dL_sticks_382 : decode cL_sticks 382 = .ok (.iconst 1, 1) := by decide +kernel
theorem dL_sticks_383 : decode cL_sticks 383 = .ok (.bipush 114, 2) := by decide +kernel
theorem dL_sticks_385 : decode cL_sticks 385 = .ok (.iastore, 1) := by decide +kernel
theorem dL_sticks_386 : decode cL_sticks 386 = .ok (.invokestatic 161, 3) := by decide +kernel
theorem dL_sticks_389 : decode cL_sticks 389 = .ok (.bipush 118, 2) := by decide +kernel
theorem dL_sticks_391 : decode cL_sticks 391 = .ok (.if_icmp .ne 148, 3) := by decide +kernel
theorem dL_sticks_394 : decode cL_sticks 394 = .ok (.aload_n 1, 1) := by decide +kernel
theorem dL_sticks_395 : decode cL_sticks 395 = .ok (.bipush 78, 2) := by decide +kernel
theorem dL_sticks_397 : decode cL_sticks 397 = .ok (.iconst 2, 1) := by decide +kernel
theorem dL_sticks_398 : decode cL_sticks 398 = .ok (.newarray .int, 2) := by decide +kernel
theorem dL_sticks_400 : decode cL_sticks 400 = .ok (.dup, 1) := by decide +kernel
theorem dL_sticks_401 : decode cL_sticks 401 = .ok (.iconst 0, 1) := by decide +kernel
theorem dL_sticks_402 : decode cL_sticks 402 = .ok (.iconst 0, 1) := by decide +kernel
theorem dL_sticks_403 : decode cL_sticks 403 = .ok (.iastore, 1) := by decide +kernel
theorem dL_sticks_404 : decode cL_sticks 404 = .ok (.dup, 1) := by decide +kernel
theorem dL_sticks_405 : decode cL_sticks 405 = .ok (.iconst 1, 1) := by decide +kernel
theorem dL_sticks_406 : decode cL_sticks 406 = .ok (.bipush 99, 2) := by decide +kernel
theorem dL_sticks_408 : decode cL_sticks 408 = .ok (.iastore, 1) := by decide +kernel
theorem dL_sticks_409 : decode cL_sticks 409 = .ok (.invokestatic 161, 3) := by decide +kernel
theorem dL_sticks_412 : decode cL_sticks 412 = .ok (.iload_n 2, 1) := by decide +kernel
theorem dL_sticks_413 : decode cL_sticks 413 = .ok (.if_icmp .ne 126, 3) := by decide +kernel
theorem dL_sticks_416 : decode cL_sticks 416 = .ok (.aload_n 1, 1) := by decide +kernel
theorem dL_sticks_417 : decode cL_sticks 417 = .ok (.bipush 78, 2) := by decide +kernel
theorem dL_sticks_419 : decode cL_sticks 419 = .ok (.iconst 2, 1) := by decide +kernel
theorem dL_sticks_420 : decode cL_sticks 420 = .ok (.newarray .int, 2) := by decide +kernel
theorem dL_sticks_422 : decode cL_sticks 422 = .ok (.dup, 1) := by decide +kernel
theorem dL_sticks_423 : decode cL_sticks 423 = .ok (.iconst 0, 1) := by decide +kernel
theorem dL_sticks_424 : decode cL_sticks 424 = .ok (.iconst 0, 1) := by decide +kernel
theorem dL_sticks_425 : decode cL_sticks 425 = .ok (.iastore, 1) := by decide +kernel
theorem dL_sticks_426 : decode cL_sticks 426 = .ok (.dup, 1) := by decide +kernel
theorem dL_sticks_427 : decode cL_sticks 427 = .ok (.iconst 1, 1) := by decide +kernel
theorem dL_sticks_428 : decode cL_sticks 428 = .ok (.bipush 116, 2) := by decide +kernel
theorem dL_sticks_430 : decode cL_sticks 430 = .ok (.iastore, 1) := by decide +kernel
theorem dL_sticks_431 : decode cL_sticks 431 = .ok (.invokestatic 161, 3) := by decide +kernel
theorem dL_sticks_434 : decode cL_sticks 434 = .ok (.iconst 3, 1) := by decide +kernel
theorem dL_sticks_435 : decode cL_sticks 435 = .ok (.if_icmp .ne 104, 3) := by decide +kernel
theorem dL_sticks_438 : decode cL_sticks 438 = .ok (.aload_n 1, 1) := by decide +kernel
theorem dL_sticks_439 : decode cL_sticks 439 = .ok (.bipush 116, 2) := by decide +kernel
theorem dL_sticks_441 : decode cL_sticks 441 = .ok (.iconst 1, 1) := by decide +kernel
theorem dL_sticks_442 : decode cL_sticks 442 = .ok (.newarray .int, 2) := by decide +kernel
theorem dL_sticks_444 : decode cL_sticks 444 = .ok (.dup, 1) := by decide +kernel
theorem dL_sticks_445 : decode cL_sticks 445 = .ok (.iconst 0, 1) := by decide +kernel
theorem dL_sticks_446 : decode cL_sticks 446 = .ok (.iload_n 2, 1) := by decide +kernel
theorem dL_sticks_447 : decode cL_sticks 447 = .ok (.iastore, 1) := by decide +kernel
theorem dL_sticks_448 : decode cL_sticks 448 = .ok (.invokestatic 161, 3) := by decide +kernel
theorem dL_sticks_451 : decode cL_sticks 451 = .ok (.ifCond .ne 88, 3) := by decide +kernel
theorem dL_sticks_454 : decode cL_sticks 454 = .ok (.aload_n 1, 1) := by decide +kernel
theorem dL_sticks_455 : decode cL_sticks 455 = .ok (.bipush 98, 2) := by decide +kernel
theorem dL_sticks_457 : decode cL_sticks 457 = .ok (.iconst 1, 1) := by decide +kernel
theorem dL_sticks_458 : decode cL_sticks 458 = .ok (.newarray .int, 2) := by decide +kernel
theorem dL_sticks_460 : decode cL_sticks 460 = .ok (.dup, 1) := by decide +kernel
theorem dL_sticks_461 : decode cL_sticks 461 = .ok (.iconst 0, 1) := by decide +kernel
theorem dL_sticks_462 : decode cL_sticks 462 = .ok (.iload_n 2, 1) := by decide +kernel
theorem dL_sticks_463 : decode cL_sticks 463 = .ok (.iastore, 1) := by decide +kernel
theorem dL_sticks_464 : decode cL_sticks 464 = .ok (.invokestatic 161, 3) := by decide +kernel
theorem dL_sticks_467 : decode cL_sticks 467 = .ok (.ldc 80, 2) := by decide +kernel
theorem dL_sticks_469 : decode cL_sticks 469 = .ok (.if_icmp .ne 70, 3) := by decide +kernel
theorem dL_sticks_472 : decode cL_sticks 472 = .ok (.aload_n 1, 1) := by decide +kernel
theorem dL_sticks_473 : decode cL_sticks 473 = .ok (.bipush 120, 2) := by decide +kernel
theorem dL_sticks_475 : decode cL_sticks 475 = .ok (.iconst 1, 1) := by decide +kernel
theorem dL_sticks_476 : decode cL_sticks 476 = .ok (.newarray .int, 2) := by decide +kernel
theorem dL_sticks_478 : decode cL_sticks 478 = .ok (.dup, 1) := by decide +kernel
theorem dL_sticks_479 : decode cL_sticks 479 = .ok (.iconst 0, 1) := by decide +kernel
theorem dL_sticks_480 : decode cL_sticks 480 = .ok (.iload_n 2, 1) := by decide +kernel
theorem dL_sticks_481 : decode cL_sticks 481 = .ok (.iastore, 1) := by decide +kernel
theorem dL_sticks_482 : decode cL_sticks 482 = .ok (.invokestatic 161, 3) := by decide +kernel
theorem dL_sticks_485 : decode cL_sticks 485 = .ok (.iconst 1, 1) := by decide +kernel
theorem dL_sticks_486 : decode cL_sticks 486 = .ok (.if_icmp .ne 53, 3) := by decide +kernel
theorem dL_sticks_489 : decode cL_sticks 489 = .ok (.aload_n 1, 1) := by decide +kernel
theorem dL_sticks_490 : decode cL_sticks 490 = .ok (.bipush 120, 2) := by decide +kernel
theorem dL_sticks_492 : decode cL_sticks 492 = .ok (.iconst 1, 1) := by decide +kernel
theorem dL_sticks_493 : decode cL_sticks 493 = .ok (.newarray .int, 2) := by decide +kernel
theorem dL_sticks_495 : decode cL_sticks 495 = .ok (.dup, 1) := by decide +kernel
theorem dL_sticks_496 : decode cL_sticks 496 = .ok (.iconst 0, 1) := by decide +kernel
theorem dL_sticks_497 : decode cL_sticks 497 = .ok (.iload_n 2, 1) := by decide +kernel
theorem dL_sticks_498 : decode cL_sticks 498 = .ok (.iastore, 1) := by decide +kernel
theorem dL_sticks_499 : decode cL_sticks 499 = .ok (.invokestatic 161, 3) := by decide +kernel
theorem dL_sticks_502 : decode cL_sticks 502 = .ok (.ifCond .ne 37, 3) := by decide +kernel
theorem dL_sticks_505 : decode cL_sticks 505 = .ok (.aload_n 1, 1) := by decide +kernel
theorem dL_sticks_506 : decode cL_sticks 506 = .ok (.bipush 116, 2) := by decide +kernel
theorem dL_sticks_508 : decode cL_sticks 508 = .ok (.iconst 1, 1) := by decide +kernel
theorem dL_sticks_509 : decode cL_sticks 509 = .ok (.newarray .int, 2) := by decide +kernel
theorem dL_sticks_511 : decode cL_sticks 511 = .ok (.dup, 1) := by decide +kernel
theorem dL_sticks_512 : decode cL_sticks 512 = .ok (.iconst 0, 1) := by decide +kernel
theorem dL_sticks_513 : decode cL_sticks 513 = .ok (.iload_n 2, 1) := by decide +kernel
theorem dL_sticks_514 : decode cL_sticks 514 = .ok (.iastore, 1) := by decide +kernel
theorem dL_sticks_515 : decode cL_sticks 515 = .ok (.invokestatic 161, 3) := by decide +kernel
theorem dL_sticks_518 : decode cL_sticks 518 = .ok (.iconst 1, 1) := by decide +kernel
theorem dL_sticks_519 : decode cL_sticks 519 = .ok (.if_icmp .ne 20, 3) := by decide +kernel
theorem dL_sticks_522 : decode cL_sticks 522 = .ok (.aload_n 1, 1) := by decide +kernel
theorem dL_sticks_523 : decode cL_sticks 523 = .ok (.bipush 98, 2) := by decide +kernel
theorem dL_sticks_525 : decode cL_sticks 525 = .ok (.iconst 1, 1) := by decide +kernel
theorem dL_sticks_526 : decode cL_sticks 526 = .ok (.newarray .int, 2) := by decide +kernel
theorem dL_sticks_528 : decode cL_sticks 528 = .ok (.dup, 1) := by decide +kernel
theorem dL_sticks_529 : decode cL_sticks 529 = .ok (.iconst 0, 1) := by decide +kernel
theorem dL_sticks_530 : decode cL_sticks 530 = .ok (.iload_n 2, 1) := by decide +kernel
theorem dL_sticks_531 : decode cL_sticks 531 = .ok (.iastore, 1) := by decide +kernel
theorem dL_sticks_532 : decode cL_sticks 532 = .ok (.invokestatic 161, 3) := by decide +kernel
theorem dL_sticks_535 : decode cL_sticks 535 = .ok (.iconst 3, 1) := by decide +kernel
theorem dL_sticks_536 : decode cL_sticks 536 = .ok (.if_icmp .eq 5, 3) := by decide +kernel
theorem dL_sticks_539 : decode cL_sticks 539 = .ok (.iconst 0, 1) := by decide +kernel
theorem dL_sticks_540 : decode cL_sticks 540 = .ok (.ireturn, 1) := by decide +kernel
theorem dL_sticks_541 : decode cL_sticks 541 = .ok (.aload_n 1, 1) := by decide +kernel
theorem dL_sticks_542 : decode cL_sticks 542 = .ok (.bipush 115, 2) := by decide +kernel
theorem dL_sticks_544 : decode cL_sticks 544 = .ok (.iconst 1, 1) := by decide +kernel
theorem dL_sticks_545 : decode cL_sticks 545 = .ok (.newarray .int, 2) := by decide +kernel
theorem dL_sticks_547 : decode cL_sticks 547 = .ok (.dup, 1) := by decide +kernel
theorem dL_sticks_548 : decode cL_sticks 548 = .ok (.iconst 0, 1) := by decide +kernel
theorem dL_sticks_549 : decode cL_sticks 549 = .ok (.iload_n 2, 1) := by decide +kernel
theorem dL_sticks_550 : decode cL_sticks 550 = .ok (.iastore, 1) := by decide +kernel
theorem dL_sticks_551 : decode cL_sticks 551 = .ok (.invokestatic 161, 3) := by decide +kernel
theorem dL_sticks_554 : decode cL_sticks 554 = .ok (.ifCond .ne 89, 3) := by decide +kernel
theorem dL_sticks_557 : decode cL_sticks 557 = .ok (.aload_n 1, 1) := by decide +kernel
theorem dL_sticks_558 : decode cL_sticks 558 = .ok (.bipush 119, 2) := by decide +kernel
theorem dL_sticks_560 : decode cL_sticks 560 = .ok (.iconst 3, 1) := by decide +kernel
theorem dL_sticks_561 : decode cL_sticks 561 = .ok (.newarray .int, 2) := by decide +kernel
theorem dL_sticks_563 : decode cL_sticks 563 = .ok (.dup, 1) := by decide +kernel
theorem dL_sticks_564 : decode cL_sticks 564 = .ok (.iconst 0, 1) := by decide +kernel
theorem dL_sticks_565 : decode cL_sticks 565 = .ok (.iload_n 2, 1) := by decide +kernel
theorem dL_sticks_566 : decode cL_sticks 566 = .ok (.iastore, 1) := by decide +kernel
theorem dL_sticks_567 : decode cL_sticks 567 = .ok (.dup, 1) := by decide +kernel
theorem dL_sticks_568 : decode cL_sticks 568 = .ok (.iconst 1, 1) := by decide +kernel
theorem dL_sticks_569 : decode cL_sticks 569 = .ok (.iconst 2, 1) := by decide +kernel
theorem dL_sticks_570 : decode cL_sticks 570 = .ok (.iastore, 1) := by decide +kernel
theorem dL_sticks_571 : decode cL_sticks 571 = .ok (.dup, 1) := by decide +kernel
theorem dL_sticks_572 : decode cL_sticks 572 = .ok (.iconst 2, 1) := by decide +kernel
theorem dL_sticks_573 : decode cL_sticks 573 = .ok (.iconst 5, 1) := by decide +kernel
theorem dL_sticks_574 : decode cL_sticks 574 = .ok (.iastore, 1) := by decide +kernel
theorem dL_sticks_575 : decode cL_sticks 575 = .ok (.invokestatic 161, 3) := by decide +kernel
theorem dL_sticks_578 : decode cL_sticks 578 = .ok (.iload 4, 2) := by decide +kernel
theorem dL_sticks_580 : decode cL_sticks 580 = .ok (.if_icmp .ne 63, 3) := by decide +kernel
theorem dL_sticks_583 : decode cL_sticks 583 = .ok (.aload_n 1, 1) := by decide +kernel
theorem dL_sticks_584 : decode cL_sticks 584 = .ok (.invokevirtual 191, 3) := by decide +kernel
theorem dL_sticks_587 : decode cL_sticks 587 = .ok (.iconst 3, 1) := by decide +kernel
theorem dL_sticks_588 : decode cL_sticks 588 = .ok (.if_icmp .ne 55, 3) := by decide +kernel
theorem dL_sticks_591 : decode cL_sticks 591 = .ok (.aload_n 1, 1) := by decide +kernel
theorem dL_sticks_592 : decode cL_sticks 592 = .ok (.bipush 115, 2) := by decide +kernel
theorem dL_sticks_594 : decode cL_sticks 594 = .ok (.iconst 1, 1) := by decide +kernel
theorem dL_sticks_595 : decode cL_sticks 595 = .ok (.newarray .int, 2) := by decide +kernel
theorem dL_sticks_597 : decode cL_sticks 597 = .ok (.dup, 1) := by decide +kernel
theorem dL_sticks_598 : decode cL_sticks 598 = .ok (.iconst 0, 1) := by decide +kernel
theorem dL_sticks_599 : decode cL_sticks 599 = .ok (.iload_n 2, 1) := by decide +kernel
theorem dL_sticks_600 : decode cL_sticks 600 = .ok (.iastore, 1) := by decide +kernel
theorem dL_sticks_601 : decode cL_sticks 601 = .ok (.invokestatic 161, 3) := by decide +kernel
theorem dL_sticks_604 : decode cL_sticks 604 = .ok (.ifCond .ne 39, 3) := by decide +kernel
theorem dL_sticks_607 : decode cL_sticks 607 = .ok (.aload_n 1, 1) := by decide +kernel
theorem dL_sticks_608 : decode cL_sticks 608 = .ok (.bipush 111, 2) := by decide +kernel
theorem dL_sticks_610 : decode cL_sticks 610 = .ok (.iconst 1, 1) := by decide +kernel
theorem dL_sticks_611 : decode cL_sticks 611 = .ok (.newarray .int, 2) := by decide +kernel
theorem dL_sticks_613 : decode cL_sticks 613 = .ok (.dup, 1) := by decide +kernel
theorem dL_sticks_614 : decode cL_sticks 614 = .ok (.iconst 0, 1) := by decide +kernel
theorem dL_sticks_615 : decode cL_sticks 615 = .ok (.iconst 1, 1) := by decide +kernel
theorem dL_sticks_616 : decode cL_sticks 616 = .ok (.iastore, 1) := by decide +kernel
theorem dL_sticks_617 : decode cL_sticks 617 = .ok (.invokestatic 161, 3) := by decide +kernel
theorem dL_sticks_620 : decode cL_sticks 620 = .ok (.iload 4, 2) := by decide +kernel
theorem dL_sticks_622 : decode cL_sticks 622 = .ok (.if_icmp .ne 21, 3) := by decide +kernel
theorem dL_sticks_625 : decode cL_sticks 625 = .ok (.aload_n 1, 1) := by decide +kernel
theorem dL_sticks_626 : decode cL_sticks 626 = .ok (.invokevirtual 146, 3) := by decide +kernel
theorem dL_sticks_629 : decode cL_sticks 629 = .ok (.ifCond .eq 14, 3) := by decide +kernel
theorem dL_sticks_632 : decode cL_sticks 632 = .ok (.aload_n 1, 1) := by decide +kernel
theorem dL_sticks_633 : decode cL_sticks 633 = .ok (.invokevirtual 150, 3) := by decide +kernel
theorem dL_sticks_636 : decode cL_sticks 636 = .ok (.ifCond .eq 7, 3) := by decide +kernel
theorem dL_sticks_639 : decode cL_sticks 639 = .ok (.iconst 1, 1) := by decide +kernel
theorem dL_sticks_640 : decode cL_sticks 640 = .ok (.goto 4, 3) := by decide +kernel
theorem dL_sticks_643 : decode cL_sticks 643 = .ok (.iconst 0, 1) := by decide +kernel
theorem dL_sticks_644 : decode cL_sticks 644 = .ok (.ireturn, 1) := by decide +kernel
theorem dL_full_0 : decode cL_full 0 = .ok (.new 8, 3) := by decide +kernel
theorem dL_full_3 : decode cL_full 3 = .ok (.dup, 1) := by decide +kernel
theorem dL_full_4 : decode cL_full 4 = .ok (.invokespecial 138, 3) := by decide +kernel
theorem dL_full_7 : decode cL_full 7 = .ok (.astore_n 1, 1) := by decide +kernel
theorem dL_full_8 : decode cL_full 8 = .ok (.iconst 1, 1) := by decide +kernel
theorem dL_full_9 : decode cL_full 9 = .ok (.istore_n 2, 1) := by decide +kernel
theorem dL_full_10 : decode cL_full 10 = .ok (.iload_n 2, 1) := by decide +kernel
theorem dL_full_11 : decode cL_full 11 = .ok (.bipush 10, 2) := by decide +kernel
theorem dL_full_13 : decode cL_full 13 = .ok (.if_icmp .gt 42, 3) := by decide +kernel
theorem dL_full_16 : decode cL_full 16 = .ok (.aload_n 1, 1) := by decide +kernel
theorem dL_full_17 : decode cL_full 17 = .ok (.bipush 67, 2) := by decide +kernel
theorem dL_full_19 : decode cL_full 19 = .ok (.iconst 4, 1) := by decide +kernel
theorem dL_full_20 : decode cL_full 20 = .ok (.newarray .int, 2) := by decide +kernel
theorem dL_full_22 : decode cL_full 22 = .ok (.dup, 1) := by decide +kernel
theorem dL_full_23 : decode cL_full 23 = .ok (.iconst 0, 1) := by decide +kernel
theorem dL_full_24 : decode cL_full 24 = .ok (.iconst 0, 1) := by decide +kernel
theorem dL_full_25 : decode cL_full 25 = .ok (.iastore, 1) := by decide +kernel
theorem dL_full_26 : decode cL_full 26 = .ok (.dup, 1) := by decide +kernel
theorem dL_full_27 : decode cL_full 27 = .ok (.iconst 1, 1) := by decide +kernel
theorem dL_full_28 : decode cL_full 28 = .ok (.bipush 106, 2) := by decide +kernel
theorem dL_full_30 : decode cL_full 30 = .ok (.iastore, 1) := by decide +kernel
theorem dL_full_31 : decode cL_full 31 = .ok (.dup, 1) := by decide +kernel
theorem dL_full_32 : decode cL_full 32 = .ok (.iconst 2, 1) := by decide +kernel
theorem dL_full_33 : decode cL_full 33 = .ok (.iconst 0, 1) := by decide +kernel
theorem dL_full_34 : decode cL_full 34 = .ok (.iastore, 1) := by decide +kernel
theorem dL_full_35 : decode cL_full 35 = .ok (.dup, 1) := by decide +kernel
theorem dL_full_36 : decode cL_full 36 = .ok (.iconst 3, 1) := by decide +kernel
theorem dL_full_37 : decode cL_full 37 = .ok (.bipush 9, 2) := by decide +kernel
theorem dL_full_39 : decode cL_full 39 = .ok (.iastore, 1) := by decide +kernel
theorem dL_full_40 : decode cL_full 40 = .ok (.invokestatic 161, 3) := by decide +kernel
theorem dL_full_43 : decode cL_full 43 = .ok (.iload_n 2, 1) := by decide +kernel
theorem dL_full_44 : decode cL_full 44 = .ok (.if_icmp .eq 5, 3) := by decide +kernel
theorem dL_full_47 : decode cL_full 47 = .ok (.iconst 0, 1) := by decide +kernel
theorem dL_full_48 : decode cL_full 48 = .ok (.ireturn, 1) := by decide +kernel
theorem dL_full_49 : decode cL_full 49 = .ok (.iinc 2 1, 3) := by decide +kernel
theorem dL_full_52 : decode cL_full 52 = .ok (.goto (-42), 3) := by decide +kernel
theorem dL_full_55 : decode cL_full 55 = .ok (.new 8, 3) := by decide +kernel
theorem dL_full_58 : decode cL_full 58 = .ok (.dup, 1) := by decide +kernel
theorem dL_full_59 : decode cL_full 59 = .ok (.invokespecial 138, 3) := by decide +kernel
theorem dL_full_62 : decode cL_full 62 = .ok (.astore_n 2, 1) := by decide +kernel
theorem dL_full_63 : decode cL_full 63 = .ok (.aload_n 1, 1) := by decide +kernel
theorem dL_full_64 : decode cL_full 64 = .ok (.bipush 67, 2) := by decide +kernel
theorem dL_full_66 : decode cL_full 66 = .ok (.iconst 4, 1) := by decide +kernel
theorem dL_full_67 : decode cL_full 67 = .ok (.newarray .int, 2) := by decide +kernel
theorem dL_full_69 : decode cL_full 69 = .ok (.dup, 1) := by decide +kernel
theorem dL_full_70 : decode cL_full 70 = .ok (.iconst 0, 1) := by decide +kernel
theorem dL_full_71 : decode cL_full 71 = .ok (.iconst 0, 1) := by decide +kernel
theorem dL_full_72 : decode cL_full 72 = .ok (.iastore, 1) := by decide +kernel
theorem dL_full_73 : decode cL_full 73 = .ok (.dup, 1) := by decide +kernel
theorem dL_full_74 : decode cL_full 74 = .ok (.iconst 1, 1) := by decide +kernel
theorem dL_full_75 : decode cL_full 75 = .ok (.bipush 106, 2) := by decide +kernel
theorem dL_full_77 : decode cL_full 77 = .ok (.iastore, 1) := by decide +kernel
theorem dL_full_78 : decode cL_full 78 = .ok (.dup, 1) := by decide +kernel
theorem dL_full_79 : decode cL_full 79 = .ok (.iconst 2, 1) := by decide +kernel
theorem dL_full_80 : decode cL_full 80 = .ok (.iconst 0, 1) := by decide +kernel
theorem dL_full_81 : decode cL_full 81 = .ok (.iastore, 1) := by decide +kernel
theorem dL_full_82 : decode cL_full 82 = .ok (.dup, 1) := by decide +kernel
theorem dL_full_83 : decode cL_full 83 = .ok (.iconst 3, 1) := by decide +kernel
theorem dL_full_84 : decode cL_full 84 = .ok (.bipush 9, 2) := by decide +kernel
theorem dL_full_86 : decode cL_full 86 = .ok (.iastore, 1) := by decide +kernel
theorem dL_full_87 : decode cL_full 87 = .ok (.invokestatic 161, 3) := by decide +kernel
theorem dL_full_90 : decode cL_full 90 = .ok (.ldc 77, 2) := by decide +kernel
theorem dL_full_92 : decode cL_full 92 = .ok (.if_icmp .ne 150, 3) := by decide +kernel
theorem dL_full_95 : decode cL_full 95 = .ok (.aload_n 1, 1) := by decide +kernel
theorem dL_full_96 : decode cL_full 96 = .ok (.bipush 99, 2) := by decide +kernel
theorem dL_full_98 : decode cL_full 98 = .ok (.iconst 1, 1) := by decide +kernel
theorem dL_full_99 : decode cL_full 99 = .ok (.newarray .int, 2) := by decide +kernel
theorem dL_full_101 : decode cL_full 101 = .ok (.dup, 1) := by decide +kernel
theorem dL_full_102 : decode cL_full 102 = .ok (.iconst 0, 1) := by decide +kernel
theorem dL_full_103 : decode cL_full 103 = .ok (.iconst 0, 1) := by decide +kernel
theorem dL_full_104 : decode cL_full 104 = .ok (.iastore, 1) := by decide +kernel
theorem dL_full_105 : decode cL_full 105 = .ok (.invokestatic 161, 3) := by decide +kernel
theorem dL_full_108 : decode cL_full 108 = .ok (.bipush 10, 2) := by decide +kernel
theorem dL_full_110 : decode cL_full 110 = .ok (.if_icmp .ne 132, 3) := by decide +kernel
theorem dL_full_113 : decode cL_full 113 = .ok (.aload_n 1, 1) := by decide +kernel
theorem dL_full_114 : decode cL_full 114 = .ok (.bipush 99, 2) := by decide +kernel
theorem dL_full_116 : decode cL_full 116 = .ok (.iconst 1, 1) := by decide +kernel
theorem dL_full_117 : decode cL_full 117 = .ok (.newarray .int, 2) := by decide +kernel
theorem dL_full_119 : decode cL_full 119 = .ok (.dup, 1) := by decide +kernel
theorem dL_full_120 : decode cL_full 120 = .ok (.iconst 0, 1) := by decide +kernel
theorem dL_full_121 : decode cL_full 121 = .ok (.iconst 0, 1) := by decide +kernel
theorem dL_full_122 : decode cL_full 122 = .ok (.iastore, 1) := by decide +kernel
theorem dL_full_123 : decode cL_full 123 = .ok (.invokestatic 161, 3) := by decide +kernel
theorem dL_full_126 : decode cL_full 126 = .ok (.ifCond .ne 116, 3) := by decide +kernel
theorem dL_full_129 : decode cL_full 129 = .ok (.aload_n 2, 1) := by decide +kernel
theorem dL_full_130 : decode cL_full 130 = .ok (.bipush 67, 2) := by decide +kernel
theorem dL_full_132 : decode cL_full 132 = .ok (.iconst 4, 1) := by decide +kernel
theorem dL_full_133 : decode cL_full 133 = .ok (.newarray .int, 2) := by decide +kernel
theorem dL_full_135 : decode cL_full 135 = .ok (.dup, 1) := by decide +kernel
theorem dL_full_136 : decode cL_full 136 = .ok (.iconst 0, 1) := by decide +kernel
theorem dL_full_137 : decode cL_full 137 = .ok (.iconst 1, 1) := by decide +kernel
theorem dL_full_138 : decode cL_full 138 = .ok (.iastore, 1) := by decide +kernel
theorem dL_full_139 : decode cL_full 139 = .ok (.dup, 1) := by decide +kernel
theorem dL_full_140 : decode cL_full 140 = .ok (.iconst 1, 1) := by decide +kernel
theorem dL_full_141 : decode cL_full 141 = .ok (.bipush 108, 2) := by decide +kernel
theorem dL_full_143 : decode cL_full 143 = .ok (.iastore, 1) := by decide +kernel
theorem dL_full_144 : decode cL_full 144 = .ok (.dup, 1) := by decide +kernel
theorem dL_full_145 : decode cL_full 145 = .ok (.iconst 2, 1) := by decide +kernel
theorem dL_full_146 : decode cL_full 146 = .ok (.iconst 0, 1) := by decide +kernel
theorem dL_full_147 : decode cL_full 147 = .ok (.iastore, 1) := by decide +kernel
theorem dL_full_148 : decode cL_full 148 = .ok (.dup, 1) := by decide +kernel
theorem dL_full_149 : decode cL_full 149 = .ok (.iconst 3, 1) := by decide +kernel
theorem dL_full_150 : decode cL_full 150 = .ok (.iconst 1, 1) := by decide +kernel
theorem dL_full_151 : decode cL_full 151 = .ok (.iastore, 1) := by decide +kernel
theorem dL_full_152 : decode cL_full 152 = .ok (.invokestatic 161, 3) := by decide +kernel
theorem dL_full_155 : decode cL_full 155 = .ok (.iconst 1, 1) := by decide +kernel
theorem dL_full_156 : decode cL_full 156 = .ok (.if_icmp .ne 86, 3) := by decide +kernel
theorem dL_full_159 : decode cL_full 159 = .ok (.aload_n 2, 1) := by decide +kernel
theorem dL_full_160 : decode cL_full 160 = .ok (.bipush 67, 2) := by decide +kernel
theorem dL_full_162 : decode cL_full 162 = .ok (.iconst 4, 1) := by decide +kernel
theorem dL_full_163 : decode cL_full 163 = .ok (.newarray .int, 2) := by decide +kernel
theorem dL_full_165 : decode cL_full 165 = .ok (.dup, 1) := by decide +kernel
theorem dL_full_166 : decode cL_full 166 = .ok (.iconst 0, 1) := by decide +kernel
theorem dL_full_167 : decode cL_full 167 = .ok (.iconst 1, 1) := by decide +kernel
theorem dL_full_168 : decode cL_full 168 = .ok (.iastore, 1) := by decide +kernel
theorem dL_full_169 : decode cL_full 169 = .ok (.dup, 1) := by decide +kernel
theorem dL_full_170 : decode cL_full 170 = .ok (.iconst 1, 1) := by decide +kernel
theorem dL_full_171 : decode cL_full 171 = .ok (.bipush 106, 2) := by decide +kernel
theorem dL_full_173 : decode cL_full 173 = .ok (.iastore, 1) := by decide +kernel
theorem dL_full_174 : decode cL_full 174 = .ok (.dup, 1) := by decide +kernel
theorem dL_full_175 : decode cL_full 175 = .ok (.iconst 2, 1) := by decide +kernel
theorem dL_full_176 : decode cL_full 176 = .ok (.iconst 0, 1) := by decide +kernel
theorem dL_full_177 : decode cL_full 177 = .ok (.iastore, 1) := by decide +kernel
theorem dL_full_178 : decode cL_full 178 = .ok (.dup, 1) := by decide +kernel
theorem dL_full_179 : decode cL_full 179 = .ok (.iconst 3, 1) := by decide +kernel
theorem dL_full_180 : decode cL_full 180 = .ok (.iconst 0, 1) := by decide +kernel
theorem dL_full_181 : decode cL_full 181 = .ok (.iastore, 1) := by decide +kernel
theorem dL_full_182 : decode cL_full 182 = .ok (.invokestatic 161, 3) := by decide +kernel
theorem dL_full_185 : decode cL_full 185 = .ok (.iconst 2, 1) := by decide +kernel
theorem dL_full_186 : decode cL_full 186 = .ok (.if_icmp .ne 56, 3) := by decide +kernel
theorem dL_full_189 : decode cL_full 189 = .ok (.aload_n 2, 1) := by decide +kernel
theorem dL_full_190 : decode cL_full 190 = .ok (.bipush 83, 2) := by decide +kernel
theorem dL_full_192 : decode cL_full 192 = .ok (.iconst 3, 1) := by decide +kernel
theorem dL_full_193 : decode cL_full 193 = .ok (.newarray .int, 2) := by decide +kernel
theorem dL_full_195 : decode cL_full 195 = .ok (.dup, 1) := by decide +kernel
theorem dL_full_196 : decode cL_full 196 = .ok (.iconst 0, 1) := by decide +kernel
theorem dL_full_197 : decode cL_full 197 = .ok (.iconst 1, 1) := by decide +kernel
theorem dL_full_198 : decode cL_full 198 = .ok (.iastore, 1) := by decide +kernel
theorem dL_full_199 : decode cL_full 199 = .ok (.dup, 1) := by decide +kernel
theorem dL_full_200 : decode cL_full 200 = .ok (.iconst 1, 1) := by decide +kernel
theorem dL_full_201 : decode cL_full 201 = .ok (.iconst 0, 1) := by decide +kernel
theorem dL_full_202 : decode cL_full 202 = .ok (.iastore, 1) := by decide +kernel
theorem dL_full_203 : decode cL_full 203 = .ok (.dup, 1) := by decide +kernel
theorem dL_full_204 : decode cL_full 204 = .ok (.iconst 2, 1) := by decide +kernel
theorem dL_full_205 : decode cL_full 205 = .ok (.iconst 1, 1) := by decide +kernel
theorem dL_full_206 : decode cL_full 206 = .ok (.iastore, 1) := by decide +kernel
theorem dL_full_207 : decode cL_full 207 = .ok (.invokestatic 161, 3) := by decide +kernel
theorem dL_full_210 : decode cL_full 210 = .ok (.iconst (-1), 1) := by decide +kernel
theorem dL_full_211 : decode cL_full 211 = .ok (.if_icmp .ne 31, 3) := by decide +kernel
theorem dL_full_214 : decode cL_full 214 = .ok (.aload_n 2, 1) := by decide +kernel
theorem dL_full_215 : decode cL_full 215 = .ok (.invokevirtual 191, 3) := by decide +kernel
theorem dL_full_218 : decode cL_full 218 = .ok (.iconst 3, 1) := by decide +kernel
theorem dL_full_219 : decode cL_full 219 = .ok (.if_icmp .ne 23, 3) := by decide +kernel
theorem dL_full_222 : decode cL_full 222 = .ok (.aload_n 2, 1) := by decide +kernel
theorem dL_full_223 : decode cL_full 223 = .ok (.bipush 118, 2) := by decide +kernel
theorem dL_full_225 : decode cL_full 225 = .ok (.iconst 1, 1) := by decide +kernel
theorem dL_full_226 : decode cL_full 226 = .ok (.newarray .int, 2) := by decide +kernel
theorem dL_full_228 : decode cL_full 228 = .ok (.dup, 1) := by decide +kernel
theorem dL_full_229 : decode cL_full 229 = .ok (.iconst 0, 1) := by decide +kernel
theorem dL_full_230 : decode cL_full 230 = .ok (.iconst 1, 1) := by decide +kernel
theorem dL_full_231 : decode cL_full 231 = .ok (.iastore, 1) := by decide +kernel
theorem dL_full_232 : decode cL_full 232 = .ok (.invokestatic 161, 3) := by decide +kernel
theorem dL_full_235 : decode cL_full 235 = .ok (.ifCond .ne 7, 3) := by decide +kernel
theorem dL_full_238 : decode cL_full 238 = .ok (.iconst 1, 1) := by decide +kernel
theorem dL_full_239 : decode cL_full 239 = .ok (.goto 4, 3) := by decide +kernel
theorem dL_full_242 : decode cL_full 242 = .ok (.iconst 0, 1) := by decide +kernel
theorem dL_full_243 : decode cL_full 243 = .ok (.istore_n 3, 1) := by decide +kernel
theorem dL_full_244 : decode cL_full 244 = .ok (.iload_n 3, 1) := by decide +kernel
theorem dL_full_245 : decode cL_full 245 = .ok (.ifCond .eq 93, 3) := by decide +kernel
theorem dL_full_248 : decode cL_full 248 = .ok (.aload_n 2, 1) := by decide +kernel
theorem dL_full_249 : decode cL_full 249 = .ok (.bipush 65, 2) := by decide +kernel
theorem dL_full_251 : decode cL_full 251 = .ok (.iconst 1, 1) := by decide +kernel
theorem dL_full_252 : decode cL_full 252 = .ok (.newarray .int, 2) := by decide +kernel
theorem dL_full_254 : decode cL_full 254 = .ok (.dup, 1) := by decide +kernel
theorem dL_full_255 : decode cL_full 255 = .ok (.iconst 0, 1) := by decide +kernel
theorem dL_full_256 : decode cL_full 256 = .ok (.bipush 109, 2) := by decide +kernel
theorem dL_full_258 : decode cL_full 258 = .ok (.iastore, 1) := by decide +kernel
theorem dL_full_259 : decode cL_full 259 = .ok (.invokestatic 161, 3) := by decide +kernel
theorem dL_full_262 : decode cL_full 262 = .ok (.iconst 4, 1) := by decide +kernel
theorem dL_full_263 : decode cL_full 263 = .ok (.if_icmp .ne 75, 3) := by decide +kernel
theorem dL_full_266 : decode cL_full 266 = .ok (.aload_n 2, 1) := by decide +kernel
theorem dL_full_267 : decode cL_full 267 = .ok (.bipush 71, 2) := by decide +kernel
theorem dL_full_269 : decode cL_full 269 = .ok (.iconst 1, 1) := by decide +kernel
theorem dL_full_270 : decode cL_full 270 = .ok (.newarray .int, 2) := by decide +kernel
theorem dL_full_272 : decode cL_full 272 = .ok (.dup, 1) := by decide +kernel
theorem dL_full_273 : decode cL_full 273 = .ok (.iconst 0, 1) := by decide +kernel
theorem dL_full_274 : decode cL_full 274 = .ok (.bipush 109, 2) := by decide +kernel
theorem dL_full_276 : decode cL_full 276 = .ok (.iastore, 1) := by decide +kernel
theorem dL_full_277 : decode cL_full 277 = .ok (.invokestatic 161, 3) := by decide +kernel
theorem dL_full_280 : decode cL_full 280 = .ok (.iconst 1, 1) := by decide +kernel
theorem dL_full_281 : decode cL_full 281 = .ok (.if_icmp .ne 57, 3) := by decide +kernel
theorem dL_full_284 : decode cL_full 284 = .ok (.aload_n 2, 1) := by decide +kernel
theorem dL_full_285 : decode cL_full 285 = .ok (.invokevirtual 191, 3) := by decide +kernel
theorem dL_full_288 : decode cL_full 288 = .ok (.iconst 3, 1) := by decide +kernel
theorem dL_full_289 : decode cL_full 289 = .ok (.if_icmp .ne 49, 3) := by decide +kernel
theorem dL_full_292 : decode cL_full 292 = .ok (.aload_n 2, 1) := by decide +kernel
theorem dL_full_293 : decode cL_full 293 = .ok (.bipush 118, 2) := by decide +kernel
theorem dL_full_295 : decode cL_full 295 = .ok (.iconst 1, 1) := by decide +kernel
theorem dL_full_296 : decode cL_full 296 = .ok (.newarray .int, 2) := by decide +kernel
theorem dL_full_298 : decode cL_full 298 = .ok (.dup, 1) := by decide +kernel
theorem dL_full_299 : decode cL_full 299 = .ok (.iconst 0, 1) := by decide +kernel
theorem dL_full_300 : decode cL_full 300 = .ok (.iconst 1, 1) := by decide +kernel
theorem dL_full_301 : decode cL_full 301 = .ok (.iastore, 1) := by decide +kernel
theorem dL_full_302 : decode cL_full 302 = .ok (.invokestatic 161, 3) := by decide +kernel
theorem dL_full_305 : decode cL_full 305 = .ok (.iconst 1, 1) := by decide +kernel
theorem dL_full_306 : decode cL_full 306 = .ok (.if_icmp .ne 32, 3) := by decide +kernel
theorem dL_full_309 : decode cL_full 309 = .ok (.aload_n 2, 1) := by decide +kernel
theorem dL_full_310 : decode cL_full 310 = .ok (.invokevirtual 191, 3) := by decide +kernel
theorem dL_full_313 : decode cL_full 313 = .ok (.iconst 3, 1) := by decide +kernel
theorem dL_full_314 : decode cL_full 314 = .ok (.if_icmp .ne 24, 3) := by decide +kernel
theorem dL_full_317 : decode cL_full 317 = .ok (.aload_n 2, 1) := by decide +kernel
theorem dL_full_318 : decode cL_full 318 = .ok (.bipush 118, 2) := by decide +kernel
theorem dL_full_320 : decode cL_full 320 = .ok (.iconst 1, 1) := by decide +kernel
theorem dL_full_321 : decode cL_full 321 = .ok (.newarray .int, 2) := by decide +kernel
theorem dL_full_323 : decode cL_full 323 = .ok (.dup, 1) := by decide +kernel
theorem dL_full_324 : decode cL_full 324 = .ok (.iconst 0, 1) := by decide +kernel
theorem dL_full_325 : decode cL_full 325 = .ok (.iconst 1, 1) := by decide +kernel
theorem dL_full_326 : decode cL_full 326 = .ok (.iastore, 1) := by decide +kernel
theorem dL_full_327 : decode cL_full 327 = .ok (.invokestatic 161, 3) := by decide +kernel
theorem dL_full_330 : decode cL_full 330 = .ok (.iconst 2, 1) := by decide +kernel
theorem dL_full_331 : decode cL_full 331 = .ok (.if_icmp .ne 7, 3) := by decide +kernel
theorem dL_full_334 : decode cL_full 334 = .ok (.iconst 1, 1) := by decide +kernel
theorem dL_full_335 : decode cL_full 335 = .ok (.goto 4, 3) := by decide +kernel
theorem dL_full_338 : decode cL_full 338 = .ok (.iconst 0, 1) := by decide +kernel
theorem dL_full_339 : decode cL_full 339 = .ok (.istore_n 3, 1) := by decide +kernel
theorem dL_full_340 : decode cL_full 340 = .ok (.iload_n 3, 1) := by decide +kernel
theorem dL_full_341 : decode cL_full 341 = .ok (.ifCond .eq 98, 3) := by decide +kernel
theorem dL_full_344 : decode cL_full 344 = .ok (.aload_n 2, 1) := by decide +kernel
theorem dL_full_345 : decode cL_full 345 = .ok (.bipush 65, 2) := by decide +kernel
theorem dL_full_347 : decode cL_full 347 = .ok (.iconst 1, 1) := by decide +kernel
theorem dL_full_348 : decode cL_full 348 = .ok (.newarray .int, 2) := by decide +kernel
theorem dL_full_350 : decode cL_full 350 = .ok (.dup, 1) := by decide +kernel
theorem dL_full_351 : decode cL_full 351 = .ok (.iconst 0, 1) := by decide +kernel
theorem dL_full_352 : decode cL_full 352 = .ok (.bipush 109, 2) := by decide +kernel
theorem dL_full_354 : decode cL_full 354 = .ok (.iastore, 1) := by decide +kernel
theorem dL_full_355 : decode cL_full 355 = .ok (.invokestatic 161, 3) := by decide +kernel
theorem dL_full_358 : decode cL_full 358 = .ok (.bipush 6, 2) := by decide +kernel
theorem dL_full_360 : decode cL_full 360 = .ok (.if_icmp .ne 79, 3) := by decide +kernel
theorem dL_full_363 : decode cL_full 363 = .ok (.aload_n 2, 1) := by decide +kernel
theorem dL_full_364 : decode cL_full 364 = .ok (.invokevirtual 191, 3) := by decide +kernel
theorem dL_full_367 : decode cL_full 367 = .ok (.iconst 3, 1) := by decide +kernel
theorem dL_full_368 : decode cL_full 368 = .ok (.if_icmp .ne 71, 3) := by decide +kernel
theorem dL_full_371 : decode cL_full 371 = .ok (.aload_n 2, 1) := by decide +kernel
theorem dL_full_372 : decode cL_full 372 = .ok (.invokevirtual 191, 3) := by decide +kernel
theorem dL_full_375 : decode cL_full 375 = .ok (.iconst 3, 1) := by decide +kernel
theorem dL_full_376 : decode cL_full 376 = .ok (.if_icmp .ne 63, 3) := by decide +kernel
theorem dL_full_379 : decode cL_full 379 = .ok (.aload_n 2, 1) := by decide +kernel
theorem dL_full_380 : decode cL_full 380 = .ok (.invokevirtual 191, 3) := by decide +kernel
theorem dL_full_383 : decode cL_full 383 = .ok (.iconst 3, 1) := by decide +kernel
theorem dL_full_384 : decode cL_full 384 = .ok (.if_icmp .ne 55, 3) := by decide +kernel
theorem dL_full_387 : decode cL_full 387 = .ok (.aload_n 2, 1) := by decide +kernel
theorem dL_full_388 : decode cL_full 388 = .ok (.invokevirtual 191, 3) := by decide +kernel
theorem dL_full_391 : decode cL_full 391 = .ok (.iconst 3, 1) := by decide +kernel
theorem dL_full_392 : decode cL_full 392 = .ok (.if_icmp .ne 47, 3) := by decide +kernel
theorem dL_full_395 : decode cL_full 395 = .ok (.aload_n 2, 1) := by decide +kernel
theorem dL_full_396 : decode cL_full 396 = .ok (.bipush 71, 2) := by decide +kernel
theorem dL_full_398 : decode cL_full 398 = .ok (.iconst 1, 1) := by decide +kernel
theorem dL_full_399 : decode cL_full 399 = .ok (.newarray .int, 2) := by decide +kernel
theorem dL_full_401 : decode cL_full 401 = .ok (.dup, 1) := by decide +kernel
theorem dL_full_402 : decode cL_full 402 = .ok (.iconst 0, 1) := by decide +kernel
theorem dL_full_403 : decode cL_full 403 = .ok (.bipush 109, 2) := by decide +kernel
theorem dL_full_405 : decode cL_full 405 = .ok (.iastore, 1) := by decide +kernel
theorem dL_full_406 : decode cL_full 406 = .ok (.invokestatic 161, 3) := by decide +kernel
theorem dL_full_409 : decode cL_full 409 = .ok (.ldc 80, 2) := by decide +kernel
theorem dL_full_411 : decode cL_full 411 = .ok (.if_icmp .ne 28, 3) := by decide +kernel
theorem dL_full_414 : decode cL_full 414 = .ok (.aload_n 2, 1) := by decide +kernel
theorem dL_full_415 : decode cL_full 415 = .ok (.invokevirtual 143, 3) := by decide +kernel
theorem dL_full_418 : decode cL_full 418 = .ok (.iconst 1, 1) := by decide +kernel
theorem dL_full_419 : decode cL_full 419 = .ok (.if_icmp .ne 20, 3) := by decide +kernel
theorem dL_full_422 : decode cL_full 422 = .ok (.aload_n 0, 1) := by decide +kernel
theorem dL_full_423 : decode cL_full 423 = .ok (.bipush 70, 2) := by decide +kernel
theorem dL_full_425 : decode cL_full 425 = .ok (.invokestatic 178, 3) := by decide +kernel
theorem dL_full_428 : decode cL_full 428 = .ok (.iconst 2, 1) := by decide +kernel
theorem dL_full_429 : decode cL_full 429 = .ok (.invokestatic 183, 3) := by decide +kernel
theorem dL_full_432 : decode cL_full 432 = .ok (.ifCond .lt 7, 3) := by decide +kernel
theorem dL_full_435 : decode cL_full 435 = .ok (.iconst 1, 1) := by decide +kernel
theorem dL_full_436 : decode cL_full 436 = .ok (.goto 4, 3) := by decide +kernel
theorem dL_full_439 : decode cL_full 439 = .ok (.iconst 0, 1) := by decide +kernel
theorem dL_full_440 : decode cL_full 440 = .ok (.ireturn, 1) := by decide +kernel
