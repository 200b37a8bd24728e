theorem d_L_0 : decode code 0 = .ok (.new 7, 3) := by decide +kernel
theorem d_L_3 : decode code 3 = .ok (.dup, 1) := by decide +kernel
theorem d_L_4 : decode code 4 = .ok (.invokespecial 9, 3) := by decide +kernel
theorem d_L_7 : decode code 7 = .ok (.astore_n 1, 1) := by decide +kernel
theorem d_L_8 : decode code 8 = .ok (.new 10, 3) := by decide +kernel
theorem d_L_11 : decode code 11 = .ok (.dup, 1) := by decide +kernel
theorem d_L_12 : decode code 12 = .ok (.invokespecial 12, 3) := by decide +kernel
theorem d_L_15 : decode code 15 = .ok (.astore_n 2, 1) := by decide +kernel
theorem d_L_16 : decode code 16 = .ok (.iconst 0, 1) := by decide +kernel
theorem d_L_17 : decode code 17 = .ok (.istore_n 3, 1) := by decide +kernel
theorem d_L_18 : decode code 18 = .ok (.iload_n 3, 1) := by decide +kernel
theorem d_L_19 : decode code 19 = .ok (.aload_n 0, 1) := by decide +kernel
theorem d_L_20 : decode code 20 = .ok (.arraylength, 1) := by decide +kernel
theorem d_L_21 : decode code 21 = .ok (.bipush 6, 2) := by decide +kernel
theorem d_L_23 : decode code 23 = .ok (.isub, 1) := by decide +kernel
theorem d_L_24 : decode code 24 = .ok (.if_icmp .gt 1535, 3) := by decide +kernel
theorem d_L_27 : decode code 27 = .ok (.aload_n 0, 1) := by decide +kernel
theorem d_L_28 : decode code 28 = .ok (.iload_n 3, 1) := by decide +kernel
theorem d_L_29 : decode code 29 = .ok (.iaload, 1) := by decide +kernel
theorem d_L_30 : decode code 30 = .ok (.bipush 63, 2) := by decide +kernel
theorem d_L_32 : decode code 32 = .ok (.iand, 1) := by decide +kernel
theorem d_L_33 : decode code 33 = .ok (.tableswitch 1520 0 35 #[159, 172, 215, 248, 281, 314, 337, 360, 393, 446, 479, 532, 575, 608, 641, 674, 707, 750, 783, 837, 880, 933, 986, 1039, 1083, 1126, 1159, 1202, 1225, 1268, 1291, 1344, 1387, 1450, 1483, 1506], 159) := by decide +kernel
theorem d_L_192 : decode code 192 = .ok (.aload_n 1, 1) := by decide +kernel
theorem d_L_193 : decode code 193 = .ok (.invokevirtual 13, 3) := by decide +kernel
theorem d_L_196 : decode code 196 = .ok (.aload_n 2, 1) := by decide +kernel
theorem d_L_197 : decode code 197 = .ok (.invokevirtual 17, 3) := by decide +kernel
theorem d_L_200 : decode code 200 = .ok (.if_icmp .eq 1353, 3) := by decide +kernel
theorem d_L_203 : decode code 203 = .ok (.iconst 0, 1) := by decide +kernel
theorem d_L_204 : decode code 204 = .ok (.ireturn, 1) := by decide +kernel
theorem d_L_205 : decode code 205 = .ok (.aload_n 1, 1) := by decide +kernel
theorem d_L_206 : decode code 206 = .ok (.aload_n 0, 1) := by decide +kernel
theorem d_L_207 : decode code 207 = .ok (.iload_n 3, 1) := by decide +kernel
theorem d_L_208 : decode code 208 = .ok (.iconst 1, 1) := by decide +kernel
theorem d_L_209 : decode code 209 = .ok (.iadd, 1) := by decide +kernel
theorem d_L_210 : decode code 210 = .ok (.iaload, 1) := by decide +kernel
theorem d_L_211 : decode code 211 = .ok (.aload_n 0, 1) := by decide +kernel
theorem d_L_212 : decode code 212 = .ok (.iload_n 3, 1) := by decide +kernel
theorem d_L_213 : decode code 213 = .ok (.iconst 2, 1) := by decide +kernel
theorem d_L_214 : decode code 214 = .ok (.iadd, 1) := by decide +kernel
theorem d_L_215 : decode code 215 = .ok (.iaload, 1) := by decide +kernel
theorem d_L_216 : decode code 216 = .ok (.aload_n 0, 1) := by decide +kernel
theorem d_L_217 : decode code 217 = .ok (.iload_n 3, 1) := by decide +kernel
theorem d_L_218 : decode code 218 = .ok (.iconst 3, 1) := by decide +kernel
theorem d_L_219 : decode code 219 = .ok (.iadd, 1) := by decide +kernel
theorem d_L_220 : decode code 220 = .ok (.iaload, 1) := by decide +kernel
theorem d_L_221 : decode code 221 = .ok (.invokevirtual 18, 3) := by decide +kernel
theorem d_L_224 : decode code 224 = .ok (.aload_n 2, 1) := by decide +kernel
theorem d_L_225 : decode code 225 = .ok (.aload_n 0, 1) := by decide +kernel
theorem d_L_226 : decode code 226 = .ok (.iload_n 3, 1) := by decide +kernel
theorem d_L_227 : decode code 227 = .ok (.iconst 1, 1) := by decide +kernel
theorem d_L_228 : decode code 228 = .ok (.iadd, 1) := by decide +kernel
theorem d_L_229 : decode code 229 = .ok (.iaload, 1) := by decide +kernel
theorem d_L_230 : decode code 230 = .ok (.aload_n 0, 1) := by decide +kernel
theorem d_L_231 : decode code 231 = .ok (.iload_n 3, 1) := by decide +kernel
theorem d_L_232 : decode code 232 = .ok (.iconst 2, 1) := by decide +kernel
theorem d_L_233 : decode code 233 = .ok (.iadd, 1) := by decide +kernel
theorem d_L_234 : decode code 234 = .ok (.iaload, 1) := by decide +kernel
theorem d_L_235 : decode code 235 = .ok (.aload_n 0, 1) := by decide +kernel
theorem d_L_236 : decode code 236 = .ok (.iload_n 3, 1) := by decide +kernel
theorem d_L_237 : decode code 237 = .ok (.iconst 3, 1) := by decide +kernel
theorem d_L_238 : decode code 238 = .ok (.iadd, 1) := by decide +kernel
theorem d_L_239 : decode code 239 = .ok (.iaload, 1) := by decide +kernel
theorem d_L_240 : decode code 240 = .ok (.invokevirtual 22, 3) := by decide +kernel
theorem d_L_243 : decode code 243 = .ok (.if_icmp .eq 1310, 3) := by decide +kernel
theorem d_L_246 : decode code 246 = .ok (.iconst 0, 1) := by decide +kernel
theorem d_L_247 : decode code 247 = .ok (.ireturn, 1) := by decide +kernel
theorem d_L_248 : decode code 248 = .ok (.aload_n 1, 1) := by decide +kernel
theorem d_L_249 : decode code 249 = .ok (.aload_n 0, 1) := by decide +kernel
theorem d_L_250 : decode code 250 = .ok (.iload_n 3, 1) := by decide +kernel
theorem d_L_251 : decode code 251 = .ok (.iconst 1, 1) := by decide +kernel
theorem d_L_252 : decode code 252 = .ok (.iadd, 1) := by decide +kernel
theorem d_L_253 : decode code 253 = .ok (.iaload, 1) := by decide +kernel
theorem d_L_254 : decode code 254 = .ok (.aload_n 0, 1) := by decide +kernel
theorem d_L_255 : decode code 255 = .ok (.iload_n 3, 1) := by decide +kernel
theorem d_L_256 : decode code 256 = .ok (.iconst 2, 1) := by decide +kernel
theorem d_L_257 : decode code 257 = .ok (.iadd, 1) := by decide +kernel
theorem d_L_258 : decode code 258 = .ok (.iaload, 1) := by decide +kernel
theorem d_L_259 : decode code 259 = .ok (.invokevirtual 23, 3) := by decide +kernel
theorem d_L_262 : decode code 262 = .ok (.aload_n 2, 1) := by decide +kernel
theorem d_L_263 : decode code 263 = .ok (.aload_n 0, 1) := by decide +kernel
theorem d_L_264 : decode code 264 = .ok (.iload_n 3, 1) := by decide +kernel
theorem d_L_265 : decode code 265 = .ok (.iconst 1, 1) := by decide +kernel
theorem d_L_266 : decode code 266 = .ok (.iadd, 1) := by decide +kernel
theorem d_L_267 : decode code 267 = .ok (.iaload, 1) := by decide +kernel
theorem d_L_268 : decode code 268 = .ok (.aload_n 0, 1) := by decide +kernel
theorem d_L_269 : decode code 269 = .ok (.iload_n 3, 1) := by decide +kernel
theorem d_L_270 : decode code 270 = .ok (.iconst 2, 1) := by decide +kernel
theorem d_L_271 : decode code 271 = .ok (.iadd, 1) := by decide +kernel
theorem d_L_272 : decode code 272 = .ok (.iaload, 1) := by decide +kernel
theorem d_L_273 : decode code 273 = .ok (.invokevirtual 27, 3) := by decide +kernel
theorem d_L_276 : decode code 276 = .ok (.if_icmp .eq 1277, 3) := by decide +kernel
theorem d_L_279 : decode code 279 = .ok (.iconst 0, 1) := by decide +kernel
theorem d_L_280 : decode code 280 = .ok (.ireturn, 1) := by decide +kernel
theorem d_L_281 : decode code 281 = .ok (.aload_n 1, 1) := by decide +kernel
theorem d_L_282 : decode code 282 = .ok (.aload_n 0, 1) := by decide +kernel
theorem d_L_283 : decode code 283 = .ok (.iload_n 3, 1) := by decide +kernel
theorem d_L_284 : decode code 284 = .ok (.iconst 1, 1) := by decide +kernel
theorem d_L_285 : decode code 285 = .ok (.iadd, 1) := by decide +kernel
theorem d_L_286 : decode code 286 = .ok (.iaload, 1) := by decide +kernel
theorem d_L_287 : decode code 287 = .ok (.aload_n 0, 1) := by decide +kernel
theorem d_L_288 : decode code 288 = .ok (.iload_n 3, 1) := by decide +kernel
theorem d_L_289 : decode code 289 = .ok (.iconst 2, 1) := by decide +kernel
theorem d_L_290 : decode code 290 = .ok (.iadd, 1) := by decide +kernel
theorem d_L_291 : decode code 291 = .ok (.iaload, 1) := by decide +kernel
theorem d_L_292 : decode code 292 = .ok (.invokevirtual 28, 3) := by decide +kernel
theorem d_L_295 : decode code 295 = .ok (.aload_n 2, 1) := by decide +kernel
theorem d_L_296 : decode code 296 = .ok (.aload_n 0, 1) := by decide +kernel
theorem d_L_297 : decode code 297 = .ok (.iload_n 3, 1) := by decide +kernel
theorem d_L_298 : decode code 298 = .ok (.iconst 1, 1) := by decide +kernel
theorem d_L_299 : decode code 299 = .ok (.iadd, 1) := by decide +kernel
theorem d_L_300 : decode code 300 = .ok (.iaload, 1) := by decide +kernel
theorem d_L_301 : decode code 301 = .ok (.aload_n 0, 1) := by decide +kernel
theorem d_L_302 : decode code 302 = .ok (.iload_n 3, 1) := by decide +kernel
theorem d_L_303 : decode code 303 = .ok (.iconst 2, 1) := by decide +kernel
theorem d_L_304 : decode code 304 = .ok (.iadd, 1) := by decide +kernel
theorem d_L_305 : decode code 305 = .ok (.iaload, 1) := by decide +kernel
theorem d_L_306 : decode code 306 = .ok (.invokevirtual 31, 3) := by decide +kernel
theorem d_L_309 : decode code 309 = .ok (.if_icmp .eq 1244, 3) := by decide +kernel
theorem d_L_312 : decode code 312 = .ok (.iconst 0, 1) := by decide +kernel
theorem d_L_313 : decode code 313 = .ok (.ireturn, 1) := by decide +kernel
theorem d_L_314 : decode code 314 = .ok (.aload_n 1, 1) := by decide +kernel
theorem d_L_315 : decode code 315 = .ok (.aload_n 0, 1) := by decide +kernel
theorem d_L_316 : decode code 316 = .ok (.iload_n 3, 1) := by decide +kernel
theorem d_L_317 : decode code 317 = .ok (.iconst 1, 1) := by decide +kernel
theorem d_L_318 : decode code 318 = .ok (.iadd, 1) := by decide +kernel
theorem d_L_319 : decode code 319 = .ok (.iaload, 1) := by decide +kernel
theorem d_L_320 : decode code 320 = .ok (.aload_n 0, 1) := by decide +kernel
theorem d_L_321 : decode code 321 = .ok (.iload_n 3, 1) := by decide +kernel
theorem d_L_322 : decode code 322 = .ok (.iconst 2, 1) := by decide +kernel
theorem d_L_323 : decode code 323 = .ok (.iadd, 1) := by decide +kernel
theorem d_L_324 : decode code 324 = .ok (.iaload, 1) := by decide +kernel
theorem d_L_325 : decode code 325 = .ok (.invokevirtual 32, 3) := by decide +kernel
theorem d_L_328 : decode code 328 = .ok (.aload_n 2, 1) := by decide +kernel
theorem d_L_329 : decode code 329 = .ok (.aload_n 0, 1) := by decide +kernel
theorem d_L_330 : decode code 330 = .ok (.iload_n 3, 1) := by decide +kernel
theorem d_L_331 : decode code 331 = .ok (.iconst 1, 1) := by decide +kernel
theorem d_L_332 : decode code 332 = .ok (.iadd, 1) := by decide +kernel
theorem d_L_333 : decode code 333 = .ok (.iaload, 1) := by decide +kernel
theorem d_L_334 : decode code 334 = .ok (.aload_n 0, 1) := by decide +kernel
theorem d_L_335 : decode code 335 = .ok (.iload_n 3, 1) := by decide +kernel
theorem d_L_336 : decode code 336 = .ok (.iconst 2, 1) := by decide +kernel
theorem d_L_337 : decode code 337 = .ok (.iadd, 1) := by decide +kernel
theorem d_L_338 : decode code 338 = .ok (.iaload, 1) := by decide +kernel
theorem d_L_339 : decode code 339 = .ok (.invokevirtual 35, 3) := by decide +kernel
theorem d_L_342 : decode code 342 = .ok (.if_icmp .eq 1211, 3) := by decide +kernel
theorem d_L_345 : decode code 345 = .ok (.iconst 0, 1) := by decide +kernel
theorem d_L_346 : decode code 346 = .ok (.ireturn, 1) := by decide +kernel
theorem d_L_347 : decode code 347 = .ok (.aload_n 1, 1) := by decide +kernel
theorem d_L_348 : decode code 348 = .ok (.aload_n 0, 1) := by decide +kernel
theorem d_L_349 : decode code 349 = .ok (.iload_n 3, 1) := by decide +kernel
theorem d_L_350 : decode code 350 = .ok (.iconst 1, 1) := by decide +kernel
theorem d_L_351 : decode code 351 = .ok (.iadd, 1) := by decide +kernel
theorem d_L_352 : decode code 352 = .ok (.iaload, 1) := by decide +kernel
theorem d_L_353 : decode code 353 = .ok (.invokevirtual 36, 3) := by decide +kernel
theorem d_L_356 : decode code 356 = .ok (.aload_n 2, 1) := by decide +kernel
theorem d_L_357 : decode code 357 = .ok (.aload_n 0, 1) := by decide +kernel
theorem d_L_358 : decode code 358 = .ok (.iload_n 3, 1) := by decide +kernel
theorem d_L_359 : decode code 359 = .ok (.iconst 1, 1) := by decide +kernel
theorem d_L_360 : decode code 360 = .ok (.iadd, 1) := by decide +kernel
theorem d_L_361 : decode code 361 = .ok (.iaload, 1) := by decide +kernel
theorem d_L_362 : decode code 362 = .ok (.invokevirtual 40, 3) := by decide +kernel
theorem d_L_365 : decode code 365 = .ok (.if_icmp .eq 1188, 3) := by decide +kernel
theorem d_L_368 : decode code 368 = .ok (.iconst 0, 1) := by decide +kernel
theorem d_L_369 : decode code 369 = .ok (.ireturn, 1) := by decide +kernel
theorem d_L_370 : decode code 370 = .ok (.aload_n 1, 1) := by decide +kernel
theorem d_L_371 : decode code 371 = .ok (.aload_n 0, 1) := by decide +kernel
theorem d_L_372 : decode code 372 = .ok (.iload_n 3, 1) := by decide +kernel
theorem d_L_373 : decode code 373 = .ok (.iconst 1, 1) := by decide +kernel
theorem d_L_374 : decode code 374 = .ok (.iadd, 1) := by decide +kernel
theorem d_L_375 : decode code 375 = .ok (.iaload, 1) := by decide +kernel
theorem d_L_376 : decode code 376 = .ok (.invokevirtual 41, 3) := by decide +kernel
theorem d_L_379 : decode code 379 = .ok (.aload_n 2, 1) := by decide +kernel
theorem d_L_380 : decode code 380 = .ok (.aload_n 0, 1) := by decide +kernel
theorem d_L_381 : decode code 381 = .ok (.iload_n 3, 1) := by decide +kernel
theorem d_L_382 : decode code 382 = .ok (.iconst 1, 1) := by decide +kernel
theorem d_L_383 : decode code 383 = .ok (.iadd, 1) := by decide +kernel
theorem d_L_384 : decode code 384 = .ok (.iaload, 1) := by decide +kernel
theorem d_L_385 : decode code 385 = .ok (.invokevirtual 44, 3) := by decide +kernel
theorem d_L_388 : decode code 388 = .ok (.if_icmp .eq 1165, 3) := by decide +kernel
theorem d_L_391 : decode code 391 = .ok (.iconst 0, 1) := by decide +kernel
theorem d_L_392 : decode code 392 = .ok (.ireturn, 1) := by decide +kernel
theorem d_L_393 : decode code 393 = .ok (.aload_n 1, 1) := by decide +kernel
theorem d_L_394 : decode code 394 = .ok (.aload_n 0, 1) := by decide +kernel
theorem d_L_395 : decode code 395 = .ok (.iload_n 3, 1) := by decide +kernel
theorem d_L_396 : decode code 396 = .ok (.iconst 1, 1) := by decide +kernel
theorem d_L_397 : decode code 397 = .ok (.iadd, 1) := by decide +kernel
theorem d_L_398 : decode code 398 = .ok (.iaload, 1) := by decide +kernel
theorem d_L_399 : decode code 399 = .ok (.aload_n 0, 1) := by decide +kernel
theorem d_L_400 : decode code 400 = .ok (.iload_n 3, 1) := by decide +kernel
theorem d_L_401 : decode code 401 = .ok (.iconst 2, 1) := by decide +kernel
theorem d_L_402 : decode code 402 = .ok (.iadd, 1) := by decide +kernel
theorem d_L_403 : decode code 403 = .ok (.iaload, 1) := by decide +kernel
theorem d_L_404 : decode code 404 = .ok (.invokevirtual 45, 3) := by decide +kernel
theorem d_L_407 : decode code 407 = .ok (.aload_n 2, 1) := by decide +kernel
theorem d_L_408 : decode code 408 = .ok (.aload_n 0, 1) := by decide +kernel
theorem d_L_409 : decode code 409 = .ok (.iload_n 3, 1) := by decide +kernel
theorem d_L_410 : decode code 410 = .ok (.iconst 1, 1) := by decide +kernel
theorem d_L_411 : decode code 411 = .ok (.iadd, 1) := by decide +kernel
theorem d_L_412 : decode code 412 = .ok (.iaload, 1) := by decide +kernel
theorem d_L_413 : decode code 413 = .ok (.aload_n 0, 1) := by decide +kernel
theorem d_L_414 : decode code 414 = .ok (.iload_n 3, 1) := by decide +kernel
theorem d_L_415 : decode code 415 = .ok (.iconst 2, 1) := by decide +kernel
theorem d_L_416 : decode code 416 = .ok (.iadd, 1) := by decide +kernel
theorem d_L_417 : decode code 417 = .ok (.iaload, 1) := by decide +kernel
theorem d_L_418 : decode code 418 = .ok (.invokevirtual 48, 3) := by decide +kernel
theorem d_L_421 : decode code 421 = .ok (.if_icmp .eq 1132, 3) := by decide +kernel
theorem d_L_424 : decode code 424 = .ok (.iconst 0, 1) := by decide +kernel
theorem d_L_425 : decode code 425 = .ok (.ireturn, 1) := by decide +kernel
theorem d_L_426 : decode code 426 = .ok (.aload_n 1, 1) := by decide +kernel
theorem d_L_427 : decode code 427 = .ok (.aload_n 0, 1) := by decide +kernel
theorem d_L_428 : decode code 428 = .ok (.iload_n 3, 1) := by decide +kernel
theorem d_L_429 : decode code 429 = .ok (.iconst 1, 1) := by decide +kernel
theorem d_L_430 : decode code 430 = .ok (.iadd, 1) := by decide +kernel
theorem d_L_431 : decode code 431 = .ok (.iaload, 1) := by decide +kernel
theorem d_L_432 : decode code 432 = .ok (.aload_n 0, 1) := by decide +kernel
theorem d_L_433 : decode code 433 = .ok (.iload_n 3, 1) := by decide +kernel
theorem d_L_434 : decode code 434 = .ok (.iconst 2, 1) := by decide +kernel
theorem d_L_435 : decode code 435 = .ok (.iadd, 1) := by decide +kernel
theorem d_L_436 : decode code 436 = .ok (.iaload, 1) := by decide +kernel
theorem d_L_437 : decode code 437 = .ok (.aload_n 0, 1) := by decide +kernel
theorem d_L_438 : decode code 438 = .ok (.iload_n 3, 1) := by decide +kernel
theorem d_L_439 : decode code 439 = .ok (.iconst 3, 1) := by decide +kernel
theorem d_L_440 : decode code 440 = .ok (.iadd, 1) := by decide +kernel
theorem d_L_441 : decode code 441 = .ok (.iaload, 1) := by decide +kernel
theorem d_L_442 : decode code 442 = .ok (.aload_n 0, 1) := by decide +kernel
theorem d_L_443 : decode code 443 = .ok (.iload_n 3, 1) := by decide +kernel
theorem d_L_444 : decode code 444 = .ok (.iconst 4, 1) := by decide +kernel
theorem d_L_445 : decode code 445 = .ok (.iadd, 1) := by decide +kernel
theorem d_L_446 : decode code 446 = .ok (.iaload, 1) := by decide +kernel
theorem d_L_447 : decode code 447 = .ok (.invokevirtual 49, 3) := by decide +kernel
theorem d_L_450 : decode code 450 = .ok (.aload_n 2, 1) := by decide +kernel
theorem d_L_451 : decode code 451 = .ok (.aload_n 0, 1) := by decide +kernel
theorem d_L_452 : decode code 452 = .ok (.iload_n 3, 1) := by decide +kernel
theorem d_L_453 : decode code 453 = .ok (.iconst 1, 1) := by decide +kernel
theorem d_L_454 : decode code 454 = .ok (.iadd, 1) := by decide +kernel
theorem d_L_455 : decode code 455 = .ok (.iaload, 1) := by decide +kernel
theorem d_L_456 : decode code 456 = .ok (.aload_n 0, 1) := by decide +kernel
theorem d_L_457 : decode code 457 = .ok (.iload_n 3, 1) := by decide +kernel
theorem d_L_458 : decode code 458 = .ok (.iconst 2, 1) := by decide +kernel
theorem d_L_459 : decode code 459 = .ok (.iadd, 1) := by decide +kernel
theorem d_L_460 : decode code 460 = .ok (.iaload, 1) := by decide +kernel
theorem d_L_461 : decode code 461 = .ok (.aload_n 0, 1) := by decide +kernel
theorem d_L_462 : decode code 462 = .ok (.iload_n 3, 1) := by decide +kernel
theorem d_L_463 : decode code 463 = .ok (.iconst 3, 1) := by decide +kernel
theorem d_L_464 : decode code 464 = .ok (.iadd, 1) := by decide +kernel
theorem d_L_465 : decode code 465 = .ok (.iaload, 1) := by decide +kernel
theorem d_L_466 : decode code 466 = .ok (.aload_n 0, 1) := by decide +kernel
theorem d_L_467 : decode code 467 = .ok (.iload_n 3, 1) := by decide +kernel
theorem d_L_468 : decode code 468 = .ok (.iconst 4, 1) := by decide +kernel
theorem d_L_469 : decode code 469 = .ok (.iadd, 1) := by decide +kernel
theorem d_L_470 : decode code 470 = .ok (.iaload, 1) := by decide +kernel
theorem d_L_471 : decode code 471 = .ok (.invokevirtual 53, 3) := by decide +kernel
theorem d_L_474 : decode code 474 = .ok (.if_icmp .eq 1079, 3) := by decide +kernel
theorem d_L_477 : decode code 477 = .ok (.iconst 0, 1) := by decide +kernel
theorem d_L_478 : decode code 478 = .ok (.ireturn, 1) := by decide +kernel
theorem d_L_479 : decode code 479 = .ok (.aload_n 1, 1) := by decide +kernel
theorem d_L_480 : decode code 480 = .ok (.aload_n 0, 1) := by decide +kernel
theorem d_L_481 : decode code 481 = .ok (.iload_n 3, 1) := by decide +kernel
theorem d_L_482 : decode code 482 = .ok (.iconst 1, 1) := by decide +kernel
theorem d_L_483 : decode code 483 = .ok (.iadd, 1) := by decide +kernel
theorem d_L_484 : decode code 484 = .ok (.iaload, 1) := by decide +kernel
theorem d_L_485 : decode code 485 = .ok (.aload_n 0, 1) := by decide +kernel
theorem d_L_486 : decode code 486 = .ok (.iload_n 3, 1) := by decide +kernel
theorem d_L_487 : decode code 487 = .ok (.iconst 2, 1) := by decide +kernel
theorem d_L_488 : decode code 488 = .ok (.iadd, 1) := by decide +kernel
theorem d_L_489 : decode code 489 = .ok (.iaload, 1) := by decide +kernel
theorem d_L_490 : decode code 490 = .ok (.invokevirtual 54, 3) := by decide +kernel
theorem d_L_493 : decode code 493 = .ok (.aload_n 2, 1) := by decide +kernel
theorem d_L_494 : decode code 494 = .ok (.aload_n 0, 1) := by decide +kernel
theorem d_L_495 : decode code 495 = .ok (.iload_n 3, 1) := by decide +kernel
theorem d_L_496 : decode code 496 = .ok (.iconst 1, 1) := by decide +kernel
theorem d_L_497 : decode code 497 = .ok (.iadd, 1) := by decide +kernel
theorem d_L_498 : decode code 498 = .ok (.iaload, 1) := by decide +kernel
theorem d_L_499 : decode code 499 = .ok (.aload_n 0, 1) := by decide +kernel
theorem d_L_500 : decode code 500 = .ok (.iload_n 3, 1) := by decide +kernel
theorem d_L_501 : decode code 501 = .ok (.iconst 2, 1) := by decide +kernel
theorem d_L_502 : decode code 502 = .ok (.iadd, 1) := by decide +kernel
theorem d_L_503 : decode code 503 = .ok (.iaload, 1) := by decide +kernel
theorem d_L_504 : decode code 504 = .ok (.invokevirtual 57, 3) := by decide +kernel
theorem d_L_507 : decode code 507 = .ok (.if_icmp .eq 1046, 3) := by decide +kernel
theorem d_L_510 : decode code 510 = .ok (.iconst 0, 1) := by decide +kernel
theorem d_L_511 : decode code 511 = .ok (.ireturn, 1) := by decide +kernel
theorem d_L_512 : decode code 512 = .ok (.aload_n 1, 1) := by decide +kernel
theorem d_L_513 : decode code 513 = .ok (.aload_n 0, 1) := by decide +kernel
theorem d_L_514 : decode code 514 = .ok (.iload_n 3, 1) := by decide +kernel
theorem d_L_515 : decode code 515 = .ok (.iconst 1, 1) := by decide +kernel
theorem d_L_516 : decode code 516 = .ok (.iadd, 1) := by decide +kernel
theorem d_L_517 : decode code 517 = .ok (.iaload, 1) := by decide +kernel
theorem d_L_518 : decode code 518 = .ok (.aload_n 0, 1) := by decide +kernel
theorem d_L_519 : decode code 519 = .ok (.iload_n 3, 1) := by decide +kernel
theorem d_L_520 : decode code 520 = .ok (.iconst 2, 1) := by decide +kernel
theorem d_L_521 : decode code 521 = .ok (.iadd, 1) := by decide +kernel
theorem d_L_522 : decode code 522 = .ok (.iaload, 1) := by decide +kernel
theorem d_L_523 : decode code 523 = .ok (.aload_n 0, 1) := by decide +kernel
theorem d_L_524 : decode code 524 = .ok (.iload_n 3, 1) := by decide +kernel
theorem d_L_525 : decode code 525 = .ok (.iconst 3, 1) := by decide +kernel
theorem d_L_526 : decode code 526 = .ok (.iadd, 1) := by decide +kernel
theorem d_L_527 : decode code 527 = .ok (.iaload, 1) := by decide +kernel
theorem d_L_528 : decode code 528 = .ok (.aload_n 0, 1) := by decide +kernel
theorem d_L_529 : decode code 529 = .ok (.iload_n 3, 1) := by decide +kernel
theorem d_L_530 : decode code 530 = .ok (.iconst 4, 1) := by decide +kernel
theorem d_L_531 : decode code 531 = .ok (.iadd, 1) := by decide +kernel
theorem d_L_532 : decode code 532 = .ok (.iaload, 1) := by decide +kernel
theorem d_L_533 : decode code 533 = .ok (.invokevirtual 58, 3) := by decide +kernel
theorem d_L_536 : decode code 536 = .ok (.aload_n 2, 1) := by decide +kernel
theorem d_L_537 : decode code 537 = .ok (.aload_n 0, 1) := by decide +kernel
theorem d_L_538 : decode code 538 = .ok (.iload_n 3, 1) := by decide +kernel
theorem d_L_539 : decode code 539 = .ok (.iconst 1, 1) := by decide +kernel
theorem d_L_540 : decode code 540 = .ok (.iadd, 1) := by decide +kernel
theorem d_L_541 : decode code 541 = .ok (.iaload, 1) := by decide +kernel
theorem d_L_542 : decode code 542 = .ok (.aload_n 0, 1) := by decide +kernel
theorem d_L_543 : decode code 543 = .ok (.iload_n 3, 1) := by decide +kernel
theorem d_L_544 : decode code 544 = .ok (.iconst 2, 1) := by decide +kernel
theorem d_L_545 : decode code 545 = .ok (.iadd, 1) := by decide +kernel
theorem d_L_546 : decode code 546 = .ok (.iaload, 1) := by decide +kernel
theorem d_L_547 : decode code 547 = .ok (.aload_n 0, 1) := by decide +kernel
theorem d_L_548 : decode code 548 = .ok (.iload_n 3, 1) := by decide +kernel
theorem d_L_549 : decode code 549 = .ok (.iconst 3, 1) := by decide +kernel
theorem d_L_550 : decode code 550 = .ok (.iadd, 1) := by decide +kernel
theorem d_L_551 : decode code 551 = .ok (.iaload, 1) := by decide +kernel
theorem d_L_552 : decode code 552 = .ok (.aload_n 0, 1) := by decide +kernel
theorem d_L_553 : decode code 553 = .ok (.iload_n 3, 1) := by decide +kernel
theorem d_L_554 : decode code 554 = .ok (.iconst 4, 1) := by decide +kernel
theorem d_L_555 : decode code 555 = .ok (.iadd, 1) := by decide +kernel
theorem d_L_556 : decode code 556 = .ok (.iaload, 1) := by decide +kernel
theorem d_L_557 : decode code 557 = .ok (.invokevirtual 61, 3) := by decide +kernel
theorem d_L_560 : decode code 560 = .ok (.if_icmp .eq 993, 3) := by decide +kernel
theorem d_L_563 : decode code 563 = .ok (.iconst 0, 1) := by decide +kernel
theorem d_L_564 : decode code 564 = .ok (.ireturn, 1) := by decide +kernel
theorem d_L_565 : decode code 565 = .ok (.aload_n 1, 1) := by decide +kernel
theorem d_L_566 : decode code 566 = .ok (.aload_n 0, 1) := by decide +kernel
theorem d_L_567 : decode code 567 = .ok (.iload_n 3, 1) := by decide +kernel
theorem d_L_568 : decode code 568 = .ok (.iconst 1, 1) := by decide +kernel
theorem d_L_569 : decode code 569 = .ok (.iadd, 1) := by decide +kernel
theorem d_L_570 : decode code 570 = .ok (.iaload, 1) := by decide +kernel
theorem d_L_571 : decode code 571 = .ok (.aload_n 0, 1) := by decide +kernel
theorem d_L_572 : decode code 572 = .ok (.iload_n 3, 1) := by decide +kernel
theorem d_L_573 : decode code 573 = .ok (.iconst 2, 1) := by decide +kernel
theorem d_L_574 : decode code 574 = .ok (.iadd, 1) := by decide +kernel
theorem d_L_575 : decode code 575 = .ok (.iaload, 1) := by decide +kernel
theorem d_L_576 : decode code 576 = .ok (.aload_n 0, 1) := by decide +kernel
theorem d_L_577 : decode code 577 = .ok (.iload_n 3, 1) := by decide +kernel
theorem d_L_578 : decode code 578 = .ok (.iconst 3, 1) := by decide +kernel
theorem d_L_579 : decode code 579 = .ok (.iadd, 1) := by decide +kernel
theorem d_L_580 : decode code 580 = .ok (.iaload, 1) := by decide +kernel
theorem d_L_581 : decode code 581 = .ok (.invokevirtual 62, 3) := by decide +kernel
theorem d_L_584 : decode code 584 = .ok (.aload_n 2, 1) := by decide +kernel
theorem d_L_585 : decode code 585 = .ok (.aload_n 0, 1) := by decide +kernel
theorem d_L_586 : decode code 586 = .ok (.iload_n 3, 1) := by decide +kernel
theorem d_L_587 : decode code 587 = .ok (.iconst 1, 1) := by decide +kernel
theorem d_L_588 : decode code 588 = .ok (.iadd, 1) := by decide +kernel
theorem d_L_589 : decode code 589 = .ok (.iaload, 1) := by decide +kernel
theorem d_L_590 : decode code 590 = .ok (.aload_n 0, 1) := by decide +kernel
theorem d_L_591 : decode code 591 = .ok (.iload_n 3, 1) := by decide +kernel
theorem d_L_592 : decode code 592 = .ok (.iconst 2, 1) := by decide +kernel
theorem d_L_593 : decode code 593 = .ok (.iadd, 1) := by decide +kernel
theorem d_L_594 : decode code 594 = .ok (.iaload, 1) := by decide +kernel
theorem d_L_595 : decode code 595 = .ok (.aload_n 0, 1) := by decide +kernel
theorem d_L_596 : decode code 596 = .ok (.iload_n 3, 1) := by decide +kernel
theorem d_L_597 : decode code 597 = .ok (.iconst 3, 1) := by decide +kernel
theorem d_L_598 : decode code 598 = .ok (.iadd, 1) := by decide +kernel
theorem d_L_599 : decode code 599 = .ok (.iaload, 1) := by decide +kernel
theorem d_L_600 : decode code 600 = .ok (.invokevirtual 65, 3) := by decide +kernel
theorem d_L_603 : decode code 603 = .ok (.if_icmp .eq 950, 3) := by decide +kernel
theorem d_L_606 : decode code 606 = .ok (.iconst 0, 1) := by decide +kernel
theorem d_L_607 : decode code 607 = .ok (.ireturn, 1) := by decide +kernel
theorem d_L_608 : decode code 608 = .ok (.aload_n 1, 1) := by decide +kernel
theorem d_L_609 : decode code 609 = .ok (.aload_n 0, 1) := by decide +kernel
theorem d_L_610 : decode code 610 = .ok (.iload_n 3, 1) := by decide +kernel
theorem d_L_611 : decode code 611 = .ok (.iconst 1, 1) := by decide +kernel
theorem d_L_612 : decode code 612 = .ok (.iadd, 1) := by decide +kernel
theorem d_L_613 : decode code 613 = .ok (.iaload, 1) := by decide +kernel
theorem d_L_614 : decode code 614 = .ok (.aload_n 0, 1) := by decide +kernel
theorem d_L_615 : decode code 615 = .ok (.iload_n 3, 1) := by decide +kernel
theorem d_L_616 : decode code 616 = .ok (.iconst 2, 1) := by decide +kernel
theorem d_L_617 : decode code 617 = .ok (.iadd, 1) := by decide +kernel
theorem d_L_618 : decode code 618 = .ok (.iaload, 1) := by decide +kernel
theorem d_L_619 : decode code 619 = .ok (.invokevirtual 66, 3) := by decide +kernel
theorem d_L_622 : decode code 622 = .ok (.aload_n 2, 1) := by decide +kernel
theorem d_L_623 : decode code 623 = .ok (.aload_n 0, 1) := by decide +kernel
theorem d_L_624 : decode code 624 = .ok (.iload_n 3, 1) := by decide +kernel
theorem d_L_625 : decode code 625 = .ok (.iconst 1, 1) := by decide +kernel
theorem d_L_626 : decode code 626 = .ok (.iadd, 1) := by decide +kernel
theorem d_L_627 : decode code 627 = .ok (.iaload, 1) := by decide +kernel
theorem d_L_628 : decode code 628 = .ok (.aload_n 0, 1) := by decide +kernel
theorem d_L_629 : decode code 629 = .ok (.iload_n 3, 1) := by decide +kernel
theorem d_L_630 : decode code 630 = .ok (.iconst 2, 1) := by decide +kernel
theorem d_L_631 : decode code 631 = .ok (.iadd, 1) := by decide +kernel
theorem d_L_632 : decode code 632 = .ok (.iaload, 1) := by decide +kernel
theorem d_L_633 : decode code 633 = .ok (.invokevirtual 69, 3) := by decide +kernel
theorem d_L_636 : decode code 636 = .ok (.if_icmp .eq 917, 3) := by decide +kernel
theorem d_L_639 : decode code 639 = .ok (.iconst 0, 1) := by decide +kernel
theorem d_L_640 : decode code 640 = .ok (.ireturn, 1) := by decide +kernel
theorem d_L_641 : decode code 641 = .ok (.aload_n 1, 1) := by decide +kernel
theorem d_L_642 : decode code 642 = .ok (.aload_n 0, 1) := by decide +kernel
theorem d_L_643 : decode code 643 = .ok (.iload_n 3, 1) := by decide +kernel
theorem d_L_644 : decode code 644 = .ok (.iconst 1, 1) := by decide +kernel
theorem d_L_645 : decode code 645 = .ok (.iadd, 1) := by decide +kernel
theorem d_L_646 : decode code 646 = .ok (.iaload, 1) := by decide +kernel
theorem d_L_647 : decode code 647 = .ok (.aload_n 0, 1) := by decide +kernel
theorem d_L_648 : decode code 648 = .ok (.iload_n 3, 1) := by decide +kernel
theorem d_L_649 : decode code 649 = .ok (.iconst 2, 1) := by decide +kernel
theorem d_L_650 : decode code 650 = .ok (.iadd, 1) := by decide +kernel
theorem d_L_651 : decode code 651 = .ok (.iaload, 1) := by decide +kernel
theorem d_L_652 : decode code 652 = .ok (.invokevirtual 70, 3) := by decide +kernel
theorem d_L_655 : decode code 655 = .ok (.aload_n 2, 1) := by decide +kernel
theorem d_L_656 : decode code 656 = .ok (.aload_n 0, 1) := by decide +kernel
theorem d_L_657 : decode code 657 = .ok (.iload_n 3, 1) := by decide +kernel
theorem d_L_658 : decode code 658 = .ok (.iconst 1, 1) := by decide +kernel
theorem d_L_659 : decode code 659 = .ok (.iadd, 1) := by decide +kernel
theorem d_L_660 : decode code 660 = .ok (.iaload, 1) := by decide +kernel
theorem d_L_661 : decode code 661 = .ok (.aload_n 0, 1) := by decide +kernel
theorem d_L_662 : decode code 662 = .ok (.iload_n 3, 1) := by decide +kernel
theorem d_L_663 : decode code 663 = .ok (.iconst 2, 1) := by decide +kernel
theorem d_L_664 : decode code 664 = .ok (.iadd, 1) := by decide +kernel
theorem d_L_665 : decode code 665 = .ok (.iaload, 1) := by decide +kernel
theorem d_L_666 : decode code 666 = .ok (.invokevirtual 73, 3) := by decide +kernel
theorem d_L_669 : decode code 669 = .ok (.if_icmp .eq 884, 3) := by decide +kernel
theorem d_L_672 : decode code 672 = .ok (.iconst 0, 1) := by decide +kernel
theorem d_L_673 : decode code 673 = .ok (.ireturn, 1) := by decide +kernel
theorem d_L_674 : decode code 674 = .ok (.aload_n 1, 1) := by decide +kernel
theorem d_L_675 : decode code 675 = .ok (.aload_n 0, 1) := by decide +kernel
theorem d_L_676 : decode code 676 = .ok (.iload_n 3, 1) := by decide +kernel
theorem d_L_677 : decode code 677 = .ok (.iconst 1, 1) := by decide +kernel
theorem d_L_678 : decode code 678 = .ok (.iadd, 1) := by decide +kernel
theorem d_L_679 : decode code 679 = .ok (.iaload, 1) := by decide +kernel
theorem d_L_680 : decode code 680 = .ok (.aload_n 0, 1) := by decide +kernel
theorem d_L_681 : decode code 681 = .ok (.iload_n 3, 1) := by decide +kernel
theorem d_L_682 : decode code 682 = .ok (.iconst 2, 1) := by decide +kernel
theorem d_L_683 : decode code 683 = .ok (.iadd, 1) := by decide +kernel
theorem d_L_684 : decode code 684 = .ok (.iaload, 1) := by decide +kernel
theorem d_L_685 : decode code 685 = .ok (.invokevirtual 74, 3) := by decide +kernel
theorem d_L_688 : decode code 688 = .ok (.aload_n 2, 1) := by decide +kernel
theorem d_L_689 : decode code 689 = .ok (.aload_n 0, 1) := by decide +kernel
theorem d_L_690 : decode code 690 = .ok (.iload_n 3, 1) := by decide +kernel
theorem d_L_691 : decode code 691 = .ok (.iconst 1, 1) := by decide +kernel
theorem d_L_692 : decode code 692 = .ok (.iadd, 1) := by decide +kernel
theorem d_L_693 : decode code 693 = .ok (.iaload, 1) := by decide +kernel
theorem d_L_694 : decode code 694 = .ok (.aload_n 0, 1) := by decide +kernel
theorem d_L_695 : decode code 695 = .ok (.iload_n 3, 1) := by decide +kernel
theorem d_L_696 : decode code 696 = .ok (.iconst 2, 1) := by decide +kernel
theorem d_L_697 : decode code 697 = .ok (.iadd, 1) := by decide +kernel
theorem d_L_698 : decode code 698 = .ok (.iaload, 1) := by decide +kernel
theorem d_L_699 : decode code 699 = .ok (.invokevirtual 77, 3) := by decide +kernel
theorem d_L_702 : decode code 702 = .ok (.if_icmp .eq 851, 3) := by decide +kernel
theorem d_L_705 : decode code 705 = .ok (.iconst 0, 1) := by decide +kernel
theorem d_L_706 : decode code 706 = .ok (.ireturn, 1) := by decide +kernel
theorem d_L_707 : decode code 707 = .ok (.aload_n 1, 1) := by decide +kernel
theorem d_L_708 : decode code 708 = .ok (.aload_n 0, 1) := by decide +kernel
theorem d_L_709 : decode code 709 = .ok (.iload_n 3, 1) := by decide +kernel
theorem d_L_710 : decode code 710 = .ok (.iconst 1, 1) := by decide +kernel
theorem d_L_711 : decode code 711 = .ok (.iadd, 1) := by decide +kernel
theorem d_L_712 : decode code 712 = .ok (.iaload, 1) := by decide +kernel
theorem d_L_713 : decode code 713 = .ok (.aload_n 0, 1) := by decide +kernel
theorem d_L_714 : decode code 714 = .ok (.iload_n 3, 1) := by decide +kernel
theorem d_L_715 : decode code 715 = .ok (.iconst 2, 1) := by decide +kernel
theorem d_L_716 : decode code 716 = .ok (.iadd, 1) := by decide +kernel
theorem d_L_717 : decode code 717 = .ok (.iaload, 1) := by decide +kernel
theorem d_L_718 : decode code 718 = .ok (.invokevirtual 78, 3) := by decide +kernel
theorem d_L_721 : decode code 721 = .ok (.aload_n 2, 1) := by decide +kernel
theorem d_L_722 : decode code 722 = .ok (.aload_n 0, 1) := by decide +kernel
theorem d_L_723 : decode code 723 = .ok (.iload_n 3, 1) := by decide +kernel
theorem d_L_724 : decode code 724 = .ok (.iconst 1, 1) := by decide +kernel
theorem d_L_725 : decode code 725 = .ok (.iadd, 1) := by decide +kernel
theorem d_L_726 : decode code 726 = .ok (.iaload, 1) := by decide +kernel
theorem d_L_727 : decode code 727 = .ok (.aload_n 0, 1) := by decide +kernel
theorem d_L_728 : decode code 728 = .ok (.iload_n 3, 1) := by decide +kernel
theorem d_L_729 : decode code 729 = .ok (.iconst 2, 1) := by decide +kernel
theorem d_L_730 : decode code 730 = .ok (.iadd, 1) := by decide +kernel
theorem d_L_731 : decode code 731 = .ok (.iaload, 1) := by decide +kernel
theorem d_L_732 : decode code 732 = .ok (.invokevirtual 81, 3) := by decide +kernel
theorem d_L_735 : decode code 735 = .ok (.if_icmp .eq 818, 3) := by decide +kernel
theorem d_L_738 : decode code 738 = .ok (.iconst 0, 1) := by decide +kernel
theorem d_L_739 : decode code 739 = .ok (.ireturn, 1) := by decide +kernel
theorem d_L_740 : decode code 740 = .ok (.aload_n 1, 1) := by decide +kernel
theorem d_L_741 : decode code 741 = .ok (.aload_n 0, 1) := by decide +kernel
theorem d_L_742 : decode code 742 = .ok (.iload_n 3, 1) := by decide +kernel
theorem d_L_743 : decode code 743 = .ok (.iconst 1, 1) := by decide +kernel
theorem d_L_744 : decode code 744 = .ok (.iadd, 1) := by decide +kernel
theorem d_L_745 : decode code 745 = .ok (.iaload, 1) := by decide +kernel
theorem d_L_746 : decode code 746 = .ok (.aload_n 0, 1) := by decide +kernel
theorem d_L_747 : decode code 747 = .ok (.iload_n 3, 1) := by decide +kernel
theorem d_L_748 : decode code 748 = .ok (.iconst 2, 1) := by decide +kernel
theorem d_L_749 : decode code 749 = .ok (.iadd, 1) := by decide +kernel
theorem d_L_750 : decode code 750 = .ok (.iaload, 1) := by decide +kernel
theorem d_L_751 : decode code 751 = .ok (.aload_n 0, 1) := by decide +kernel
theorem d_L_752 : decode code 752 = .ok (.iload_n 3, 1) := by decide +kernel
theorem d_L_753 : decode code 753 = .ok (.iconst 3, 1) := by decide +kernel
theorem d_L_754 : decode code 754 = .ok (.iadd, 1) := by decide +kernel
theorem d_L_755 : decode code 755 = .ok (.iaload, 1) := by decide +kernel
theorem d_L_756 : decode code 756 = .ok (.invokevirtual 82, 3) := by decide +kernel
theorem d_L_759 : decode code 759 = .ok (.aload_n 2, 1) := by decide +kernel
theorem d_L_760 : decode code 760 = .ok (.aload_n 0, 1) := by decide +kernel
theorem d_L_761 : decode code 761 = .ok (.iload_n 3, 1) := by decide +kernel
theorem d_L_762 : decode code 762 = .ok (.iconst 1, 1) := by decide +kernel
theorem d_L_763 : decode code 763 = .ok (.iadd, 1) := by decide +kernel
theorem d_L_764 : decode code 764 = .ok (.iaload, 1) := by decide +kernel
theorem d_L_765 : decode code 765 = .ok (.aload_n 0, 1) := by decide +kernel
theorem d_L_766 : decode code 766 = .ok (.iload_n 3, 1) := by decide +kernel
theorem d_L_767 : decode code 767 = .ok (.iconst 2, 1) := by decide +kernel
theorem d_L_768 : decode code 768 = .ok (.iadd, 1) := by decide +kernel
theorem d_L_769 : decode code 769 = .ok (.iaload, 1) := by decide +kernel
theorem d_L_770 : decode code 770 = .ok (.aload_n 0, 1) := by decide +kernel
theorem d_L_771 : decode code 771 = .ok (.iload_n 3, 1) := by decide +kernel
theorem d_L_772 : decode code 772 = .ok (.iconst 3, 1) := by decide +kernel
theorem d_L_773 : decode code 773 = .ok (.iadd, 1) := by decide +kernel
theorem d_L_774 : decode code 774 = .ok (.iaload, 1) := by decide +kernel
theorem d_L_775 : decode code 775 = .ok (.invokevirtual 85, 3) := by decide +kernel
theorem d_L_778 : decode code 778 = .ok (.if_icmp .eq 775, 3) := by decide +kernel
theorem d_L_781 : decode code 781 = .ok (.iconst 0, 1) := by decide +kernel
theorem d_L_782 : decode code 782 = .ok (.ireturn, 1) := by decide +kernel
theorem d_L_783 : decode code 783 = .ok (.aload_n 1, 1) := by decide +kernel
theorem d_L_784 : decode code 784 = .ok (.aload_n 0, 1) := by decide +kernel
theorem d_L_785 : decode code 785 = .ok (.iload_n 3, 1) := by decide +kernel
theorem d_L_786 : decode code 786 = .ok (.iconst 1, 1) := by decide +kernel
theorem d_L_787 : decode code 787 = .ok (.iadd, 1) := by decide +kernel
theorem d_L_788 : decode code 788 = .ok (.iaload, 1) := by decide +kernel
theorem d_L_789 : decode code 789 = .ok (.aload_n 0, 1) := by decide +kernel
theorem d_L_790 : decode code 790 = .ok (.iload_n 3, 1) := by decide +kernel
theorem d_L_791 : decode code 791 = .ok (.iconst 2, 1) := by decide +kernel
theorem d_L_792 : decode code 792 = .ok (.iadd, 1) := by decide +kernel
theorem d_L_793 : decode code 793 = .ok (.iaload, 1) := by decide +kernel
theorem d_L_794 : decode code 794 = .ok (.invokevirtual 86, 3) := by decide +kernel
theorem d_L_797 : decode code 797 = .ok (.aload_n 2, 1) := by decide +kernel
theorem d_L_798 : decode code 798 = .ok (.aload_n 0, 1) := by decide +kernel
theorem d_L_799 : decode code 799 = .ok (.iload_n 3, 1) := by decide +kernel
theorem d_L_800 : decode code 800 = .ok (.iconst 1, 1) := by decide +kernel
theorem d_L_801 : decode code 801 = .ok (.iadd, 1) := by decide +kernel
theorem d_L_802 : decode code 802 = .ok (.iaload, 1) := by decide +kernel
theorem d_L_803 : decode code 803 = .ok (.aload_n 0, 1) := by decide +kernel
theorem d_L_804 : decode code 804 = .ok (.iload_n 3, 1) := by decide +kernel
theorem d_L_805 : decode code 805 = .ok (.iconst 2, 1) := by decide +kernel
theorem d_L_806 : decode code 806 = .ok (.iadd, 1) := by decide +kernel
theorem d_L_807 : decode code 807 = .ok (.iaload, 1) := by decide +kernel
theorem d_L_808 : decode code 808 = .ok (.invokevirtual 89, 3) := by decide +kernel
theorem d_L_811 : decode code 811 = .ok (.if_icmp .eq 742, 3) := by decide +kernel
theorem d_L_814 : decode code 814 = .ok (.iconst 0, 1) := by decide +kernel
theorem d_L_815 : decode code 815 = .ok (.ireturn, 1) := by decide +kernel
theorem d_L_816 : decode code 816 = .ok (.aload_n 1, 1) := by decide +kernel
theorem d_L_817 : decode code 817 = .ok (.aload_n 0, 1) := by decide +kernel
theorem d_L_818 : decode code 818 = .ok (.iload_n 3, 1) := by decide +kernel
theorem d_L_819 : decode code 819 = .ok (.iconst 1, 1) := by decide +kernel
theorem d_L_820 : decode code 820 = .ok (.iadd, 1) := by decide +kernel
theorem d_L_821 : decode code 821 = .ok (.iaload, 1) := by decide +kernel
theorem d_L_822 : decode code 822 = .ok (.aload_n 0, 1) := by decide +kernel
theorem d_L_823 : decode code 823 = .ok (.iload_n 3, 1) := by decide +kernel
theorem d_L_824 : decode code 824 = .ok (.iconst 2, 1) := by decide +kernel
theorem d_L_825 : decode code 825 = .ok (.iadd, 1) := by decide +kernel
theorem d_L_826 : decode code 826 = .ok (.iaload, 1) := by decide +kernel
theorem d_L_827 : decode code 827 = .ok (.aload_n 0, 1) := by decide +kernel
theorem d_L_828 : decode code 828 = .ok (.iload_n 3, 1) := by decide +kernel
theorem d_L_829 : decode code 829 = .ok (.iconst 3, 1) := by decide +kernel
theorem d_L_830 : decode code 830 = .ok (.iadd, 1) := by decide +kernel
theorem d_L_831 : decode code 831 = .ok (.iaload, 1) := by decide +kernel
theorem d_L_832 : decode code 832 = .ok (.aload_n 0, 1) := by decide +kernel
theorem d_L_833 : decode code 833 = .ok (.iload_n 3, 1) := by decide +kernel
theorem d_L_834 : decode code 834 = .ok (.iconst 4, 1) := by decide +kernel
theorem d_L_835 : decode code 835 = .ok (.iadd, 1) := by decide +kernel
theorem d_L_836 : decode code 836 = .ok (.iaload, 1) := by decide +kernel
theorem d_L_837 : decode code 837 = .ok (.invokevirtual 90, 3) := by decide +kernel
theorem d_L_840 : decode code 840 = .ok (.aload_n 2, 1) := by decide +kernel
theorem d_L_841 : decode code 841 = .ok (.aload_n 0, 1) := by decide +kernel
theorem d_L_842 : decode code 842 = .ok (.iload_n 3, 1) := by decide +kernel
theorem d_L_843 : decode code 843 = .ok (.iconst 1, 1) := by decide +kernel
theorem d_L_844 : decode code 844 = .ok (.iadd, 1) := by decide +kernel
theorem d_L_845 : decode code 845 = .ok (.iaload, 1) := by decide +kernel
theorem d_L_846 : decode code 846 = .ok (.aload_n 0, 1) := by decide +kernel
theorem d_L_847 : decode code 847 = .ok (.iload_n 3, 1) := by decide +kernel
theorem d_L_848 : decode code 848 = .ok (.iconst 2, 1) := by decide +kernel
theorem d_L_849 : decode code 849 = .ok (.iadd, 1) := by decide +kernel
theorem d_L_850 : decode code 850 = .ok (.iaload, 1) := by decide +kernel
theorem d_L_851 : decode code 851 = .ok (.aload_n 0, 1) := by decide +kernel
theorem d_L_852 : decode code 852 = .ok (.iload_n 3, 1) := by decide +kernel
theorem d_L_853 : decode code 853 = .ok (.iconst 3, 1) := by decide +kernel
theorem d_L_854 : decode code 854 = .ok (.iadd, 1) := by decide +kernel
theorem d_L_855 : decode code 855 = .ok (.iaload, 1) := by decide +kernel
theorem d_L_856 : decode code 856 = .ok (.aload_n 0, 1) := by decide +kernel
theorem d_L_857 : decode code 857 = .ok (.iload_n 3, 1) := by decide +kernel
theorem d_L_858 : decode code 858 = .ok (.iconst 4, 1) := by decide +kernel
theorem d_L_859 : decode code 859 = .ok (.iadd, 1) := by decide +kernel
theorem d_L_860 : decode code 860 = .ok (.iaload, 1) := by decide +kernel
theorem d_L_861 : decode code 861 = .ok (.invokevirtual 94, 3) := by decide +kernel
theorem d_L_864 : decode code 864 = .ok (.lcmp, 1) := by decide +kernel
theorem d_L_865 : decode code 865 = .ok (.ifCond .eq 688, 3) := by decide +kernel
theorem d_L_868 : decode code 868 = .ok (.iconst 0, 1) := by decide +kernel
theorem d_L_869 : decode code 869 = .ok (.ireturn, 1) := by decide +kernel
theorem d_L_870 : decode code 870 = .ok (.aload_n 1, 1) := by decide +kernel
theorem d_L_871 : decode code 871 = .ok (.aload_n 0, 1) := by decide +kernel
theorem d_L_872 : decode code 872 = .ok (.iload_n 3, 1) := by decide +kernel
theorem d_L_873 : decode code 873 = .ok (.iconst 1, 1) := by decide +kernel
theorem d_L_874 : decode code 874 = .ok (.iadd, 1) := by decide +kernel
theorem d_L_875 : decode code 875 = .ok (.iaload, 1) := by decide +kernel
theorem d_L_876 : decode code 876 = .ok (.aload_n 0, 1) := by decide +kernel
theorem d_L_877 : decode code 877 = .ok (.iload_n 3, 1) := by decide +kernel
theorem d_L_878 : decode code 878 = .ok (.iconst 2, 1) := by decide +kernel
theorem d_L_879 : decode code 879 = .ok (.iadd, 1) := by decide +kernel
theorem d_L_880 : decode code 880 = .ok (.iaload, 1) := by decide +kernel
theorem d_L_881 : decode code 881 = .ok (.aload_n 0, 1) := by decide +kernel
theorem d_L_882 : decode code 882 = .ok (.iload_n 3, 1) := by decide +kernel
theorem d_L_883 : decode code 883 = .ok (.iconst 3, 1) := by decide +kernel
theorem d_L_884 : decode code 884 = .ok (.iadd, 1) := by decide +kernel
theorem d_L_885 : decode code 885 = .ok (.iaload, 1) := by decide +kernel
theorem d_L_886 : decode code 886 = .ok (.invokevirtual 95, 3) := by decide +kernel
theorem d_L_889 : decode code 889 = .ok (.aload_n 2, 1) := by decide +kernel
theorem d_L_890 : decode code 890 = .ok (.aload_n 0, 1) := by decide +kernel
theorem d_L_891 : decode code 891 = .ok (.iload_n 3, 1) := by decide +kernel
theorem d_L_892 : decode code 892 = .ok (.iconst 1, 1) := by decide +kernel
theorem d_L_893 : decode code 893 = .ok (.iadd, 1) := by decide +kernel
theorem d_L_894 : decode code 894 = .ok (.iaload, 1) := by decide +kernel
theorem d_L_895 : decode code 895 = .ok (.aload_n 0, 1) := by decide +kernel
theorem d_L_896 : decode code 896 = .ok (.iload_n 3, 1) := by decide +kernel
theorem d_L_897 : decode code 897 = .ok (.iconst 2, 1) := by decide +kernel
theorem d_L_898 : decode code 898 = .ok (.iadd, 1) := by decide +kernel
theorem d_L_899 : decode code 899 = .ok (.iaload, 1) := by decide +kernel
theorem d_L_900 : decode code 900 = .ok (.aload_n 0, 1) := by decide +kernel
theorem d_L_901 : decode code 901 = .ok (.iload_n 3, 1) := by decide +kernel
theorem d_L_902 : decode code 902 = .ok (.iconst 3, 1) := by decide +kernel
theorem d_L_903 : decode code 903 = .ok (.iadd, 1) := by decide +kernel
theorem d_L_904 : decode code 904 = .ok (.iaload, 1) := by decide +kernel
theorem d_L_905 : decode code 905 = .ok (.invokevirtual 98, 3) := by decide +kernel
theorem d_L_908 : decode code 908 = .ok (.if_icmp .eq 645, 3) := by decide +kernel
theorem d_L_911 : decode code 911 = .ok (.iconst 0, 1) := by decide +kernel
theorem d_L_912 : decode code 912 = .ok (.ireturn, 1) := by decide +kernel
theorem d_L_913 : decode code 913 = .ok (.aload_n 1, 1) := by decide +kernel
theorem d_L_914 : decode code 914 = .ok (.aload_n 0, 1) := by decide +kernel
theorem d_L_915 : decode code 915 = .ok (.iload_n 3, 1) := by decide +kernel
theorem d_L_916 : decode code 916 = .ok (.iconst 1, 1) := by decide +kernel
theorem d_L_917 : decode code 917 = .ok (.iadd, 1) := by decide +kernel
theorem d_L_918 : decode code 918 = .ok (.iaload, 1) := by decide +kernel
theorem d_L_919 : decode code 919 = .ok (.aload_n 0, 1) := by decide +kernel
theorem d_L_920 : decode code 920 = .ok (.iload_n 3, 1) := by decide +kernel
theorem d_L_921 : decode code 921 = .ok (.iconst 2, 1) := by decide +kernel
theorem d_L_922 : decode code 922 = .ok (.iadd, 1) := by decide +kernel
theorem d_L_923 : decode code 923 = .ok (.iaload, 1) := by decide +kernel
theorem d_L_924 : decode code 924 = .ok (.aload_n 0, 1) := by decide +kernel
theorem d_L_925 : decode code 925 = .ok (.iload_n 3, 1) := by decide +kernel
theorem d_L_926 : decode code 926 = .ok (.iconst 3, 1) := by decide +kernel
theorem d_L_927 : decode code 927 = .ok (.iadd, 1) := by decide +kernel
theorem d_L_928 : decode code 928 = .ok (.iaload, 1) := by decide +kernel
theorem d_L_929 : decode code 929 = .ok (.aload_n 0, 1) := by decide +kernel
theorem d_L_930 : decode code 930 = .ok (.iload_n 3, 1) := by decide +kernel
theorem d_L_931 : decode code 931 = .ok (.iconst 4, 1) := by decide +kernel
theorem d_L_932 : decode code 932 = .ok (.iadd, 1) := by decide +kernel
theorem d_L_933 : decode code 933 = .ok (.iaload, 1) := by decide +kernel
theorem d_L_934 : decode code 934 = .ok (.invokevirtual 99, 3) := by decide +kernel
theorem d_L_937 : decode code 937 = .ok (.aload_n 2, 1) := by decide +kernel
theorem d_L_938 : decode code 938 = .ok (.aload_n 0, 1) := by decide +kernel
theorem d_L_939 : decode code 939 = .ok (.iload_n 3, 1) := by decide +kernel
theorem d_L_940 : decode code 940 = .ok (.iconst 1, 1) := by decide +kernel
theorem d_L_941 : decode code 941 = .ok (.iadd, 1) := by decide +kernel
theorem d_L_942 : decode code 942 = .ok (.iaload, 1) := by decide +kernel
theorem d_L_943 : decode code 943 = .ok (.aload_n 0, 1) := by decide +kernel
theorem d_L_944 : decode code 944 = .ok (.iload_n 3, 1) := by decide +kernel
theorem d_L_945 : decode code 945 = .ok (.iconst 2, 1) := by decide +kernel
theorem d_L_946 : decode code 946 = .ok (.iadd, 1) := by decide +kernel
theorem d_L_947 : decode code 947 = .ok (.iaload, 1) := by decide +kernel
theorem d_L_948 : decode code 948 = .ok (.aload_n 0, 1) := by decide +kernel
theorem d_L_949 : decode code 949 = .ok (.iload_n 3, 1) := by decide +kernel
theorem d_L_950 : decode code 950 = .ok (.iconst 3, 1) := by decide +kernel
theorem d_L_951 : decode code 951 = .ok (.iadd, 1) := by decide +kernel
theorem d_L_952 : decode code 952 = .ok (.iaload, 1) := by decide +kernel
theorem d_L_953 : decode code 953 = .ok (.aload_n 0, 1) := by decide +kernel
theorem d_L_954 : decode code 954 = .ok (.iload_n 3, 1) := by decide +kernel
theorem d_L_955 : decode code 955 = .ok (.iconst 4, 1) := by decide +kernel
theorem d_L_956 : decode code 956 = .ok (.iadd, 1) := by decide +kernel
theorem d_L_957 : decode code 957 = .ok (.iaload, 1) := by decide +kernel
theorem d_L_958 : decode code 958 = .ok (.invokevirtual 102, 3) := by decide +kernel
theorem d_L_961 : decode code 961 = .ok (.if_icmp .eq 592, 3) := by decide +kernel
theorem d_L_964 : decode code 964 = .ok (.iconst 0, 1) := by decide +kernel
theorem d_L_965 : decode code 965 = .ok (.ireturn, 1) := by decide +kernel
theorem d_L_966 : decode code 966 = .ok (.aload_n 1, 1) := by decide +kernel
theorem d_L_967 : decode code 967 = .ok (.aload_n 0, 1) := by decide +kernel
theorem d_L_968 : decode code 968 = .ok (.iload_n 3, 1) := by decide +kernel
theorem d_L_969 : decode code 969 = .ok (.iconst 1, 1) := by decide +kernel
theorem d_L_970 : decode code 970 = .ok (.iadd, 1) := by decide +kernel
theorem d_L_971 : decode code 971 = .ok (.iaload, 1) := by decide +kernel
theorem d_L_972 : decode code 972 = .ok (.aload_n 0, 1) := by decide +kernel
theorem d_L_973 : decode code 973 = .ok (.iload_n 3, 1) := by decide +kernel
theorem d_L_974 : decode code 974 = .ok (.iconst 2, 1) := by decide +kernel
theorem d_L_975 : decode code 975 = .ok (.iadd, 1) := by decide +kernel
theorem d_L_976 : decode code 976 = .ok (.iaload, 1) := by decide +kernel
theorem d_L_977 : decode code 977 = .ok (.aload_n 0, 1) := by decide +kernel
theorem d_L_978 : decode code 978 = .ok (.iload_n 3, 1) := by decide +kernel
theorem d_L_979 : decode code 979 = .ok (.iconst 3, 1) := by decide +kernel
theorem d_L_980 : decode code 980 = .ok (.iadd, 1) := by decide +kernel
theorem d_L_981 : decode code 981 = .ok (.iaload, 1) := by decide +kernel
theorem d_L_982 : decode code 982 = .ok (.aload_n 0, 1) := by decide +kernel
theorem d_L_983 : decode code 983 = .ok (.iload_n 3, 1) := by decide +kernel
theorem d_L_984 : decode code 984 = .ok (.iconst 4, 1) := by decide +kernel
theorem d_L_985 : decode code 985 = .ok (.iadd, 1) := by decide +kernel
theorem d_L_986 : decode code 986 = .ok (.iaload, 1) := by decide +kernel
theorem d_L_987 : decode code 987 = .ok (.invokevirtual 103, 3) := by decide +kernel
theorem d_L_990 : decode code 990 = .ok (.aload_n 2, 1) := by decide +kernel
theorem d_L_991 : decode code 991 = .ok (.aload_n 0, 1) := by decide +kernel
theorem d_L_992 : decode code 992 = .ok (.iload_n 3, 1) := by decide +kernel
theorem d_L_993 : decode code 993 = .ok (.iconst 1, 1) := by decide +kernel
theorem d_L_994 : decode code 994 = .ok (.iadd, 1) := by decide +kernel
theorem d_L_995 : decode code 995 = .ok (.iaload, 1) := by decide +kernel
theorem d_L_996 : decode code 996 = .ok (.aload_n 0, 1) := by decide +kernel
theorem d_L_997 : decode code 997 = .ok (.iload_n 3, 1) := by decide +kernel
theorem d_L_998 : decode code 998 = .ok (.iconst 2, 1) := by decide +kernel
theorem d_L_999 : decode code 999 = .ok (.iadd, 1) := by decide +kernel
theorem d_L_1000 : decode code 1000 = .ok (.iaload, 1) := by decide +kernel
theorem d_L_1001 : decode code 1001 = .ok (.aload_n 0, 1) := by decide +kernel
theorem d_L_1002 : decode code 1002 = .ok (.iload_n 3, 1) := by decide +kernel
theorem d_L_1003 : decode code 1003 = .ok (.iconst 3, 1) := by decide +kernel
theorem d_L_1004 : decode code 1004 = .ok (.iadd, 1) := by decide +kernel
theorem d_L_1005 : decode code 1005 = .ok (.iaload, 1) := by decide +kernel
theorem d_L_1006 : decode code 1006 = .ok (.aload_n 0, 1) := by decide +kernel
theorem d_L_1007 : decode code 1007 = .ok (.iload_n 3, 1) := by decide +kernel
theorem d_L_1008 : decode code 1008 = .ok (.iconst 4, 1) := by decide +kernel
theorem d_L_1009 : decode code 1009 = .ok (.iadd, 1) := by decide +kernel
theorem d_L_1010 : decode code 1010 = .ok (.iaload, 1) := by decide +kernel
theorem d_L_1011 : decode code 1011 = .ok (.invokevirtual 106, 3) := by decide +kernel
theorem d_L_1014 : decode code 1014 = .ok (.if_icmp .eq 539, 3) := by decide +kernel
theorem d_L_1017 : decode code 1017 = .ok (.iconst 0, 1) := by decide +kernel
theorem d_L_1018 : decode code 1018 = .ok (.ireturn, 1) := by decide +kernel
theorem d_L_1019 : decode code 1019 = .ok (.aload_n 1, 1) := by decide +kernel
theorem d_L_1020 : decode code 1020 = .ok (.aload_n 0, 1) := by decide +kernel
theorem d_L_1021 : decode code 1021 = .ok (.iload_n 3, 1) := by decide +kernel
theorem d_L_1022 : decode code 1022 = .ok (.iconst 1, 1) := by decide +kernel
theorem d_L_1023 : decode code 1023 = .ok (.iadd, 1) := by decide +kernel
theorem d_L_1024 : decode code 1024 = .ok (.iaload, 1) := by decide +kernel
theorem d_L_1025 : decode code 1025 = .ok (.aload_n 0, 1) := by decide +kernel
theorem d_L_1026 : decode code 1026 = .ok (.iload_n 3, 1) := by decide +kernel
theorem d_L_1027 : decode code 1027 = .ok (.iconst 2, 1) := by decide +kernel
theorem d_L_1028 : decode code 1028 = .ok (.iadd, 1) := by decide +kernel
theorem d_L_1029 : decode code 1029 = .ok (.iaload, 1) := by decide +kernel
theorem d_L_1030 : decode code 1030 = .ok (.aload_n 0, 1) := by decide +kernel
theorem d_L_1031 : decode code 1031 = .ok (.iload_n 3, 1) := by decide +kernel
theorem d_L_1032 : decode code 1032 = .ok (.iconst 3, 1) := by decide +kernel
theorem d_L_1033 : decode code 1033 = .ok (.iadd, 1) := by decide +kernel
theorem d_L_1034 : decode code 1034 = .ok (.iaload, 1) := by decide +kernel
theorem d_L_1035 : decode code 1035 = .ok (.aload_n 0, 1) := by decide +kernel
theorem d_L_1036 : decode code 1036 = .ok (.iload_n 3, 1) := by decide +kernel
theorem d_L_1037 : decode code 1037 = .ok (.iconst 4, 1) := by decide +kernel
theorem d_L_1038 : decode code 1038 = .ok (.iadd, 1) := by decide +kernel
theorem d_L_1039 : decode code 1039 = .ok (.iaload, 1) := by decide +kernel
theorem d_L_1040 : decode code 1040 = .ok (.invokevirtual 107, 3) := by decide +kernel
theorem d_L_1043 : decode code 1043 = .ok (.aload_n 2, 1) := by decide +kernel
theorem d_L_1044 : decode code 1044 = .ok (.aload_n 0, 1) := by decide +kernel
theorem d_L_1045 : decode code 1045 = .ok (.iload_n 3, 1) := by decide +kernel
theorem d_L_1046 : decode code 1046 = .ok (.iconst 1, 1) := by decide +kernel
theorem d_L_1047 : decode code 1047 = .ok (.iadd, 1) := by decide +kernel
theorem d_L_1048 : decode code 1048 = .ok (.iaload, 1) := by decide +kernel
theorem d_L_1049 : decode code 1049 = .ok (.aload_n 0, 1) := by decide +kernel
theorem d_L_1050 : decode code 1050 = .ok (.iload_n 3, 1) := by decide +kernel
theorem d_L_1051 : decode code 1051 = .ok (.iconst 2, 1) := by decide +kernel
theorem d_L_1052 : decode code 1052 = .ok (.iadd, 1) := by decide +kernel
theorem d_L_1053 : decode code 1053 = .ok (.iaload, 1) := by decide +kernel
theorem d_L_1054 : decode code 1054 = .ok (.aload_n 0, 1) := by decide +kernel
theorem d_L_1055 : decode code 1055 = .ok (.iload_n 3, 1) := by decide +kernel
theorem d_L_1056 : decode code 1056 = .ok (.iconst 3, 1) := by decide +kernel
theorem d_L_1057 : decode code 1057 = .ok (.iadd, 1) := by decide +kernel
theorem d_L_1058 : decode code 1058 = .ok (.iaload, 1) := by decide +kernel
theorem d_L_1059 : decode code 1059 = .ok (.aload_n 0, 1) := by decide +kernel
theorem d_L_1060 : decode code 1060 = .ok (.iload_n 3, 1) := by decide +kernel
theorem d_L_1061 : decode code 1061 = .ok (.iconst 4, 1) := by decide +kernel
theorem d_L_1062 : decode code 1062 = .ok (.iadd, 1) := by decide +kernel
theorem d_L_1063 : decode code 1063 = .ok (.iaload, 1) := by decide +kernel
theorem d_L_1064 : decode code 1064 = .ok (.invokevirtual 110, 3) := by decide +kernel
theorem d_L_1067 : decode code 1067 = .ok (.if_icmp .eq 486, 3) := by decide +kernel
theorem d_L_1070 : decode code 1070 = .ok (.iconst 0, 1) := by decide +kernel
theorem d_L_1071 : decode code 1071 = .ok (.ireturn, 1) := by decide +kernel
theorem d_L_1072 : decode code 1072 = .ok (.aload_n 1, 1) := by decide +kernel
theorem d_L_1073 : decode code 1073 = .ok (.aload_n 0, 1) := by decide +kernel
theorem d_L_1074 : decode code 1074 = .ok (.iload_n 3, 1) := by decide +kernel
theorem d_L_1075 : decode code 1075 = .ok (.iconst 1, 1) := by decide +kernel
theorem d_L_1076 : decode code 1076 = .ok (.iadd, 1) := by decide +kernel
theorem d_L_1077 : decode code 1077 = .ok (.iaload, 1) := by decide +kernel
theorem d_L_1078 : decode code 1078 = .ok (.aload_n 0, 1) := by decide +kernel
theorem d_L_1079 : decode code 1079 = .ok (.iload_n 3, 1) := by decide +kernel
theorem d_L_1080 : decode code 1080 = .ok (.iconst 2, 1) := by decide +kernel
theorem d_L_1081 : decode code 1081 = .ok (.iadd, 1) := by decide +kernel
theorem d_L_1082 : decode code 1082 = .ok (.iaload, 1) := by decide +kernel
theorem d_L_1083 : decode code 1083 = .ok (.aload_n 0, 1) := by decide +kernel
theorem d_L_1084 : decode code 1084 = .ok (.iload_n 3, 1) := by decide +kernel
theorem d_L_1085 : decode code 1085 = .ok (.iconst 3, 1) := by decide +kernel
theorem d_L_1086 : decode code 1086 = .ok (.iadd, 1) := by decide +kernel
theorem d_L_1087 : decode code 1087 = .ok (.iaload, 1) := by decide +kernel
theorem d_L_1088 : decode code 1088 = .ok (.invokevirtual 111, 3) := by decide +kernel
theorem d_L_1091 : decode code 1091 = .ok (.aload_n 2, 1) := by decide +kernel
theorem d_L_1092 : decode code 1092 = .ok (.aload_n 0, 1) := by decide +kernel
theorem d_L_1093 : decode code 1093 = .ok (.iload_n 3, 1) := by decide +kernel
theorem d_L_1094 : decode code 1094 = .ok (.iconst 1, 1) := by decide +kernel
theorem d_L_1095 : decode code 1095 = .ok (.iadd, 1) := by decide +kernel
theorem d_L_1096 : decode code 1096 = .ok (.iaload, 1) := by decide +kernel
theorem d_L_1097 : decode code 1097 = .ok (.aload_n 0, 1) := by decide +kernel
theorem d_L_1098 : decode code 1098 = .ok (.iload_n 3, 1) := by decide +kernel
theorem d_L_1099 : decode code 1099 = .ok (.iconst 2, 1) := by decide +kernel
theorem d_L_1100 : decode code 1100 = .ok (.iadd, 1) := by decide +kernel
theorem d_L_1101 : decode code 1101 = .ok (.iaload, 1) := by decide +kernel
theorem d_L_1102 : decode code 1102 = .ok (.aload_n 0, 1) := by decide +kernel
theorem d_L_1103 : decode code 1103 = .ok (.iload_n 3, 1) := by decide +kernel
theorem d_L_1104 : decode code 1104 = .ok (.iconst 3, 1) := by decide +kernel
theorem d_L_1105 : decode code 1105 = .ok (.iadd, 1) := by decide +kernel
theorem d_L_1106 : decode code 1106 = .ok (.iaload, 1) := by decide +kernel
theorem d_L_1107 : decode code 1107 = .ok (.invokevirtual 115, 3) := by decide +kernel
theorem d_L_1110 : decode code 1110 = .ok (.lcmp, 1) := by decide +kernel
theorem d_L_1111 : decode code 1111 = .ok (.ifCond .eq 442, 3) := by decide +kernel
theorem d_L_1114 : decode code 1114 = .ok (.iconst 0, 1) := by decide +kernel
theorem d_L_1115 : decode code 1115 = .ok (.ireturn, 1) := by decide +kernel
theorem d_L_1116 : decode code 1116 = .ok (.aload_n 1, 1) := by decide +kernel
theorem d_L_1117 : decode code 1117 = .ok (.aload_n 0, 1) := by decide +kernel
theorem d_L_1118 : decode code 1118 = .ok (.iload_n 3, 1) := by decide +kernel
theorem d_L_1119 : decode code 1119 = .ok (.iconst 1, 1) := by decide +kernel
theorem d_L_1120 : decode code 1120 = .ok (.iadd, 1) := by decide +kernel
theorem d_L_1121 : decode code 1121 = .ok (.iaload, 1) := by decide +kernel
theorem d_L_1122 : decode code 1122 = .ok (.aload_n 0, 1) := by decide +kernel
theorem d_L_1123 : decode code 1123 = .ok (.iload_n 3, 1) := by decide +kernel
theorem d_L_1124 : decode code 1124 = .ok (.iconst 2, 1) := by decide +kernel
theorem d_L_1125 : decode code 1125 = .ok (.iadd, 1) := by decide +kernel
theorem d_L_1126 : decode code 1126 = .ok (.iaload, 1) := by decide +kernel
theorem d_L_1127 : decode code 1127 = .ok (.aload_n 0, 1) := by decide +kernel
theorem d_L_1128 : decode code 1128 = .ok (.iload_n 3, 1) := by decide +kernel
theorem d_L_1129 : decode code 1129 = .ok (.iconst 3, 1) := by decide +kernel
theorem d_L_1130 : decode code 1130 = .ok (.iadd, 1) := by decide +kernel
theorem d_L_1131 : decode code 1131 = .ok (.iaload, 1) := by decide +kernel
theorem d_L_1132 : decode code 1132 = .ok (.invokevirtual 116, 3) := by decide +kernel
theorem d_L_1135 : decode code 1135 = .ok (.aload_n 2, 1) := by decide +kernel
theorem d_L_1136 : decode code 1136 = .ok (.aload_n 0, 1) := by decide +kernel
theorem d_L_1137 : decode code 1137 = .ok (.iload_n 3, 1) := by decide +kernel
theorem d_L_1138 : decode code 1138 = .ok (.iconst 1, 1) := by decide +kernel
theorem d_L_1139 : decode code 1139 = .ok (.iadd, 1) := by decide +kernel
theorem d_L_1140 : decode code 1140 = .ok (.iaload, 1) := by decide +kernel
theorem d_L_1141 : decode code 1141 = .ok (.aload_n 0, 1) := by decide +kernel
theorem d_L_1142 : decode code 1142 = .ok (.iload_n 3, 1) := by decide +kernel
theorem d_L_1143 : decode code 1143 = .ok (.iconst 2, 1) := by decide +kernel
theorem d_L_1144 : decode code 1144 = .ok (.iadd, 1) := by decide +kernel
theorem d_L_1145 : decode code 1145 = .ok (.iaload, 1) := by decide +kernel
theorem d_L_1146 : decode code 1146 = .ok (.aload_n 0, 1) := by decide +kernel
theorem d_L_1147 : decode code 1147 = .ok (.iload_n 3, 1) := by decide +kernel
theorem d_L_1148 : decode code 1148 = .ok (.iconst 3, 1) := by decide +kernel
theorem d_L_1149 : decode code 1149 = .ok (.iadd, 1) := by decide +kernel
theorem d_L_1150 : decode code 1150 = .ok (.iaload, 1) := by decide +kernel
theorem d_L_1151 : decode code 1151 = .ok (.invokevirtual 119, 3) := by decide +kernel
theorem d_L_1154 : decode code 1154 = .ok (.if_icmp .eq 399, 3) := by decide +kernel
theorem d_L_1157 : decode code 1157 = .ok (.iconst 0, 1) := by decide +kernel
theorem d_L_1158 : decode code 1158 = .ok (.ireturn, 1) := by decide +kernel
theorem d_L_1159 : decode code 1159 = .ok (.aload_n 1, 1) := by decide +kernel
theorem d_L_1160 : decode code 1160 = .ok (.aload_n 0, 1) := by decide +kernel
theorem d_L_1161 : decode code 1161 = .ok (.iload_n 3, 1) := by decide +kernel
theorem d_L_1162 : decode code 1162 = .ok (.iconst 1, 1) := by decide +kernel
theorem d_L_1163 : decode code 1163 = .ok (.iadd, 1) := by decide +kernel
theorem d_L_1164 : decode code 1164 = .ok (.iaload, 1) := by decide +kernel
theorem d_L_1165 : decode code 1165 = .ok (.aload_n 0, 1) := by decide +kernel
theorem d_L_1166 : decode code 1166 = .ok (.iload_n 3, 1) := by decide +kernel
theorem d_L_1167 : decode code 1167 = .ok (.iconst 2, 1) := by decide +kernel
theorem d_L_1168 : decode code 1168 = .ok (.iadd, 1) := by decide +kernel
theorem d_L_1169 : decode code 1169 = .ok (.iaload, 1) := by decide +kernel
theorem d_L_1170 : decode code 1170 = .ok (.invokevirtual 120, 3) := by decide +kernel
theorem d_L_1173 : decode code 1173 = .ok (.aload_n 2, 1) := by decide +kernel
theorem d_L_1174 : decode code 1174 = .ok (.aload_n 0, 1) := by decide +kernel
theorem d_L_1175 : decode code 1175 = .ok (.iload_n 3, 1) := by decide +kernel
theorem d_L_1176 : decode code 1176 = .ok (.iconst 1, 1) := by decide +kernel
theorem d_L_1177 : decode code 1177 = .ok (.iadd, 1) := by decide +kernel
theorem d_L_1178 : decode code 1178 = .ok (.iaload, 1) := by decide +kernel
theorem d_L_1179 : decode code 1179 = .ok (.aload_n 0, 1) := by decide +kernel
theorem d_L_1180 : decode code 1180 = .ok (.iload_n 3, 1) := by decide +kernel
theorem d_L_1181 : decode code 1181 = .ok (.iconst 2, 1) := by decide +kernel
theorem d_L_1182 : decode code 1182 = .ok (.iadd, 1) := by decide +kernel
theorem d_L_1183 : decode code 1183 = .ok (.iaload, 1) := by decide +kernel
theorem d_L_1184 : decode code 1184 = .ok (.invokevirtual 123, 3) := by decide +kernel
theorem d_L_1187 : decode code 1187 = .ok (.if_icmp .eq 366, 3) := by decide +kernel
theorem d_L_1190 : decode code 1190 = .ok (.iconst 0, 1) := by decide +kernel
theorem d_L_1191 : decode code 1191 = .ok (.ireturn, 1) := by decide +kernel
theorem d_L_1192 : decode code 1192 = .ok (.aload_n 1, 1) := by decide +kernel
theorem d_L_1193 : decode code 1193 = .ok (.aload_n 0, 1) := by decide +kernel
theorem d_L_1194 : decode code 1194 = .ok (.iload_n 3, 1) := by decide +kernel
theorem d_L_1195 : decode code 1195 = .ok (.iconst 1, 1) := by decide +kernel
theorem d_L_1196 : decode code 1196 = .ok (.iadd, 1) := by decide +kernel
theorem d_L_1197 : decode code 1197 = .ok (.iaload, 1) := by decide +kernel
theorem d_L_1198 : decode code 1198 = .ok (.aload_n 0, 1) := by decide +kernel
theorem d_L_1199 : decode code 1199 = .ok (.iload_n 3, 1) := by decide +kernel
theorem d_L_1200 : decode code 1200 = .ok (.iconst 2, 1) := by decide +kernel
theorem d_L_1201 : decode code 1201 = .ok (.iadd, 1) := by decide +kernel
theorem d_L_1202 : decode code 1202 = .ok (.iaload, 1) := by decide +kernel
theorem d_L_1203 : decode code 1203 = .ok (.aload_n 0, 1) := by decide +kernel
theorem d_L_1204 : decode code 1204 = .ok (.iload_n 3, 1) := by decide +kernel
theorem d_L_1205 : decode code 1205 = .ok (.iconst 3, 1) := by decide +kernel
theorem d_L_1206 : decode code 1206 = .ok (.iadd, 1) := by decide +kernel
theorem d_L_1207 : decode code 1207 = .ok (.iaload, 1) := by decide +kernel
theorem d_L_1208 : decode code 1208 = .ok (.invokevirtual 124, 3) := by decide +kernel
theorem d_L_1211 : decode code 1211 = .ok (.aload_n 2, 1) := by decide +kernel
theorem d_L_1212 : decode code 1212 = .ok (.aload_n 0, 1) := by decide +kernel
theorem d_L_1213 : decode code 1213 = .ok (.iload_n 3, 1) := by decide +kernel
theorem d_L_1214 : decode code 1214 = .ok (.iconst 1, 1) := by decide +kernel
theorem d_L_1215 : decode code 1215 = .ok (.iadd, 1) := by decide +kernel
theorem d_L_1216 : decode code 1216 = .ok (.iaload, 1) := by decide +kernel
theorem d_L_1217 : decode code 1217 = .ok (.aload_n 0, 1) := by decide +kernel
theorem d_L_1218 : decode code 1218 = .ok (.iload_n 3, 1) := by decide +kernel
theorem d_L_1219 : decode code 1219 = .ok (.iconst 2, 1) := by decide +kernel
theorem d_L_1220 : decode code 1220 = .ok (.iadd, 1) := by decide +kernel
theorem d_L_1221 : decode code 1221 = .ok (.iaload, 1) := by decide +kernel
theorem d_L_1222 : decode code 1222 = .ok (.aload_n 0, 1) := by decide +kernel
theorem d_L_1223 : decode code 1223 = .ok (.iload_n 3, 1) := by decide +kernel
theorem d_L_1224 : decode code 1224 = .ok (.iconst 3, 1) := by decide +kernel
theorem d_L_1225 : decode code 1225 = .ok (.iadd, 1) := by decide +kernel
theorem d_L_1226 : decode code 1226 = .ok (.iaload, 1) := by decide +kernel
theorem d_L_1227 : decode code 1227 = .ok (.invokevirtual 127, 3) := by decide +kernel
theorem d_L_1230 : decode code 1230 = .ok (.if_icmp .eq 323, 3) := by decide +kernel
theorem d_L_1233 : decode code 1233 = .ok (.iconst 0, 1) := by decide +kernel
theorem d_L_1234 : decode code 1234 = .ok (.ireturn, 1) := by decide +kernel
theorem d_L_1235 : decode code 1235 = .ok (.aload_n 1, 1) := by decide +kernel
theorem d_L_1236 : decode code 1236 = .ok (.aload_n 0, 1) := by decide +kernel
theorem d_L_1237 : decode code 1237 = .ok (.iload_n 3, 1) := by decide +kernel
theorem d_L_1238 : decode code 1238 = .ok (.iconst 1, 1) := by decide +kernel
theorem d_L_1239 : decode code 1239 = .ok (.iadd, 1) := by decide +kernel
theorem d_L_1240 : decode code 1240 = .ok (.iaload, 1) := by decide +kernel
theorem d_L_1241 : decode code 1241 = .ok (.invokevirtual 128, 3) := by decide +kernel
theorem d_L_1244 : decode code 1244 = .ok (.aload_n 2, 1) := by decide +kernel
theorem d_L_1245 : decode code 1245 = .ok (.aload_n 0, 1) := by decide +kernel
theorem d_L_1246 : decode code 1246 = .ok (.iload_n 3, 1) := by decide +kernel
theorem d_L_1247 : decode code 1247 = .ok (.iconst 1, 1) := by decide +kernel
theorem d_L_1248 : decode code 1248 = .ok (.iadd, 1) := by decide +kernel
theorem d_L_1249 : decode code 1249 = .ok (.iaload, 1) := by decide +kernel
theorem d_L_1250 : decode code 1250 = .ok (.invokevirtual 131, 3) := by decide +kernel
theorem d_L_1253 : decode code 1253 = .ok (.if_icmp .eq 300, 3) := by decide +kernel
theorem d_L_1256 : decode code 1256 = .ok (.iconst 0, 1) := by decide +kernel
theorem d_L_1257 : decode code 1257 = .ok (.ireturn, 1) := by decide +kernel
theorem d_L_1258 : decode code 1258 = .ok (.aload_n 1, 1) := by decide +kernel
theorem d_L_1259 : decode code 1259 = .ok (.aload_n 0, 1) := by decide +kernel
theorem d_L_1260 : decode code 1260 = .ok (.iload_n 3, 1) := by decide +kernel
theorem d_L_1261 : decode code 1261 = .ok (.iconst 1, 1) := by decide +kernel
theorem d_L_1262 : decode code 1262 = .ok (.iadd, 1) := by decide +kernel
theorem d_L_1263 : decode code 1263 = .ok (.iaload, 1) := by decide +kernel
theorem d_L_1264 : decode code 1264 = .ok (.aload_n 0, 1) := by decide +kernel
theorem d_L_1265 : decode code 1265 = .ok (.iload_n 3, 1) := by decide +kernel
theorem d_L_1266 : decode code 1266 = .ok (.iconst 2, 1) := by decide +kernel
theorem d_L_1267 : decode code 1267 = .ok (.iadd, 1) := by decide +kernel
theorem d_L_1268 : decode code 1268 = .ok (.iaload, 1) := by decide +kernel
theorem d_L_1269 : decode code 1269 = .ok (.aload_n 0, 1) := by decide +kernel
theorem d_L_1270 : decode code 1270 = .ok (.iload_n 3, 1) := by decide +kernel
theorem d_L_1271 : decode code 1271 = .ok (.iconst 3, 1) := by decide +kernel
theorem d_L_1272 : decode code 1272 = .ok (.iadd, 1) := by decide +kernel
theorem d_L_1273 : decode code 1273 = .ok (.iaload, 1) := by decide +kernel
theorem d_L_1274 : decode code 1274 = .ok (.invokevirtual 132, 3) := by decide +kernel
theorem d_L_1277 : decode code 1277 = .ok (.aload_n 2, 1) := by decide +kernel
theorem d_L_1278 : decode code 1278 = .ok (.aload_n 0, 1) := by decide +kernel
theorem d_L_1279 : decode code 1279 = .ok (.iload_n 3, 1) := by decide +kernel
theorem d_L_1280 : decode code 1280 = .ok (.iconst 1, 1) := by decide +kernel
theorem d_L_1281 : decode code 1281 = .ok (.iadd, 1) := by decide +kernel
theorem d_L_1282 : decode code 1282 = .ok (.iaload, 1) := by decide +kernel
theorem d_L_1283 : decode code 1283 = .ok (.aload_n 0, 1) := by decide +kernel
theorem d_L_1284 : decode code 1284 = .ok (.iload_n 3, 1) := by decide +kernel
theorem d_L_1285 : decode code 1285 = .ok (.iconst 2, 1) := by decide +kernel
theorem d_L_1286 : decode code 1286 = .ok (.iadd, 1) := by decide +kernel
theorem d_L_1287 : decode code 1287 = .ok (.iaload, 1) := by decide +kernel
theorem d_L_1288 : decode code 1288 = .ok (.aload_n 0, 1) := by decide +kernel
theorem d_L_1289 : decode code 1289 = .ok (.iload_n 3, 1) := by decide +kernel
theorem d_L_1290 : decode code 1290 = .ok (.iconst 3, 1) := by decide +kernel
theorem d_L_1291 : decode code 1291 = .ok (.iadd, 1) := by decide +kernel
theorem d_L_1292 : decode code 1292 = .ok (.iaload, 1) := by decide +kernel
theorem d_L_1293 : decode code 1293 = .ok (.invokevirtual 135, 3) := by decide +kernel
theorem d_L_1296 : decode code 1296 = .ok (.if_icmp .eq 257, 3) := by decide +kernel
theorem d_L_1299 : decode code 1299 = .ok (.iconst 0, 1) := by decide +kernel
theorem d_L_1300 : decode code 1300 = .ok (.ireturn, 1) := by decide +kernel
theorem d_L_1301 : decode code 1301 = .ok (.aload_n 1, 1) := by decide +kernel
theorem d_L_1302 : decode code 1302 = .ok (.aload_n 0, 1) := by decide +kernel
theorem d_L_1303 : decode code 1303 = .ok (.iload_n 3, 1) := by decide +kernel
theorem d_L_1304 : decode code 1304 = .ok (.iconst 1, 1) := by decide +kernel
theorem d_L_1305 : decode code 1305 = .ok (.iadd, 1) := by decide +kernel
theorem d_L_1306 : decode code 1306 = .ok (.iaload, 1) := by decide +kernel
theorem d_L_1307 : decode code 1307 = .ok (.invokevirtual 136, 3) := by decide +kernel
theorem d_L_1310 : decode code 1310 = .ok (.aload_n 2, 1) := by decide +kernel
theorem d_L_1311 : decode code 1311 = .ok (.aload_n 0, 1) := by decide +kernel
theorem d_L_1312 : decode code 1312 = .ok (.iload_n 3, 1) := by decide +kernel
theorem d_L_1313 : decode code 1313 = .ok (.iconst 1, 1) := by decide +kernel
theorem d_L_1314 : decode code 1314 = .ok (.iadd, 1) := by decide +kernel
theorem d_L_1315 : decode code 1315 = .ok (.iaload, 1) := by decide +kernel
theorem d_L_1316 : decode code 1316 = .ok (.invokevirtual 139, 3) := by decide +kernel
theorem d_L_1319 : decode code 1319 = .ok (.if_icmp .eq 234, 3) := by decide +kernel
theorem d_L_1322 : decode code 1322 = .ok (.iconst 0, 1) := by decide +kernel
theorem d_L_1323 : decode code 1323 = .ok (.ireturn, 1) := by decide +kernel
theorem d_L_1324 : decode code 1324 = .ok (.aload_n 1, 1) := by decide +kernel
theorem d_L_1325 : decode code 1325 = .ok (.aload_n 0, 1) := by decide +kernel
theorem d_L_1326 : decode code 1326 = .ok (.iload_n 3, 1) := by decide +kernel
theorem d_L_1327 : decode code 1327 = .ok (.iconst 1, 1) := by decide +kernel
theorem d_L_1328 : decode code 1328 = .ok (.iadd, 1) := by decide +kernel
theorem d_L_1329 : decode code 1329 = .ok (.iaload, 1) := by decide +kernel
theorem d_L_1330 : decode code 1330 = .ok (.aload_n 0, 1) := by decide +kernel
theorem d_L_1331 : decode code 1331 = .ok (.iload_n 3, 1) := by decide +kernel
theorem d_L_1332 : decode code 1332 = .ok (.iconst 2, 1) := by decide +kernel
theorem d_L_1333 : decode code 1333 = .ok (.iadd, 1) := by decide +kernel
theorem d_L_1334 : decode code 1334 = .ok (.iaload, 1) := by decide +kernel
theorem d_L_1335 : decode code 1335 = .ok (.aload_n 0, 1) := by decide +kernel
theorem d_L_1336 : decode code 1336 = .ok (.iload_n 3, 1) := by decide +kernel
theorem d_L_1337 : decode code 1337 = .ok (.iconst 3, 1) := by decide +kernel
theorem d_L_1338 : decode code 1338 = .ok (.iadd, 1) := by decide +kernel
theorem d_L_1339 : decode code 1339 = .ok (.iaload, 1) := by decide +kernel
theorem d_L_1340 : decode code 1340 = .ok (.aload_n 0, 1) := by decide +kernel
theorem d_L_1341 : decode code 1341 = .ok (.iload_n 3, 1) := by decide +kernel
theorem d_L_1342 : decode code 1342 = .ok (.iconst 4, 1) := by decide +kernel
theorem d_L_1343 : decode code 1343 = .ok (.iadd, 1) := by decide +kernel
theorem d_L_1344 : decode code 1344 = .ok (.iaload, 1) := by decide +kernel
theorem d_L_1345 : decode code 1345 = .ok (.invokevirtual 140, 3) := by decide +kernel
theorem d_L_1348 : decode code 1348 = .ok (.aload_n 2, 1) := by decide +kernel
theorem d_L_1349 : decode code 1349 = .ok (.aload_n 0, 1) := by decide +kernel
theorem d_L_1350 : decode code 1350 = .ok (.iload_n 3, 1) := by decide +kernel
theorem d_L_1351 : decode code 1351 = .ok (.iconst 1, 1) := by decide +kernel
theorem d_L_1352 : decode code 1352 = .ok (.iadd, 1) := by decide +kernel
theorem d_L_1353 : decode code 1353 = .ok (.iaload, 1) := by decide +kernel
theorem d_L_1354 : decode code 1354 = .ok (.aload_n 0, 1) := by decide +kernel
theorem d_L_1355 : decode code 1355 = .ok (.iload_n 3, 1) := by decide +kernel
theorem d_L_1356 : decode code 1356 = .ok (.iconst 2, 1) := by decide +kernel
theorem d_L_1357 : decode code 1357 = .ok (.iadd, 1) := by decide +kernel
theorem d_L_1358 : decode code 1358 = .ok (.iaload, 1) := by decide +kernel
theorem d_L_1359 : decode code 1359 = .ok (.aload_n 0, 1) := by decide +kernel
theorem d_L_1360 : decode code 1360 = .ok (.iload_n 3, 1) := by decide +kernel
theorem d_L_1361 : decode code 1361 = .ok (.iconst 3, 1) := by decide +kernel
theorem d_L_1362 : decode code 1362 = .ok (.iadd, 1) := by decide +kernel
theorem d_L_1363 : decode code 1363 = .ok (.iaload, 1) := by decide +kernel
theorem d_L_1364 : decode code 1364 = .ok (.aload_n 0, 1) := by decide +kernel
theorem d_L_1365 : decode code 1365 = .ok (.iload_n 3, 1) := by decide +kernel
theorem d_L_1366 : decode code 1366 = .ok (.iconst 4, 1) := by decide +kernel
theorem d_L_1367 : decode code 1367 = .ok (.iadd, 1) := by decide +kernel
theorem d_L_1368 : decode code 1368 = .ok (.iaload, 1) := by decide +kernel
theorem d_L_1369 : decode code 1369 = .ok (.invokevirtual 143, 3) := by decide +kernel
theorem d_L_1372 : decode code 1372 = .ok (.if_icmp .eq 181, 3) := by decide +kernel
theorem d_L_1375 : decode code 1375 = .ok (.iconst 0, 1) := by decide +kernel
theorem d_L_1376 : decode code 1376 = .ok (.ireturn, 1) := by decide +kernel
theorem d_L_1377 : decode code 1377 = .ok (.aload_n 1, 1) := by decide +kernel
theorem d_L_1378 : decode code 1378 = .ok (.aload_n 0, 1) := by decide +kernel
theorem d_L_1379 : decode code 1379 = .ok (.iload_n 3, 1) := by decide +kernel
theorem d_L_1380 : decode code 1380 = .ok (.iconst 1, 1) := by decide +kernel
theorem d_L_1381 : decode code 1381 = .ok (.iadd, 1) := by decide +kernel
theorem d_L_1382 : decode code 1382 = .ok (.iaload, 1) := by decide +kernel
theorem d_L_1383 : decode code 1383 = .ok (.aload_n 0, 1) := by decide +kernel
theorem d_L_1384 : decode code 1384 = .ok (.iload_n 3, 1) := by decide +kernel
theorem d_L_1385 : decode code 1385 = .ok (.iconst 2, 1) := by decide +kernel
theorem d_L_1386 : decode code 1386 = .ok (.iadd, 1) := by decide +kernel
theorem d_L_1387 : decode code 1387 = .ok (.iaload, 1) := by decide +kernel
theorem d_L_1388 : decode code 1388 = .ok (.aload_n 0, 1) := by decide +kernel
theorem d_L_1389 : decode code 1389 = .ok (.iload_n 3, 1) := by decide +kernel
theorem d_L_1390 : decode code 1390 = .ok (.iconst 3, 1) := by decide +kernel
theorem d_L_1391 : decode code 1391 = .ok (.iadd, 1) := by decide +kernel
theorem d_L_1392 : decode code 1392 = .ok (.iaload, 1) := by decide +kernel
theorem d_L_1393 : decode code 1393 = .ok (.invokevirtual 144, 3) := by decide +kernel
theorem d_L_1396 : decode code 1396 = .ok (.aload_n 2, 1) := by decide +kernel
theorem d_L_1397 : decode code 1397 = .ok (.aload_n 0, 1) := by decide +kernel
theorem d_L_1398 : decode code 1398 = .ok (.iload_n 3, 1) := by decide +kernel
theorem d_L_1399 : decode code 1399 = .ok (.iconst 1, 1) := by decide +kernel
theorem d_L_1400 : decode code 1400 = .ok (.iadd, 1) := by decide +kernel
theorem d_L_1401 : decode code 1401 = .ok (.iaload, 1) := by decide +kernel
theorem d_L_1402 : decode code 1402 = .ok (.aload_n 0, 1) := by decide +kernel
theorem d_L_1403 : decode code 1403 = .ok (.iload_n 3, 1) := by decide +kernel
theorem d_L_1404 : decode code 1404 = .ok (.iconst 2, 1) := by decide +kernel
theorem d_L_1405 : decode code 1405 = .ok (.iadd, 1) := by decide +kernel
theorem d_L_1406 : decode code 1406 = .ok (.iaload, 1) := by decide +kernel
theorem d_L_1407 : decode code 1407 = .ok (.aload_n 0, 1) := by decide +kernel
theorem d_L_1408 : decode code 1408 = .ok (.iload_n 3, 1) := by decide +kernel
theorem d_L_1409 : decode code 1409 = .ok (.iconst 3, 1) := by decide +kernel
theorem d_L_1410 : decode code 1410 = .ok (.iadd, 1) := by decide +kernel
theorem d_L_1411 : decode code 1411 = .ok (.iaload, 1) := by decide +kernel
theorem d_L_1412 : decode code 1412 = .ok (.invokevirtual 147, 3) := by decide +kernel
theorem d_L_1415 : decode code 1415 = .ok (.if_icmp .eq 138, 3) := by decide +kernel
theorem d_L_1418 : decode code 1418 = .ok (.iconst 0, 1) := by decide +kernel
theorem d_L_1419 : decode code 1419 = .ok (.ireturn, 1) := by decide +kernel
theorem d_L_1420 : decode code 1420 = .ok (.aload_n 1, 1) := by decide +kernel
theorem d_L_1421 : decode code 1421 = .ok (.aload_n 0, 1) := by decide +kernel
theorem d_L_1422 : decode code 1422 = .ok (.iload_n 3, 1) := by decide +kernel
theorem d_L_1423 : decode code 1423 = .ok (.iconst 1, 1) := by decide +kernel
theorem d_L_1424 : decode code 1424 = .ok (.iadd, 1) := by decide +kernel
theorem d_L_1425 : decode code 1425 = .ok (.iaload, 1) := by decide +kernel
theorem d_L_1426 : decode code 1426 = .ok (.aload_n 0, 1) := by decide +kernel
theorem d_L_1427 : decode code 1427 = .ok (.iload_n 3, 1) := by decide +kernel
theorem d_L_1428 : decode code 1428 = .ok (.iconst 2, 1) := by decide +kernel
theorem d_L_1429 : decode code 1429 = .ok (.iadd, 1) := by decide +kernel
theorem d_L_1430 : decode code 1430 = .ok (.iaload, 1) := by decide +kernel
theorem d_L_1431 : decode code 1431 = .ok (.aload_n 0, 1) := by decide +kernel
theorem d_L_1432 : decode code 1432 = .ok (.iload_n 3, 1) := by decide +kernel
theorem d_L_1433 : decode code 1433 = .ok (.iconst 3, 1) := by decide +kernel
theorem d_L_1434 : decode code 1434 = .ok (.iadd, 1) := by decide +kernel
theorem d_L_1435 : decode code 1435 = .ok (.iaload, 1) := by decide +kernel
theorem d_L_1436 : decode code 1436 = .ok (.aload_n 0, 1) := by decide +kernel
theorem d_L_1437 : decode code 1437 = .ok (.iload_n 3, 1) := by decide +kernel
theorem d_L_1438 : decode code 1438 = .ok (.iconst 4, 1) := by decide +kernel
theorem d_L_1439 : decode code 1439 = .ok (.iadd, 1) := by decide +kernel
theorem d_L_1440 : decode code 1440 = .ok (.iaload, 1) := by decide +kernel
theorem d_L_1441 : decode code 1441 = .ok (.aload_n 0, 1) := by decide +kernel
theorem d_L_1442 : decode code 1442 = .ok (.iload_n 3, 1) := by decide +kernel
theorem d_L_1443 : decode code 1443 = .ok (.iconst 5, 1) := by decide +kernel
theorem d_L_1444 : decode code 1444 = .ok (.iadd, 1) := by decide +kernel
theorem d_L_1445 : decode code 1445 = .ok (.iaload, 1) := by decide +kernel
theorem d_L_1446 : decode code 1446 = .ok (.invokevirtual 148, 3) := by decide +kernel
theorem d_L_1449 : decode code 1449 = .ok (.aload_n 2, 1) := by decide +kernel
theorem d_L_1450 : decode code 1450 = .ok (.aload_n 0, 1) := by decide +kernel
theorem d_L_1451 : decode code 1451 = .ok (.iload_n 3, 1) := by decide +kernel
theorem d_L_1452 : decode code 1452 = .ok (.iconst 1, 1) := by decide +kernel
theorem d_L_1453 : decode code 1453 = .ok (.iadd, 1) := by decide +kernel
theorem d_L_1454 : decode code 1454 = .ok (.iaload, 1) := by decide +kernel
theorem d_L_1455 : decode code 1455 = .ok (.aload_n 0, 1) := by decide +kernel
theorem d_L_1456 : decode code 1456 = .ok (.iload_n 3, 1) := by decide +kernel
theorem d_L_1457 : decode code 1457 = .ok (.iconst 2, 1) := by decide +kernel
theorem d_L_1458 : decode code 1458 = .ok (.iadd, 1) := by decide +kernel
theorem d_L_1459 : decode code 1459 = .ok (.iaload, 1) := by decide +kernel
theorem d_L_1460 : decode code 1460 = .ok (.aload_n 0, 1) := by decide +kernel
theorem d_L_1461 : decode code 1461 = .ok (.iload_n 3, 1) := by decide +kernel
theorem d_L_1462 : decode code 1462 = .ok (.iconst 3, 1) := by decide +kernel
theorem d_L_1463 : decode code 1463 = .ok (.iadd, 1) := by decide +kernel
theorem d_L_1464 : decode code 1464 = .ok (.iaload, 1) := by decide +kernel
theorem d_L_1465 : decode code 1465 = .ok (.aload_n 0, 1) := by decide +kernel
theorem d_L_1466 : decode code 1466 = .ok (.iload_n 3, 1) := by decide +kernel
theorem d_L_1467 : decode code 1467 = .ok (.iconst 4, 1) := by decide +kernel
theorem d_L_1468 : decode code 1468 = .ok (.iadd, 1) := by decide +kernel
theorem d_L_1469 : decode code 1469 = .ok (.iaload, 1) := by decide +kernel
theorem d_L_1470 : decode code 1470 = .ok (.aload_n 0, 1) := by decide +kernel
theorem d_L_1471 : decode code 1471 = .ok (.iload_n 3, 1) := by decide +kernel
theorem d_L_1472 : decode code 1472 = .ok (.iconst 5, 1) := by decide +kernel
theorem d_L_1473 : decode code 1473 = .ok (.iadd, 1) := by decide +kernel
theorem d_L_1474 : decode code 1474 = .ok (.iaload, 1) := by decide +kernel
theorem d_L_1475 : decode code 1475 = .ok (.invokevirtual 152, 3) := by decide +kernel
theorem d_L_1478 : decode code 1478 = .ok (.if_icmp .eq 75, 3) := by decide +kernel
theorem d_L_1481 : decode code 1481 = .ok (.iconst 0, 1) := by decide +kernel
theorem d_L_1482 : decode code 1482 = .ok (.ireturn, 1) := by decide +kernel
theorem d_L_1483 : decode code 1483 = .ok (.aload_n 1, 1) := by decide +kernel
theorem d_L_1484 : decode code 1484 = .ok (.aload_n 0, 1) := by decide +kernel
theorem d_L_1485 : decode code 1485 = .ok (.iload_n 3, 1) := by decide +kernel
theorem d_L_1486 : decode code 1486 = .ok (.iconst 1, 1) := by decide +kernel
theorem d_L_1487 : decode code 1487 = .ok (.iadd, 1) := by decide +kernel
theorem d_L_1488 : decode code 1488 = .ok (.iaload, 1) := by decide +kernel
theorem d_L_1489 : decode code 1489 = .ok (.aload_n 0, 1) := by decide +kernel
theorem d_L_1490 : decode code 1490 = .ok (.iload_n 3, 1) := by decide +kernel
theorem d_L_1491 : decode code 1491 = .ok (.iconst 2, 1) := by decide +kernel
theorem d_L_1492 : decode code 1492 = .ok (.iadd, 1) := by decide +kernel
theorem d_L_1493 : decode code 1493 = .ok (.iaload, 1) := by decide +kernel
theorem d_L_1494 : decode code 1494 = .ok (.invokevirtual 153, 3) := by decide +kernel
theorem d_L_1497 : decode code 1497 = .ok (.aload_n 2, 1) := by decide +kernel
theorem d_L_1498 : decode code 1498 = .ok (.aload_n 0, 1) := by decide +kernel
theorem d_L_1499 : decode code 1499 = .ok (.iload_n 3, 1) := by decide +kernel
theorem d_L_1500 : decode code 1500 = .ok (.iconst 1, 1) := by decide +kernel
theorem d_L_1501 : decode code 1501 = .ok (.iadd, 1) := by decide +kernel
theorem d_L_1502 : decode code 1502 = .ok (.iaload, 1) := by decide +kernel
theorem d_L_1503 : decode code 1503 = .ok (.aload_n 0, 1) := by decide +kernel
theorem d_L_1504 : decode code 1504 = .ok (.iload_n 3, 1) := by decide +kernel
theorem d_L_1505 : decode code 1505 = .ok (.iconst 2, 1) := by decide +kernel
theorem d_L_1506 : decode code 1506 = .ok (.iadd, 1) := by decide +kernel
theorem d_L_1507 : decode code 1507 = .ok (.iaload, 1) := by decide +kernel
theorem d_L_1508 : decode code 1508 = .ok (.invokevirtual 156, 3) := by decide +kernel
theorem d_L_1511 : decode code 1511 = .ok (.if_icmp .eq 42, 3) := by decide +kernel
theorem d_L_1514 : decode code 1514 = .ok (.iconst 0, 1) := by decide +kernel
theorem d_L_1515 : decode code 1515 = .ok (.ireturn, 1) := by decide +kernel
theorem d_L_1516 : decode code 1516 = .ok (.aload_n 1, 1) := by decide +kernel
theorem d_L_1517 : decode code 1517 = .ok (.aload_n 0, 1) := by decide +kernel
theorem d_L_1518 : decode code 1518 = .ok (.iload_n 3, 1) := by decide +kernel
theorem d_L_1519 : decode code 1519 = .ok (.iconst 1, 1) := by decide +kernel
theorem d_L_1520 : decode code 1520 = .ok (.iadd, 1) := by decide +kernel
theorem d_L_1521 : decode code 1521 = .ok (.iaload, 1) := by decide +kernel
theorem d_L_1522 : decode code 1522 = .ok (.invokevirtual 157, 3) := by decide +kernel
theorem d_L_1525 : decode code 1525 = .ok (.aload_n 2, 1) := by decide +kernel
theorem d_L_1526 : decode code 1526 = .ok (.aload_n 0, 1) := by decide +kernel
theorem d_L_1527 : decode code 1527 = .ok (.iload_n 3, 1) := by decide +kernel
theorem d_L_1528 : decode code 1528 = .ok (.iconst 1, 1) := by decide +kernel
theorem d_L_1529 : decode code 1529 = .ok (.iadd, 1) := by decide +kernel
theorem d_L_1530 : decode code 1530 = .ok (.iaload, 1) := by decide +kernel
theorem d_L_1531 : decode code 1531 = .ok (.invokevirtual 160, 3) := by decide +kernel
theorem d_L_1534 : decode code 1534 = .ok (.if_icmp .eq 19, 3) := by decide +kernel
theorem d_L_1537 : decode code 1537 = .ok (.iconst 0, 1) := by decide +kernel
theorem d_L_1538 : decode code 1538 = .ok (.ireturn, 1) := by decide +kernel
theorem d_L_1539 : decode code 1539 = .ok (.aload_n 1, 1) := by decide +kernel
theorem d_L_1540 : decode code 1540 = .ok (.invokevirtual 161, 3) := by decide +kernel
theorem d_L_1543 : decode code 1543 = .ok (.aload_n 2, 1) := by decide +kernel
theorem d_L_1544 : decode code 1544 = .ok (.invokevirtual 165, 3) := by decide +kernel
theorem d_L_1547 : decode code 1547 = .ok (.lcmp, 1) := by decide +kernel
theorem d_L_1548 : decode code 1548 = .ok (.ifCond .eq 5, 3) := by decide +kernel
theorem d_L_1551 : decode code 1551 = .ok (.iconst 0, 1) := by decide +kernel
theorem d_L_1552 : decode code 1552 = .ok (.ireturn, 1) := by decide +kernel
theorem d_L_1553 : decode code 1553 = .ok (.iinc 3 6, 3) := by decide +kernel
theorem d_L_1556 : decode code 1556 = .ok (.goto (-1538), 3) := by decide +kernel
theorem d_L_1559 : decode code 1559 = .ok (.iconst 1, 1) := by decide +kernel
theorem d_L_1560 : decode code 1560 = .ok (.ireturn, 1) := by decide +kernel
