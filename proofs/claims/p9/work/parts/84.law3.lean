/-! ===== the law, case by case ===== -/
theorem dL_law_38 : decode code 38 = .ok (.iload_n 3, 1) := by decide +kernel
theorem dL_law_39 : decode code 39 = .ok (.aload_n 0, 1) := by decide +kernel
theorem dL_law_40 : decode code 40 = .ok (.arraylength, 1) := by decide +kernel
theorem dL_law_41 : decode code 41 = .ok (.bipush 6, 2) := by decide +kernel
theorem dL_law_43 : decode code 43 = .ok (.isub, 1) := by decide +kernel
theorem dL_law_44 : decode code 44 = .ok (.if_icmp .gt 1432, 3) := by decide +kernel
theorem dL_law_47 : decode code 47 = .ok (.aload_n 0, 1) := by decide +kernel
theorem dL_law_48 : decode code 48 = .ok (.iload_n 3, 1) := by decide +kernel
theorem dL_law_49 : decode code 49 = .ok (.iaload, 1) := by decide +kernel
theorem dL_law_50 : decode code 50 = .ok (.bipush 31, 2) := by decide +kernel
theorem dL_law_52 : decode code 52 = .ok (.iand, 1) := by decide +kernel
theorem dL_law_53 : decode code 53 = .ok (.tableswitch 1417 0 31 #[143, 206, 279, 312, 355, 388, 411, 424, 447, 490, 533, 596, 619, 632, 655, 698, 767, 800, 859, 892, 945, 978, 1031, 1084, 1117, 1180, 1259, 1302, 1335, 1368, 1381, 1394], 143) := by decide +kernel
theorem dL_law_196 : decode code 196 = .ok (.aload_n 1, 1) := by decide +kernel
theorem dL_law_197 : decode code 197 = .ok (.aload_n 0, 1) := by decide +kernel
theorem dL_law_198 : decode code 198 = .ok (.iload_n 3, 1) := by decide +kernel
theorem dL_law_199 : decode code 199 = .ok (.iconst 1, 1) := by decide +kernel
theorem dL_law_200 : decode code 200 = .ok (.iadd, 1) := by decide +kernel
theorem dL_law_201 : decode code 201 = .ok (.iaload, 1) := by decide +kernel
theorem dL_law_202 : decode code 202 = .ok (.aload_n 0, 1) := by decide +kernel
theorem dL_law_203 : decode code 203 = .ok (.iload_n 3, 1) := by decide +kernel
theorem dL_law_204 : decode code 204 = .ok (.iconst 2, 1) := by decide +kernel
theorem dL_law_205 : decode code 205 = .ok (.iadd, 1) := by decide +kernel
theorem dL_law_206 : decode code 206 = .ok (.iaload, 1) := by decide +kernel
theorem dL_law_207 : decode code 207 = .ok (.aload_n 0, 1) := by decide +kernel
theorem dL_law_208 : decode code 208 = .ok (.iload_n 3, 1) := by decide +kernel
theorem dL_law_209 : decode code 209 = .ok (.iconst 3, 1) := by decide +kernel
theorem dL_law_210 : decode code 210 = .ok (.iadd, 1) := by decide +kernel
theorem dL_law_211 : decode code 211 = .ok (.iaload, 1) := by decide +kernel
theorem dL_law_212 : decode code 212 = .ok (.aload_n 0, 1) := by decide +kernel
theorem dL_law_213 : decode code 213 = .ok (.iload_n 3, 1) := by decide +kernel
theorem dL_law_214 : decode code 214 = .ok (.iconst 4, 1) := by decide +kernel
theorem dL_law_215 : decode code 215 = .ok (.iadd, 1) := by decide +kernel
theorem dL_law_216 : decode code 216 = .ok (.iaload, 1) := by decide +kernel
theorem dL_law_217 : decode code 217 = .ok (.aload_n 0, 1) := by decide +kernel
theorem dL_law_218 : decode code 218 = .ok (.iload_n 3, 1) := by decide +kernel
theorem dL_law_219 : decode code 219 = .ok (.iconst 5, 1) := by decide +kernel
theorem dL_law_220 : decode code 220 = .ok (.iadd, 1) := by decide +kernel
theorem dL_law_221 : decode code 221 = .ok (.iaload, 1) := by decide +kernel
theorem dL_law_222 : decode code 222 = .ok (.invokevirtual 21, 3) := by decide +kernel
theorem dL_law_225 : decode code 225 = .ok (.pop, 1) := by decide +kernel
theorem dL_law_226 : decode code 226 = .ok (.aload_n 2, 1) := by decide +kernel
theorem dL_law_227 : decode code 227 = .ok (.aload_n 0, 1) := by decide +kernel
theorem dL_law_228 : decode code 228 = .ok (.iload_n 3, 1) := by decide +kernel
theorem dL_law_229 : decode code 229 = .ok (.iconst 1, 1) := by decide +kernel
theorem dL_law_230 : decode code 230 = .ok (.iadd, 1) := by decide +kernel
theorem dL_law_231 : decode code 231 = .ok (.iaload, 1) := by decide +kernel
theorem dL_law_232 : decode code 232 = .ok (.aload_n 0, 1) := by decide +kernel
theorem dL_law_233 : decode code 233 = .ok (.iload_n 3, 1) := by decide +kernel
theorem dL_law_234 : decode code 234 = .ok (.iconst 2, 1) := by decide +kernel
theorem dL_law_235 : decode code 235 = .ok (.iadd, 1) := by decide +kernel
theorem dL_law_236 : decode code 236 = .ok (.iaload, 1) := by decide +kernel
theorem dL_law_237 : decode code 237 = .ok (.aload_n 0, 1) := by decide +kernel
theorem dL_law_238 : decode code 238 = .ok (.iload_n 3, 1) := by decide +kernel
theorem dL_law_239 : decode code 239 = .ok (.iconst 3, 1) := by decide +kernel
theorem dL_law_240 : decode code 240 = .ok (.iadd, 1) := by decide +kernel
theorem dL_law_241 : decode code 241 = .ok (.iaload, 1) := by decide +kernel
theorem dL_law_242 : decode code 242 = .ok (.aload_n 0, 1) := by decide +kernel
theorem dL_law_243 : decode code 243 = .ok (.iload_n 3, 1) := by decide +kernel
theorem dL_law_244 : decode code 244 = .ok (.iconst 4, 1) := by decide +kernel
theorem dL_law_245 : decode code 245 = .ok (.iadd, 1) := by decide +kernel
theorem dL_law_246 : decode code 246 = .ok (.iaload, 1) := by decide +kernel
theorem dL_law_247 : decode code 247 = .ok (.aload_n 0, 1) := by decide +kernel
theorem dL_law_248 : decode code 248 = .ok (.iload_n 3, 1) := by decide +kernel
theorem dL_law_249 : decode code 249 = .ok (.iconst 5, 1) := by decide +kernel
theorem dL_law_250 : decode code 250 = .ok (.iadd, 1) := by decide +kernel
theorem dL_law_251 : decode code 251 = .ok (.iaload, 1) := by decide +kernel
theorem dL_law_252 : decode code 252 = .ok (.invokevirtual 25, 3) := by decide +kernel
theorem dL_law_255 : decode code 255 = .ok (.pop, 1) := by decide +kernel
theorem dL_law_256 : decode code 256 = .ok (.goto 1214, 3) := by decide +kernel
theorem dL_law_259 : decode code 259 = .ok (.aload_n 1, 1) := by decide +kernel
theorem dL_law_260 : decode code 260 = .ok (.aload_n 0, 1) := by decide +kernel
theorem dL_law_261 : decode code 261 = .ok (.iload_n 3, 1) := by decide +kernel
theorem dL_law_262 : decode code 262 = .ok (.iconst 1, 1) := by decide +kernel
theorem dL_law_263 : decode code 263 = .ok (.iadd, 1) := by decide +kernel
theorem dL_law_264 : decode code 264 = .ok (.iaload, 1) := by decide +kernel
theorem dL_law_265 : decode code 265 = .ok (.aload_n 0, 1) := by decide +kernel
theorem dL_law_266 : decode code 266 = .ok (.iload_n 3, 1) := by decide +kernel
theorem dL_law_267 : decode code 267 = .ok (.iconst 2, 1) := by decide +kernel
theorem dL_law_268 : decode code 268 = .ok (.iadd, 1) := by decide +kernel
theorem dL_law_269 : decode code 269 = .ok (.iaload, 1) := by decide +kernel
theorem dL_law_270 : decode code 270 = .ok (.aload_n 0, 1) := by decide +kernel
theorem dL_law_271 : decode code 271 = .ok (.iload_n 3, 1) := by decide +kernel
theorem dL_law_272 : decode code 272 = .ok (.iconst 3, 1) := by decide +kernel
theorem dL_law_273 : decode code 273 = .ok (.iadd, 1) := by decide +kernel
theorem dL_law_274 : decode code 274 = .ok (.iaload, 1) := by decide +kernel
theorem dL_law_275 : decode code 275 = .ok (.i2l, 1) := by decide +kernel
theorem dL_law_276 : decode code 276 = .ok (.bipush 32, 2) := by decide +kernel
theorem dL_law_278 : decode code 278 = .ok (.lshl, 1) := by decide +kernel
theorem dL_law_279 : decode code 279 = .ok (.aload_n 0, 1) := by decide +kernel
theorem dL_law_280 : decode code 280 = .ok (.iload_n 3, 1) := by decide +kernel
theorem dL_law_281 : decode code 281 = .ok (.iconst 4, 1) := by decide +kernel
theorem dL_law_282 : decode code 282 = .ok (.iadd, 1) := by decide +kernel
theorem dL_law_283 : decode code 283 = .ok (.iaload, 1) := by decide +kernel
theorem dL_law_284 : decode code 284 = .ok (.i2l, 1) := by decide +kernel
theorem dL_law_285 : decode code 285 = .ok (.ldc2_w 26, 3) := by decide +kernel
theorem dL_law_288 : decode code 288 = .ok (.land, 1) := by decide +kernel
theorem dL_law_289 : decode code 289 = .ok (.lor, 1) := by decide +kernel
theorem dL_law_290 : decode code 290 = .ok (.invokevirtual 28, 3) := by decide +kernel
theorem dL_law_293 : decode code 293 = .ok (.pop, 1) := by decide +kernel
theorem dL_law_294 : decode code 294 = .ok (.aload_n 2, 1) := by decide +kernel
theorem dL_law_295 : decode code 295 = .ok (.aload_n 0, 1) := by decide +kernel
theorem dL_law_296 : decode code 296 = .ok (.iload_n 3, 1) := by decide +kernel
theorem dL_law_297 : decode code 297 = .ok (.iconst 1, 1) := by decide +kernel
theorem dL_law_298 : decode code 298 = .ok (.iadd, 1) := by decide +kernel
theorem dL_law_299 : decode code 299 = .ok (.iaload, 1) := by decide +kernel
theorem dL_law_300 : decode code 300 = .ok (.aload_n 0, 1) := by decide +kernel
theorem dL_law_301 : decode code 301 = .ok (.iload_n 3, 1) := by decide +kernel
theorem dL_law_302 : decode code 302 = .ok (.iconst 2, 1) := by decide +kernel
theorem dL_law_303 : decode code 303 = .ok (.iadd, 1) := by decide +kernel
theorem dL_law_304 : decode code 304 = .ok (.iaload, 1) := by decide +kernel
theorem dL_law_305 : decode code 305 = .ok (.aload_n 0, 1) := by decide +kernel
theorem dL_law_306 : decode code 306 = .ok (.iload_n 3, 1) := by decide +kernel
theorem dL_law_307 : decode code 307 = .ok (.iconst 3, 1) := by decide +kernel
theorem dL_law_308 : decode code 308 = .ok (.iadd, 1) := by decide +kernel
theorem dL_law_309 : decode code 309 = .ok (.iaload, 1) := by decide +kernel
theorem dL_law_310 : decode code 310 = .ok (.i2l, 1) := by decide +kernel
theorem dL_law_311 : decode code 311 = .ok (.bipush 32, 2) := by decide +kernel
theorem dL_law_313 : decode code 313 = .ok (.lshl, 1) := by decide +kernel
theorem dL_law_314 : decode code 314 = .ok (.aload_n 0, 1) := by decide +kernel
theorem dL_law_315 : decode code 315 = .ok (.iload_n 3, 1) := by decide +kernel
theorem dL_law_316 : decode code 316 = .ok (.iconst 4, 1) := by decide +kernel
theorem dL_law_317 : decode code 317 = .ok (.iadd, 1) := by decide +kernel
theorem dL_law_318 : decode code 318 = .ok (.iaload, 1) := by decide +kernel
theorem dL_law_319 : decode code 319 = .ok (.i2l, 1) := by decide +kernel
theorem dL_law_320 : decode code 320 = .ok (.ldc2_w 26, 3) := by decide +kernel
theorem dL_law_323 : decode code 323 = .ok (.land, 1) := by decide +kernel
theorem dL_law_324 : decode code 324 = .ok (.lor, 1) := by decide +kernel
theorem dL_law_325 : decode code 325 = .ok (.invokevirtual 32, 3) := by decide +kernel
theorem dL_law_328 : decode code 328 = .ok (.pop, 1) := by decide +kernel
theorem dL_law_329 : decode code 329 = .ok (.goto 1141, 3) := by decide +kernel
theorem dL_law_332 : decode code 332 = .ok (.aload_n 1, 1) := by decide +kernel
theorem dL_law_333 : decode code 333 = .ok (.aload_n 0, 1) := by decide +kernel
theorem dL_law_334 : decode code 334 = .ok (.iload_n 3, 1) := by decide +kernel
theorem dL_law_335 : decode code 335 = .ok (.iconst 1, 1) := by decide +kernel
theorem dL_law_336 : decode code 336 = .ok (.iadd, 1) := by decide +kernel
theorem dL_law_337 : decode code 337 = .ok (.iaload, 1) := by decide +kernel
theorem dL_law_338 : decode code 338 = .ok (.aload_n 0, 1) := by decide +kernel
theorem dL_law_339 : decode code 339 = .ok (.iload_n 3, 1) := by decide +kernel
theorem dL_law_340 : decode code 340 = .ok (.iconst 2, 1) := by decide +kernel
theorem dL_law_341 : decode code 341 = .ok (.iadd, 1) := by decide +kernel
theorem dL_law_342 : decode code 342 = .ok (.iaload, 1) := by decide +kernel
theorem dL_law_343 : decode code 343 = .ok (.invokevirtual 33, 3) := by decide +kernel
theorem dL_law_346 : decode code 346 = .ok (.pop, 1) := by decide +kernel
theorem dL_law_347 : decode code 347 = .ok (.aload_n 2, 1) := by decide +kernel
theorem dL_law_348 : decode code 348 = .ok (.aload_n 0, 1) := by decide +kernel
theorem dL_law_349 : decode code 349 = .ok (.iload_n 3, 1) := by decide +kernel
theorem dL_law_350 : decode code 350 = .ok (.iconst 1, 1) := by decide +kernel
theorem dL_law_351 : decode code 351 = .ok (.iadd, 1) := by decide +kernel
theorem dL_law_352 : decode code 352 = .ok (.iaload, 1) := by decide +kernel
theorem dL_law_353 : decode code 353 = .ok (.aload_n 0, 1) := by decide +kernel
theorem dL_law_354 : decode code 354 = .ok (.iload_n 3, 1) := by decide +kernel
theorem dL_law_355 : decode code 355 = .ok (.iconst 2, 1) := by decide +kernel
theorem dL_law_356 : decode code 356 = .ok (.iadd, 1) := by decide +kernel
theorem dL_law_357 : decode code 357 = .ok (.iaload, 1) := by decide +kernel
theorem dL_law_358 : decode code 358 = .ok (.invokevirtual 37, 3) := by decide +kernel
theorem dL_law_361 : decode code 361 = .ok (.pop, 1) := by decide +kernel
theorem dL_law_362 : decode code 362 = .ok (.goto 1108, 3) := by decide +kernel
theorem dL_law_365 : decode code 365 = .ok (.aload_n 1, 1) := by decide +kernel
theorem dL_law_366 : decode code 366 = .ok (.aload_n 0, 1) := by decide +kernel
theorem dL_law_367 : decode code 367 = .ok (.iload_n 3, 1) := by decide +kernel
theorem dL_law_368 : decode code 368 = .ok (.iconst 1, 1) := by decide +kernel
theorem dL_law_369 : decode code 369 = .ok (.iadd, 1) := by decide +kernel
theorem dL_law_370 : decode code 370 = .ok (.iaload, 1) := by decide +kernel
theorem dL_law_371 : decode code 371 = .ok (.aload_n 0, 1) := by decide +kernel
theorem dL_law_372 : decode code 372 = .ok (.iload_n 3, 1) := by decide +kernel
theorem dL_law_373 : decode code 373 = .ok (.iconst 2, 1) := by decide +kernel
theorem dL_law_374 : decode code 374 = .ok (.iadd, 1) := by decide +kernel
theorem dL_law_375 : decode code 375 = .ok (.iaload, 1) := by decide +kernel
theorem dL_law_376 : decode code 376 = .ok (.aload_n 0, 1) := by decide +kernel
theorem dL_law_377 : decode code 377 = .ok (.iload_n 3, 1) := by decide +kernel
theorem dL_law_378 : decode code 378 = .ok (.iconst 3, 1) := by decide +kernel
theorem dL_law_379 : decode code 379 = .ok (.iadd, 1) := by decide +kernel
theorem dL_law_380 : decode code 380 = .ok (.iaload, 1) := by decide +kernel
theorem dL_law_381 : decode code 381 = .ok (.invokevirtual 38, 3) := by decide +kernel
theorem dL_law_384 : decode code 384 = .ok (.pop, 1) := by decide +kernel
theorem dL_law_385 : decode code 385 = .ok (.aload_n 2, 1) := by decide +kernel
theorem dL_law_386 : decode code 386 = .ok (.aload_n 0, 1) := by decide +kernel
theorem dL_law_387 : decode code 387 = .ok (.iload_n 3, 1) := by decide +kernel
theorem dL_law_388 : decode code 388 = .ok (.iconst 1, 1) := by decide +kernel
theorem dL_law_389 : decode code 389 = .ok (.iadd, 1) := by decide +kernel
theorem dL_law_390 : decode code 390 = .ok (.iaload, 1) := by decide +kernel
theorem dL_law_391 : decode code 391 = .ok (.aload_n 0, 1) := by decide +kernel
theorem dL_law_392 : decode code 392 = .ok (.iload_n 3, 1) := by decide +kernel
theorem dL_law_393 : decode code 393 = .ok (.iconst 2, 1) := by decide +kernel
theorem dL_law_394 : decode code 394 = .ok (.iadd, 1) := by decide +kernel
theorem dL_law_395 : decode code 395 = .ok (.iaload, 1) := by decide +kernel
theorem dL_law_396 : decode code 396 = .ok (.aload_n 0, 1) := by decide +kernel
theorem dL_law_397 : decode code 397 = .ok (.iload_n 3, 1) := by decide +kernel
theorem dL_law_398 : decode code 398 = .ok (.iconst 3, 1) := by decide +kernel
theorem dL_law_399 : decode code 399 = .ok (.iadd, 1) := by decide +kernel
theorem dL_law_400 : decode code 400 = .ok (.iaload, 1) := by decide +kernel
theorem dL_law_401 : decode code 401 = .ok (.invokevirtual 42, 3) := by decide +kernel
theorem dL_law_404 : decode code 404 = .ok (.pop, 1) := by decide +kernel
theorem dL_law_405 : decode code 405 = .ok (.goto 1065, 3) := by decide +kernel
theorem dL_law_408 : decode code 408 = .ok (.aload_n 1, 1) := by decide +kernel
theorem dL_law_409 : decode code 409 = .ok (.aload_n 0, 1) := by decide +kernel
theorem dL_law_410 : decode code 410 = .ok (.iload_n 3, 1) := by decide +kernel
theorem dL_law_411 : decode code 411 = .ok (.iconst 1, 1) := by decide +kernel
theorem dL_law_412 : decode code 412 = .ok (.iadd, 1) := by decide +kernel
theorem dL_law_413 : decode code 413 = .ok (.iaload, 1) := by decide +kernel
theorem dL_law_414 : decode code 414 = .ok (.aload_n 0, 1) := by decide +kernel
theorem dL_law_415 : decode code 415 = .ok (.iload_n 3, 1) := by decide +kernel
theorem dL_law_416 : decode code 416 = .ok (.iconst 2, 1) := by decide +kernel
theorem dL_law_417 : decode code 417 = .ok (.iadd, 1) := by decide +kernel
theorem dL_law_418 : decode code 418 = .ok (.iaload, 1) := by decide +kernel
theorem dL_law_419 : decode code 419 = .ok (.invokevirtual 43, 3) := by decide +kernel
theorem dL_law_422 : decode code 422 = .ok (.pop, 1) := by decide +kernel
theorem dL_law_423 : decode code 423 = .ok (.aload_n 2, 1) := by decide +kernel
theorem dL_law_424 : decode code 424 = .ok (.aload_n 0, 1) := by decide +kernel
theorem dL_law_425 : decode code 425 = .ok (.iload_n 3, 1) := by decide +kernel
theorem dL_law_426 : decode code 426 = .ok (.iconst 1, 1) := by decide +kernel
theorem dL_law_427 : decode code 427 = .ok (.iadd, 1) := by decide +kernel
theorem dL_law_428 : decode code 428 = .ok (.iaload, 1) := by decide +kernel
theorem dL_law_429 : decode code 429 = .ok (.aload_n 0, 1) := by decide +kernel
theorem dL_law_430 : decode code 430 = .ok (.iload_n 3, 1) := by decide +kernel
theorem dL_law_431 : decode code 431 = .ok (.iconst 2, 1) := by decide +kernel
theorem dL_law_432 : decode code 432 = .ok (.iadd, 1) := by decide +kernel
theorem dL_law_433 : decode code 433 = .ok (.iaload, 1) := by decide +kernel
theorem dL_law_434 : decode code 434 = .ok (.invokevirtual 47, 3) := by decide +kernel
theorem dL_law_437 : decode code 437 = .ok (.pop, 1) := by decide +kernel
theorem dL_law_438 : decode code 438 = .ok (.goto 1032, 3) := by decide +kernel
theorem dL_law_441 : decode code 441 = .ok (.aload_n 1, 1) := by decide +kernel
theorem dL_law_442 : decode code 442 = .ok (.aload_n 0, 1) := by decide +kernel
theorem dL_law_443 : decode code 443 = .ok (.iload_n 3, 1) := by decide +kernel
theorem dL_law_444 : decode code 444 = .ok (.iconst 1, 1) := by decide +kernel
theorem dL_law_445 : decode code 445 = .ok (.iadd, 1) := by decide +kernel
theorem dL_law_446 : decode code 446 = .ok (.iaload, 1) := by decide +kernel
theorem dL_law_447 : decode code 447 = .ok (.invokevirtual 48, 3) := by decide +kernel
theorem dL_law_450 : decode code 450 = .ok (.pop, 1) := by decide +kernel
theorem dL_law_451 : decode code 451 = .ok (.aload_n 2, 1) := by decide +kernel
theorem dL_law_452 : decode code 452 = .ok (.aload_n 0, 1) := by decide +kernel
theorem dL_law_453 : decode code 453 = .ok (.iload_n 3, 1) := by decide +kernel
theorem dL_law_454 : decode code 454 = .ok (.iconst 1, 1) := by decide +kernel
theorem dL_law_455 : decode code 455 = .ok (.iadd, 1) := by decide +kernel
theorem dL_law_456 : decode code 456 = .ok (.iaload, 1) := by decide +kernel
theorem dL_law_457 : decode code 457 = .ok (.invokevirtual 52, 3) := by decide +kernel
theorem dL_law_460 : decode code 460 = .ok (.pop, 1) := by decide +kernel
theorem dL_law_461 : decode code 461 = .ok (.goto 1009, 3) := by decide +kernel
theorem dL_law_464 : decode code 464 = .ok (.aload_n 1, 1) := by decide +kernel
theorem dL_law_465 : decode code 465 = .ok (.invokevirtual 53, 3) := by decide +kernel
theorem dL_law_468 : decode code 468 = .ok (.pop, 1) := by decide +kernel
theorem dL_law_469 : decode code 469 = .ok (.aload_n 2, 1) := by decide +kernel
theorem dL_law_470 : decode code 470 = .ok (.invokevirtual 57, 3) := by decide +kernel
theorem dL_law_473 : decode code 473 = .ok (.pop, 1) := by decide +kernel
theorem dL_law_474 : decode code 474 = .ok (.goto 996, 3) := by decide +kernel
theorem dL_law_477 : decode code 477 = .ok (.aload_n 1, 1) := by decide +kernel
theorem dL_law_478 : decode code 478 = .ok (.aload_n 0, 1) := by decide +kernel
theorem dL_law_479 : decode code 479 = .ok (.iload_n 3, 1) := by decide +kernel
theorem dL_law_480 : decode code 480 = .ok (.iconst 1, 1) := by decide +kernel
theorem dL_law_481 : decode code 481 = .ok (.iadd, 1) := by decide +kernel
theorem dL_law_482 : decode code 482 = .ok (.iaload, 1) := by decide +kernel
theorem dL_law_483 : decode code 483 = .ok (.invokevirtual 58, 3) := by decide +kernel
theorem dL_law_486 : decode code 486 = .ok (.aload_n 2, 1) := by decide +kernel
theorem dL_law_487 : decode code 487 = .ok (.aload_n 0, 1) := by decide +kernel
theorem dL_law_488 : decode code 488 = .ok (.iload_n 3, 1) := by decide +kernel
theorem dL_law_489 : decode code 489 = .ok (.iconst 1, 1) := by decide +kernel
theorem dL_law_490 : decode code 490 = .ok (.iadd, 1) := by decide +kernel
theorem dL_law_491 : decode code 491 = .ok (.iaload, 1) := by decide +kernel
theorem dL_law_492 : decode code 492 = .ok (.invokevirtual 62, 3) := by decide +kernel
theorem dL_law_495 : decode code 495 = .ok (.if_icmp .eq 975, 3) := by decide +kernel
theorem dL_law_498 : decode code 498 = .ok (.iconst 0, 1) := by decide +kernel
theorem dL_law_499 : decode code 499 = .ok (.ireturn, 1) := by decide +kernel
theorem dL_law_500 : decode code 500 = .ok (.aload_n 1, 1) := by decide +kernel
theorem dL_law_501 : decode code 501 = .ok (.aload_n 0, 1) := by decide +kernel
theorem dL_law_502 : decode code 502 = .ok (.iload_n 3, 1) := by decide +kernel
theorem dL_law_503 : decode code 503 = .ok (.iconst 1, 1) := by decide +kernel
theorem dL_law_504 : decode code 504 = .ok (.iadd, 1) := by decide +kernel
theorem dL_law_505 : decode code 505 = .ok (.iaload, 1) := by decide +kernel
theorem dL_law_506 : decode code 506 = .ok (.aload_n 0, 1) := by decide +kernel
theorem dL_law_507 : decode code 507 = .ok (.iload_n 3, 1) := by decide +kernel
theorem dL_law_508 : decode code 508 = .ok (.iconst 2, 1) := by decide +kernel
theorem dL_law_509 : decode code 509 = .ok (.iadd, 1) := by decide +kernel
theorem dL_law_510 : decode code 510 = .ok (.iaload, 1) := by decide +kernel
theorem dL_law_511 : decode code 511 = .ok (.aload_n 0, 1) := by decide +kernel
theorem dL_law_512 : decode code 512 = .ok (.iload_n 3, 1) := by decide +kernel
theorem dL_law_513 : decode code 513 = .ok (.iconst 3, 1) := by decide +kernel
theorem dL_law_514 : decode code 514 = .ok (.iadd, 1) := by decide +kernel
theorem dL_law_515 : decode code 515 = .ok (.iaload, 1) := by decide +kernel
theorem dL_law_516 : decode code 516 = .ok (.invokevirtual 63, 3) := by decide +kernel
theorem dL_law_519 : decode code 519 = .ok (.pop, 1) := by decide +kernel
theorem dL_law_520 : decode code 520 = .ok (.aload_n 2, 1) := by decide +kernel
theorem dL_law_521 : decode code 521 = .ok (.aload_n 0, 1) := by decide +kernel
theorem dL_law_522 : decode code 522 = .ok (.iload_n 3, 1) := by decide +kernel
theorem dL_law_523 : decode code 523 = .ok (.iconst 1, 1) := by decide +kernel
theorem dL_law_524 : decode code 524 = .ok (.iadd, 1) := by decide +kernel
theorem dL_law_525 : decode code 525 = .ok (.iaload, 1) := by decide +kernel
theorem dL_law_526 : decode code 526 = .ok (.aload_n 0, 1) := by decide +kernel
theorem dL_law_527 : decode code 527 = .ok (.iload_n 3, 1) := by decide +kernel
theorem dL_law_528 : decode code 528 = .ok (.iconst 2, 1) := by decide +kernel
theorem dL_law_529 : decode code 529 = .ok (.iadd, 1) := by decide +kernel
theorem dL_law_530 : decode code 530 = .ok (.iaload, 1) := by decide +kernel
theorem dL_law_531 : decode code 531 = .ok (.aload_n 0, 1) := by decide +kernel
theorem dL_law_532 : decode code 532 = .ok (.iload_n 3, 1) := by decide +kernel
theorem dL_law_533 : decode code 533 = .ok (.iconst 3, 1) := by decide +kernel
theorem dL_law_534 : decode code 534 = .ok (.iadd, 1) := by decide +kernel
theorem dL_law_535 : decode code 535 = .ok (.iaload, 1) := by decide +kernel
theorem dL_law_536 : decode code 536 = .ok (.invokevirtual 66, 3) := by decide +kernel
theorem dL_law_539 : decode code 539 = .ok (.pop, 1) := by decide +kernel
theorem dL_law_540 : decode code 540 = .ok (.goto 930, 3) := by decide +kernel
theorem dL_law_543 : decode code 543 = .ok (.aload_n 1, 1) := by decide +kernel
theorem dL_law_544 : decode code 544 = .ok (.aload_n 0, 1) := by decide +kernel
theorem dL_law_545 : decode code 545 = .ok (.iload_n 3, 1) := by decide +kernel
theorem dL_law_546 : decode code 546 = .ok (.iconst 1, 1) := by decide +kernel
theorem dL_law_547 : decode code 547 = .ok (.iadd, 1) := by decide +kernel
theorem dL_law_548 : decode code 548 = .ok (.iaload, 1) := by decide +kernel
theorem dL_law_549 : decode code 549 = .ok (.aload_n 0, 1) := by decide +kernel
theorem dL_law_550 : decode code 550 = .ok (.iload_n 3, 1) := by decide +kernel
theorem dL_law_551 : decode code 551 = .ok (.iconst 2, 1) := by decide +kernel
theorem dL_law_552 : decode code 552 = .ok (.iadd, 1) := by decide +kernel
theorem dL_law_553 : decode code 553 = .ok (.iaload, 1) := by decide +kernel
theorem dL_law_554 : decode code 554 = .ok (.aload_n 0, 1) := by decide +kernel
theorem dL_law_555 : decode code 555 = .ok (.iload_n 3, 1) := by decide +kernel
theorem dL_law_556 : decode code 556 = .ok (.iconst 3, 1) := by decide +kernel
theorem dL_law_557 : decode code 557 = .ok (.iadd, 1) := by decide +kernel
theorem dL_law_558 : decode code 558 = .ok (.iaload, 1) := by decide +kernel
theorem dL_law_559 : decode code 559 = .ok (.invokevirtual 67, 3) := by decide +kernel
theorem dL_law_562 : decode code 562 = .ok (.pop, 1) := by decide +kernel
theorem dL_law_563 : decode code 563 = .ok (.aload_n 2, 1) := by decide +kernel
theorem dL_law_564 : decode code 564 = .ok (.aload_n 0, 1) := by decide +kernel
theorem dL_law_565 : decode code 565 = .ok (.iload_n 3, 1) := by decide +kernel
theorem dL_law_566 : decode code 566 = .ok (.iconst 1, 1) := by decide +kernel
theorem dL_law_567 : decode code 567 = .ok (.iadd, 1) := by decide +kernel
theorem dL_law_568 : decode code 568 = .ok (.iaload, 1) := by decide +kernel
theorem dL_law_569 : decode code 569 = .ok (.aload_n 0, 1) := by decide +kernel
theorem dL_law_570 : decode code 570 = .ok (.iload_n 3, 1) := by decide +kernel
theorem dL_law_571 : decode code 571 = .ok (.iconst 2, 1) := by decide +kernel
theorem dL_law_572 : decode code 572 = .ok (.iadd, 1) := by decide +kernel
theorem dL_law_573 : decode code 573 = .ok (.iaload, 1) := by decide +kernel
theorem dL_law_574 : decode code 574 = .ok (.aload_n 0, 1) := by decide +kernel
theorem dL_law_575 : decode code 575 = .ok (.iload_n 3, 1) := by decide +kernel
theorem dL_law_576 : decode code 576 = .ok (.iconst 3, 1) := by decide +kernel
theorem dL_law_577 : decode code 577 = .ok (.iadd, 1) := by decide +kernel
theorem dL_law_578 : decode code 578 = .ok (.iaload, 1) := by decide +kernel
theorem dL_law_579 : decode code 579 = .ok (.invokevirtual 70, 3) := by decide +kernel
theorem dL_law_582 : decode code 582 = .ok (.pop, 1) := by decide +kernel
theorem dL_law_583 : decode code 583 = .ok (.goto 887, 3) := by decide +kernel
theorem dL_law_586 : decode code 586 = .ok (.aload_n 1, 1) := by decide +kernel
theorem dL_law_587 : decode code 587 = .ok (.aload_n 0, 1) := by decide +kernel
theorem dL_law_588 : decode code 588 = .ok (.iload_n 3, 1) := by decide +kernel
theorem dL_law_589 : decode code 589 = .ok (.iconst 1, 1) := by decide +kernel
theorem dL_law_590 : decode code 590 = .ok (.iadd, 1) := by decide +kernel
theorem dL_law_591 : decode code 591 = .ok (.iaload, 1) := by decide +kernel
theorem dL_law_592 : decode code 592 = .ok (.aload_n 0, 1) := by decide +kernel
theorem dL_law_593 : decode code 593 = .ok (.iload_n 3, 1) := by decide +kernel
theorem dL_law_594 : decode code 594 = .ok (.iconst 2, 1) := by decide +kernel
theorem dL_law_595 : decode code 595 = .ok (.iadd, 1) := by decide +kernel
theorem dL_law_596 : decode code 596 = .ok (.iaload, 1) := by decide +kernel
theorem dL_law_597 : decode code 597 = .ok (.aload_n 0, 1) := by decide +kernel
theorem dL_law_598 : decode code 598 = .ok (.iload_n 3, 1) := by decide +kernel
theorem dL_law_599 : decode code 599 = .ok (.iconst 3, 1) := by decide +kernel
theorem dL_law_600 : decode code 600 = .ok (.iadd, 1) := by decide +kernel
theorem dL_law_601 : decode code 601 = .ok (.iaload, 1) := by decide +kernel
theorem dL_law_602 : decode code 602 = .ok (.aload_n 0, 1) := by decide +kernel
theorem dL_law_603 : decode code 603 = .ok (.iload_n 3, 1) := by decide +kernel
theorem dL_law_604 : decode code 604 = .ok (.iconst 4, 1) := by decide +kernel
theorem dL_law_605 : decode code 605 = .ok (.iadd, 1) := by decide +kernel
theorem dL_law_606 : decode code 606 = .ok (.iaload, 1) := by decide +kernel
theorem dL_law_607 : decode code 607 = .ok (.aload_n 0, 1) := by decide +kernel
theorem dL_law_608 : decode code 608 = .ok (.iload_n 3, 1) := by decide +kernel
theorem dL_law_609 : decode code 609 = .ok (.iconst 5, 1) := by decide +kernel
theorem dL_law_610 : decode code 610 = .ok (.iadd, 1) := by decide +kernel
theorem dL_law_611 : decode code 611 = .ok (.iaload, 1) := by decide +kernel
theorem dL_law_612 : decode code 612 = .ok (.invokevirtual 71, 3) := by decide +kernel
theorem dL_law_615 : decode code 615 = .ok (.pop, 1) := by decide +kernel
theorem dL_law_616 : decode code 616 = .ok (.aload_n 2, 1) := by decide +kernel
theorem dL_law_617 : decode code 617 = .ok (.aload_n 0, 1) := by decide +kernel
theorem dL_law_618 : decode code 618 = .ok (.iload_n 3, 1) := by decide +kernel
theorem dL_law_619 : decode code 619 = .ok (.iconst 1, 1) := by decide +kernel
theorem dL_law_620 : decode code 620 = .ok (.iadd, 1) := by decide +kernel
theorem dL_law_621 : decode code 621 = .ok (.iaload, 1) := by decide +kernel
theorem dL_law_622 : decode code 622 = .ok (.aload_n 0, 1) := by decide +kernel
theorem dL_law_623 : decode code 623 = .ok (.iload_n 3, 1) := by decide +kernel
theorem dL_law_624 : decode code 624 = .ok (.iconst 2, 1) := by decide +kernel
theorem dL_law_625 : decode code 625 = .ok (.iadd, 1) := by decide +kernel
theorem dL_law_626 : decode code 626 = .ok (.iaload, 1) := by decide +kernel
theorem dL_law_627 : decode code 627 = .ok (.aload_n 0, 1) := by decide +kernel
theorem dL_law_628 : decode code 628 = .ok (.iload_n 3, 1) := by decide +kernel
theorem dL_law_629 : decode code 629 = .ok (.iconst 3, 1) := by decide +kernel
theorem dL_law_630 : decode code 630 = .ok (.iadd, 1) := by decide +kernel
theorem dL_law_631 : decode code 631 = .ok (.iaload, 1) := by decide +kernel
theorem dL_law_632 : decode code 632 = .ok (.aload_n 0, 1) := by decide +kernel
theorem dL_law_633 : decode code 633 = .ok (.iload_n 3, 1) := by decide +kernel
theorem dL_law_634 : decode code 634 = .ok (.iconst 4, 1) := by decide +kernel
theorem dL_law_635 : decode code 635 = .ok (.iadd, 1) := by decide +kernel
theorem dL_law_636 : decode code 636 = .ok (.iaload, 1) := by decide +kernel
theorem dL_law_637 : decode code 637 = .ok (.aload_n 0, 1) := by decide +kernel
theorem dL_law_638 : decode code 638 = .ok (.iload_n 3, 1) := by decide +kernel
theorem dL_law_639 : decode code 639 = .ok (.iconst 5, 1) := by decide +kernel
theorem dL_law_640 : decode code 640 = .ok (.iadd, 1) := by decide +kernel
theorem dL_law_641 : decode code 641 = .ok (.iaload, 1) := by decide +kernel
theorem dL_law_642 : decode code 642 = .ok (.invokevirtual 75, 3) := by decide +kernel
theorem dL_law_645 : decode code 645 = .ok (.pop, 1) := by decide +kernel
theorem dL_law_646 : decode code 646 = .ok (.goto 824, 3) := by decide +kernel
theorem dL_law_649 : decode code 649 = .ok (.aload_n 1, 1) := by decide +kernel
theorem dL_law_650 : decode code 650 = .ok (.aload_n 0, 1) := by decide +kernel
theorem dL_law_651 : decode code 651 = .ok (.iload_n 3, 1) := by decide +kernel
theorem dL_law_652 : decode code 652 = .ok (.iconst 1, 1) := by decide +kernel
theorem dL_law_653 : decode code 653 = .ok (.iadd, 1) := by decide +kernel
theorem dL_law_654 : decode code 654 = .ok (.iaload, 1) := by decide +kernel
theorem dL_law_655 : decode code 655 = .ok (.invokevirtual 76, 3) := by decide +kernel
theorem dL_law_658 : decode code 658 = .ok (.pop, 1) := by decide +kernel
theorem dL_law_659 : decode code 659 = .ok (.aload_n 2, 1) := by decide +kernel
theorem dL_law_660 : decode code 660 = .ok (.aload_n 0, 1) := by decide +kernel
theorem dL_law_661 : decode code 661 = .ok (.iload_n 3, 1) := by decide +kernel
theorem dL_law_662 : decode code 662 = .ok (.iconst 1, 1) := by decide +kernel
theorem dL_law_663 : decode code 663 = .ok (.iadd, 1) := by decide +kernel
theorem dL_law_664 : decode code 664 = .ok (.iaload, 1) := by decide +kernel
theorem dL_law_665 : decode code 665 = .ok (.invokevirtual 79, 3) := by decide +kernel
theorem dL_law_668 : decode code 668 = .ok (.pop, 1) := by decide +kernel
theorem dL_law_669 : decode code 669 = .ok (.goto 801, 3) := by decide +kernel
theorem dL_law_672 : decode code 672 = .ok (.aload_n 1, 1) := by decide +kernel
theorem dL_law_673 : decode code 673 = .ok (.invokevirtual 80, 3) := by decide +kernel
theorem dL_law_676 : decode code 676 = .ok (.pop, 1) := by decide +kernel
theorem dL_law_677 : decode code 677 = .ok (.aload_n 2, 1) := by decide +kernel
theorem dL_law_678 : decode code 678 = .ok (.invokevirtual 83, 3) := by decide +kernel
theorem dL_law_681 : decode code 681 = .ok (.pop, 1) := by decide +kernel
theorem dL_law_682 : decode code 682 = .ok (.goto 788, 3) := by decide +kernel
theorem dL_law_685 : decode code 685 = .ok (.aload_n 1, 1) := by decide +kernel
theorem dL_law_686 : decode code 686 = .ok (.aload_n 0, 1) := by decide +kernel
theorem dL_law_687 : decode code 687 = .ok (.iload_n 3, 1) := by decide +kernel
theorem dL_law_688 : decode code 688 = .ok (.iconst 1, 1) := by decide +kernel
theorem dL_law_689 : decode code 689 = .ok (.iadd, 1) := by decide +kernel
theorem dL_law_690 : decode code 690 = .ok (.iaload, 1) := by decide +kernel
theorem dL_law_691 : decode code 691 = .ok (.invokevirtual 84, 3) := by decide +kernel
theorem dL_law_694 : decode code 694 = .ok (.pop, 1) := by decide +kernel
theorem dL_law_695 : decode code 695 = .ok (.aload_n 2, 1) := by decide +kernel
theorem dL_law_696 : decode code 696 = .ok (.aload_n 0, 1) := by decide +kernel
theorem dL_law_697 : decode code 697 = .ok (.iload_n 3, 1) := by decide +kernel
theorem dL_law_698 : decode code 698 = .ok (.iconst 1, 1) := by decide +kernel
theorem dL_law_699 : decode code 699 = .ok (.iadd, 1) := by decide +kernel
theorem dL_law_700 : decode code 700 = .ok (.iaload, 1) := by decide +kernel
theorem dL_law_701 : decode code 701 = .ok (.invokevirtual 87, 3) := by decide +kernel
theorem dL_law_704 : decode code 704 = .ok (.pop, 1) := by decide +kernel
theorem dL_law_705 : decode code 705 = .ok (.goto 765, 3) := by decide +kernel
theorem dL_law_708 : decode code 708 = .ok (.aload_n 1, 1) := by decide +kernel
theorem dL_law_709 : decode code 709 = .ok (.aload_n 0, 1) := by decide +kernel
theorem dL_law_710 : decode code 710 = .ok (.iload_n 3, 1) := by decide +kernel
theorem dL_law_711 : decode code 711 = .ok (.iconst 1, 1) := by decide +kernel
theorem dL_law_712 : decode code 712 = .ok (.iadd, 1) := by decide +kernel
theorem dL_law_713 : decode code 713 = .ok (.iaload, 1) := by decide +kernel
theorem dL_law_714 : decode code 714 = .ok (.aload_n 0, 1) := by decide +kernel
theorem dL_law_715 : decode code 715 = .ok (.iload_n 3, 1) := by decide +kernel
theorem dL_law_716 : decode code 716 = .ok (.iconst 2, 1) := by decide +kernel
theorem dL_law_717 : decode code 717 = .ok (.iadd, 1) := by decide +kernel
theorem dL_law_718 : decode code 718 = .ok (.iaload, 1) := by decide +kernel
theorem dL_law_719 : decode code 719 = .ok (.aload_n 0, 1) := by decide +kernel
theorem dL_law_720 : decode code 720 = .ok (.iload_n 3, 1) := by decide +kernel
theorem dL_law_721 : decode code 721 = .ok (.iconst 3, 1) := by decide +kernel
theorem dL_law_722 : decode code 722 = .ok (.iadd, 1) := by decide +kernel
theorem dL_law_723 : decode code 723 = .ok (.iaload, 1) := by decide +kernel
theorem dL_law_724 : decode code 724 = .ok (.invokevirtual 88, 3) := by decide +kernel
theorem dL_law_727 : decode code 727 = .ok (.pop, 1) := by decide +kernel
theorem dL_law_728 : decode code 728 = .ok (.aload_n 2, 1) := by decide +kernel
theorem dL_law_729 : decode code 729 = .ok (.aload_n 0, 1) := by decide +kernel
theorem dL_law_730 : decode code 730 = .ok (.iload_n 3, 1) := by decide +kernel
theorem dL_law_731 : decode code 731 = .ok (.iconst 1, 1) := by decide +kernel
theorem dL_law_732 : decode code 732 = .ok (.iadd, 1) := by decide +kernel
theorem dL_law_733 : decode code 733 = .ok (.iaload, 1) := by decide +kernel
theorem dL_law_734 : decode code 734 = .ok (.aload_n 0, 1) := by decide +kernel
theorem dL_law_735 : decode code 735 = .ok (.iload_n 3, 1) := by decide +kernel
theorem dL_law_736 : decode code 736 = .ok (.iconst 2, 1) := by decide +kernel
theorem dL_law_737 : decode code 737 = .ok (.iadd, 1) := by decide +kernel
theorem dL_law_738 : decode code 738 = .ok (.iaload, 1) := by decide +kernel
theorem dL_law_739 : decode code 739 = .ok (.aload_n 0, 1) := by decide +kernel
theorem dL_law_740 : decode code 740 = .ok (.iload_n 3, 1) := by decide +kernel
theorem dL_law_741 : decode code 741 = .ok (.iconst 3, 1) := by decide +kernel
theorem dL_law_742 : decode code 742 = .ok (.iadd, 1) := by decide +kernel
theorem dL_law_743 : decode code 743 = .ok (.iaload, 1) := by decide +kernel
theorem dL_law_744 : decode code 744 = .ok (.invokevirtual 91, 3) := by decide +kernel
theorem dL_law_747 : decode code 747 = .ok (.pop, 1) := by decide +kernel
theorem dL_law_748 : decode code 748 = .ok (.goto 722, 3) := by decide +kernel
theorem dL_law_751 : decode code 751 = .ok (.aload_n 1, 1) := by decide +kernel
theorem dL_law_752 : decode code 752 = .ok (.aload_n 0, 1) := by decide +kernel
theorem dL_law_753 : decode code 753 = .ok (.iload_n 3, 1) := by decide +kernel
theorem dL_law_754 : decode code 754 = .ok (.iconst 1, 1) := by decide +kernel
theorem dL_law_755 : decode code 755 = .ok (.iadd, 1) := by decide +kernel
theorem dL_law_756 : decode code 756 = .ok (.iaload, 1) := by decide +kernel
theorem dL_law_757 : decode code 757 = .ok (.aload_n 0, 1) := by decide +kernel
theorem dL_law_758 : decode code 758 = .ok (.iload_n 3, 1) := by decide +kernel
theorem dL_law_759 : decode code 759 = .ok (.iconst 2, 1) := by decide +kernel
theorem dL_law_760 : decode code 760 = .ok (.iadd, 1) := by decide +kernel
theorem dL_law_761 : decode code 761 = .ok (.iaload, 1) := by decide +kernel
theorem dL_law_762 : decode code 762 = .ok (.aload_n 0, 1) := by decide +kernel
theorem dL_law_763 : decode code 763 = .ok (.iload_n 3, 1) := by decide +kernel
theorem dL_law_764 : decode code 764 = .ok (.iconst 3, 1) := by decide +kernel
theorem dL_law_765 : decode code 765 = .ok (.iadd, 1) := by decide +kernel
theorem dL_law_766 : decode code 766 = .ok (.iaload, 1) := by decide +kernel
theorem dL_law_767 : decode code 767 = .ok (.ifCond .eq 7, 3) := by decide +kernel
theorem dL_law_770 : decode code 770 = .ok (.iconst 1, 1) := by decide +kernel
theorem dL_law_771 : decode code 771 = .ok (.goto 4, 3) := by decide +kernel
theorem dL_law_774 : decode code 774 = .ok (.iconst 0, 1) := by decide +kernel
theorem dL_law_775 : decode code 775 = .ok (.aload_n 0, 1) := by decide +kernel
theorem dL_law_776 : decode code 776 = .ok (.iload_n 3, 1) := by decide +kernel
theorem dL_law_777 : decode code 777 = .ok (.iconst 4, 1) := by decide +kernel
theorem dL_law_778 : decode code 778 = .ok (.iadd, 1) := by decide +kernel
theorem dL_law_779 : decode code 779 = .ok (.iaload, 1) := by decide +kernel
theorem dL_law_780 : decode code 780 = .ok (.invokevirtual 92, 3) := by decide +kernel
theorem dL_law_783 : decode code 783 = .ok (.pop, 1) := by decide +kernel
theorem dL_law_784 : decode code 784 = .ok (.aload_n 2, 1) := by decide +kernel
theorem dL_law_785 : decode code 785 = .ok (.aload_n 0, 1) := by decide +kernel
theorem dL_law_786 : decode code 786 = .ok (.iload_n 3, 1) := by decide +kernel
theorem dL_law_787 : decode code 787 = .ok (.iconst 1, 1) := by decide +kernel
theorem dL_law_788 : decode code 788 = .ok (.iadd, 1) := by decide +kernel
theorem dL_law_789 : decode code 789 = .ok (.iaload, 1) := by decide +kernel
theorem dL_law_790 : decode code 790 = .ok (.aload_n 0, 1) := by decide +kernel
theorem dL_law_791 : decode code 791 = .ok (.iload_n 3, 1) := by decide +kernel
theorem dL_law_792 : decode code 792 = .ok (.iconst 2, 1) := by decide +kernel
theorem dL_law_793 : decode code 793 = .ok (.iadd, 1) := by decide +kernel
theorem dL_law_794 : decode code 794 = .ok (.iaload, 1) := by decide +kernel
theorem dL_law_795 : decode code 795 = .ok (.aload_n 0, 1) := by decide +kernel
theorem dL_law_796 : decode code 796 = .ok (.iload_n 3, 1) := by decide +kernel
theorem dL_law_797 : decode code 797 = .ok (.iconst 3, 1) := by decide +kernel
theorem dL_law_798 : decode code 798 = .ok (.iadd, 1) := by decide +kernel
theorem dL_law_799 : decode code 799 = .ok (.iaload, 1) := by decide +kernel
theorem dL_law_800 : decode code 800 = .ok (.ifCond .eq 7, 3) := by decide +kernel
theorem dL_law_803 : decode code 803 = .ok (.iconst 1, 1) := by decide +kernel
theorem dL_law_804 : decode code 804 = .ok (.goto 4, 3) := by decide +kernel
theorem dL_law_807 : decode code 807 = .ok (.iconst 0, 1) := by decide +kernel
theorem dL_law_808 : decode code 808 = .ok (.aload_n 0, 1) := by decide +kernel
theorem dL_law_809 : decode code 809 = .ok (.iload_n 3, 1) := by decide +kernel
theorem dL_law_810 : decode code 810 = .ok (.iconst 4, 1) := by decide +kernel
theorem dL_law_811 : decode code 811 = .ok (.iadd, 1) := by decide +kernel
theorem dL_law_812 : decode code 812 = .ok (.iaload, 1) := by decide +kernel
theorem dL_law_813 : decode code 813 = .ok (.invokevirtual 96, 3) := by decide +kernel
theorem dL_law_816 : decode code 816 = .ok (.pop, 1) := by decide +kernel
theorem dL_law_817 : decode code 817 = .ok (.goto 653, 3) := by decide +kernel
theorem dL_law_820 : decode code 820 = .ok (.aload_n 1, 1) := by decide +kernel
theorem dL_law_821 : decode code 821 = .ok (.aload_n 0, 1) := by decide +kernel
theorem dL_law_822 : decode code 822 = .ok (.iload_n 3, 1) := by decide +kernel
theorem dL_law_823 : decode code 823 = .ok (.iconst 1, 1) := by decide +kernel
theorem dL_law_824 : decode code 824 = .ok (.iadd, 1) := by decide +kernel
theorem dL_law_825 : decode code 825 = .ok (.iaload, 1) := by decide +kernel
theorem dL_law_826 : decode code 826 = .ok (.aload_n 0, 1) := by decide +kernel
theorem dL_law_827 : decode code 827 = .ok (.iload_n 3, 1) := by decide +kernel
theorem dL_law_828 : decode code 828 = .ok (.iconst 2, 1) := by decide +kernel
theorem dL_law_829 : decode code 829 = .ok (.iadd, 1) := by decide +kernel
theorem dL_law_830 : decode code 830 = .ok (.iaload, 1) := by decide +kernel
theorem dL_law_831 : decode code 831 = .ok (.invokevirtual 97, 3) := by decide +kernel
theorem dL_law_834 : decode code 834 = .ok (.pop, 1) := by decide +kernel
theorem dL_law_835 : decode code 835 = .ok (.aload_n 2, 1) := by decide +kernel
theorem dL_law_836 : decode code 836 = .ok (.aload_n 0, 1) := by decide +kernel
theorem dL_law_837 : decode code 837 = .ok (.iload_n 3, 1) := by decide +kernel
theorem dL_law_838 : decode code 838 = .ok (.iconst 1, 1) := by decide +kernel
theorem dL_law_839 : decode code 839 = .ok (.iadd, 1) := by decide +kernel
theorem dL_law_840 : decode code 840 = .ok (.iaload, 1) := by decide +kernel
theorem dL_law_841 : decode code 841 = .ok (.aload_n 0, 1) := by decide +kernel
theorem dL_law_842 : decode code 842 = .ok (.iload_n 3, 1) := by decide +kernel
theorem dL_law_843 : decode code 843 = .ok (.iconst 2, 1) := by decide +kernel
theorem dL_law_844 : decode code 844 = .ok (.iadd, 1) := by decide +kernel
theorem dL_law_845 : decode code 845 = .ok (.iaload, 1) := by decide +kernel
theorem dL_law_846 : decode code 846 = .ok (.invokevirtual 100, 3) := by decide +kernel
theorem dL_law_849 : decode code 849 = .ok (.pop, 1) := by decide +kernel
theorem dL_law_850 : decode code 850 = .ok (.goto 620, 3) := by decide +kernel
theorem dL_law_853 : decode code 853 = .ok (.aload_n 1, 1) := by decide +kernel
theorem dL_law_854 : decode code 854 = .ok (.aload_n 0, 1) := by decide +kernel
theorem dL_law_855 : decode code 855 = .ok (.iload_n 3, 1) := by decide +kernel
theorem dL_law_856 : decode code 856 = .ok (.iconst 1, 1) := by decide +kernel
theorem dL_law_857 : decode code 857 = .ok (.iadd, 1) := by decide +kernel
theorem dL_law_858 : decode code 858 = .ok (.iaload, 1) := by decide +kernel
theorem dL_law_859 : decode code 859 = .ok (.aload_n 0, 1) := by decide +kernel
theorem dL_law_860 : decode code 860 = .ok (.iload_n 3, 1) := by decide +kernel
theorem dL_law_861 : decode code 861 = .ok (.iconst 2, 1) := by decide +kernel
theorem dL_law_862 : decode code 862 = .ok (.iadd, 1) := by decide +kernel
theorem dL_law_863 : decode code 863 = .ok (.iaload, 1) := by decide +kernel
theorem dL_law_864 : decode code 864 = .ok (.ifCond .eq 7, 3) := by decide +kernel
theorem dL_law_867 : decode code 867 = .ok (.iconst 1, 1) := by decide +kernel
theorem dL_law_868 : decode code 868 = .ok (.goto 4, 3) := by decide +kernel
theorem dL_law_871 : decode code 871 = .ok (.iconst 0, 1) := by decide +kernel
theorem dL_law_872 : decode code 872 = .ok (.aload_n 0, 1) := by decide +kernel
theorem dL_law_873 : decode code 873 = .ok (.iload_n 3, 1) := by decide +kernel
theorem dL_law_874 : decode code 874 = .ok (.iconst 3, 1) := by decide +kernel
theorem dL_law_875 : decode code 875 = .ok (.iadd, 1) := by decide +kernel
theorem dL_law_876 : decode code 876 = .ok (.iaload, 1) := by decide +kernel
theorem dL_law_877 : decode code 877 = .ok (.invokevirtual 101, 3) := by decide +kernel
theorem dL_law_880 : decode code 880 = .ok (.pop, 1) := by decide +kernel
theorem dL_law_881 : decode code 881 = .ok (.aload_n 2, 1) := by decide +kernel
theorem dL_law_882 : decode code 882 = .ok (.aload_n 0, 1) := by decide +kernel
theorem dL_law_883 : decode code 883 = .ok (.iload_n 3, 1) := by decide +kernel
theorem dL_law_884 : decode code 884 = .ok (.iconst 1, 1) := by decide +kernel
theorem dL_law_885 : decode code 885 = .ok (.iadd, 1) := by decide +kernel
theorem dL_law_886 : decode code 886 = .ok (.iaload, 1) := by decide +kernel
theorem dL_law_887 : decode code 887 = .ok (.aload_n 0, 1) := by decide +kernel
theorem dL_law_888 : decode code 888 = .ok (.iload_n 3, 1) := by decide +kernel
theorem dL_law_889 : decode code 889 = .ok (.iconst 2, 1) := by decide +kernel
theorem dL_law_890 : decode code 890 = .ok (.iadd, 1) := by decide +kernel
theorem dL_law_891 : decode code 891 = .ok (.iaload, 1) := by decide +kernel
theorem dL_law_892 : decode code 892 = .ok (.ifCond .eq 7, 3) := by decide +kernel
theorem dL_law_895 : decode code 895 = .ok (.iconst 1, 1) := by decide +kernel
theorem dL_law_896 : decode code 896 = .ok (.goto 4, 3) := by decide +kernel
theorem dL_law_899 : decode code 899 = .ok (.iconst 0, 1) := by decide +kernel
theorem dL_law_900 : decode code 900 = .ok (.aload_n 0, 1) := by decide +kernel
theorem dL_law_901 : decode code 901 = .ok (.iload_n 3, 1) := by decide +kernel
theorem dL_law_902 : decode code 902 = .ok (.iconst 3, 1) := by decide +kernel
theorem dL_law_903 : decode code 903 = .ok (.iadd, 1) := by decide +kernel
theorem dL_law_904 : decode code 904 = .ok (.iaload, 1) := by decide +kernel
theorem dL_law_905 : decode code 905 = .ok (.invokevirtual 105, 3) := by decide +kernel
theorem dL_law_908 : decode code 908 = .ok (.pop, 1) := by decide +kernel
theorem dL_law_909 : decode code 909 = .ok (.goto 561, 3) := by decide +kernel
theorem dL_law_912 : decode code 912 = .ok (.aload_n 1, 1) := by decide +kernel
theorem dL_law_913 : decode code 913 = .ok (.aload_n 0, 1) := by decide +kernel
theorem dL_law_914 : decode code 914 = .ok (.iload_n 3, 1) := by decide +kernel
theorem dL_law_915 : decode code 915 = .ok (.iconst 1, 1) := by decide +kernel
theorem dL_law_916 : decode code 916 = .ok (.iadd, 1) := by decide +kernel
theorem dL_law_917 : decode code 917 = .ok (.iaload, 1) := by decide +kernel
theorem dL_law_918 : decode code 918 = .ok (.aload_n 0, 1) := by decide +kernel
theorem dL_law_919 : decode code 919 = .ok (.iload_n 3, 1) := by decide +kernel
theorem dL_law_920 : decode code 920 = .ok (.iconst 2, 1) := by decide +kernel
theorem dL_law_921 : decode code 921 = .ok (.iadd, 1) := by decide +kernel
theorem dL_law_922 : decode code 922 = .ok (.iaload, 1) := by decide +kernel
theorem dL_law_923 : decode code 923 = .ok (.invokevirtual 106, 3) := by decide +kernel
theorem dL_law_926 : decode code 926 = .ok (.pop, 1) := by decide +kernel
theorem dL_law_927 : decode code 927 = .ok (.aload_n 2, 1) := by decide +kernel
theorem dL_law_928 : decode code 928 = .ok (.aload_n 0, 1) := by decide +kernel
theorem dL_law_929 : decode code 929 = .ok (.iload_n 3, 1) := by decide +kernel
theorem dL_law_930 : decode code 930 = .ok (.iconst 1, 1) := by decide +kernel
theorem dL_law_931 : decode code 931 = .ok (.iadd, 1) := by decide +kernel
theorem dL_law_932 : decode code 932 = .ok (.iaload, 1) := by decide +kernel
theorem dL_law_933 : decode code 933 = .ok (.aload_n 0, 1) := by decide +kernel
theorem dL_law_934 : decode code 934 = .ok (.iload_n 3, 1) := by decide +kernel
theorem dL_law_935 : decode code 935 = .ok (.iconst 2, 1) := by decide +kernel
theorem dL_law_936 : decode code 936 = .ok (.iadd, 1) := by decide +kernel
theorem dL_law_937 : decode code 937 = .ok (.iaload, 1) := by decide +kernel
theorem dL_law_938 : decode code 938 = .ok (.invokevirtual 109, 3) := by decide +kernel
theorem dL_law_941 : decode code 941 = .ok (.pop, 1) := by decide +kernel
theorem dL_law_942 : decode code 942 = .ok (.goto 528, 3) := by decide +kernel
theorem dL_law_945 : decode code 945 = .ok (.aload_n 1, 1) := by decide +kernel
theorem dL_law_946 : decode code 946 = .ok (.aload_n 0, 1) := by decide +kernel
theorem dL_law_947 : decode code 947 = .ok (.iload_n 3, 1) := by decide +kernel
theorem dL_law_948 : decode code 948 = .ok (.iconst 1, 1) := by decide +kernel
theorem dL_law_949 : decode code 949 = .ok (.iadd, 1) := by decide +kernel
theorem dL_law_950 : decode code 950 = .ok (.iaload, 1) := by decide +kernel
theorem dL_law_951 : decode code 951 = .ok (.aload_n 0, 1) := by decide +kernel
theorem dL_law_952 : decode code 952 = .ok (.iload_n 3, 1) := by decide +kernel
theorem dL_law_953 : decode code 953 = .ok (.iconst 2, 1) := by decide +kernel
theorem dL_law_954 : decode code 954 = .ok (.iadd, 1) := by decide +kernel
theorem dL_law_955 : decode code 955 = .ok (.iaload, 1) := by decide +kernel
theorem dL_law_956 : decode code 956 = .ok (.aload_n 0, 1) := by decide +kernel
theorem dL_law_957 : decode code 957 = .ok (.iload_n 3, 1) := by decide +kernel
theorem dL_law_958 : decode code 958 = .ok (.iconst 3, 1) := by decide +kernel
theorem dL_law_959 : decode code 959 = .ok (.iadd, 1) := by decide +kernel
theorem dL_law_960 : decode code 960 = .ok (.iaload, 1) := by decide +kernel
theorem dL_law_961 : decode code 961 = .ok (.aload_n 0, 1) := by decide +kernel
theorem dL_law_962 : decode code 962 = .ok (.iload_n 3, 1) := by decide +kernel
theorem dL_law_963 : decode code 963 = .ok (.iconst 4, 1) := by decide +kernel
theorem dL_law_964 : decode code 964 = .ok (.iadd, 1) := by decide +kernel
theorem dL_law_965 : decode code 965 = .ok (.iaload, 1) := by decide +kernel
theorem dL_law_966 : decode code 966 = .ok (.invokevirtual 110, 3) := by decide +kernel
theorem dL_law_969 : decode code 969 = .ok (.pop, 1) := by decide +kernel
theorem dL_law_970 : decode code 970 = .ok (.aload_n 2, 1) := by decide +kernel
theorem dL_law_971 : decode code 971 = .ok (.aload_n 0, 1) := by decide +kernel
theorem dL_law_972 : decode code 972 = .ok (.iload_n 3, 1) := by decide +kernel
theorem dL_law_973 : decode code 973 = .ok (.iconst 1, 1) := by decide +kernel
theorem dL_law_974 : decode code 974 = .ok (.iadd, 1) := by decide +kernel
theorem dL_law_975 : decode code 975 = .ok (.iaload, 1) := by decide +kernel
theorem dL_law_976 : decode code 976 = .ok (.aload_n 0, 1) := by decide +kernel
theorem dL_law_977 : decode code 977 = .ok (.iload_n 3, 1) := by decide +kernel
theorem dL_law_978 : decode code 978 = .ok (.iconst 2, 1) := by decide +kernel
theorem dL_law_979 : decode code 979 = .ok (.iadd, 1) := by decide +kernel
theorem dL_law_980 : decode code 980 = .ok (.iaload, 1) := by decide +kernel
theorem dL_law_981 : decode code 981 = .ok (.aload_n 0, 1) := by decide +kernel
theorem dL_law_982 : decode code 982 = .ok (.iload_n 3, 1) := by decide +kernel
theorem dL_law_983 : decode code 983 = .ok (.iconst 3, 1) := by decide +kernel
theorem dL_law_984 : decode code 984 = .ok (.iadd, 1) := by decide +kernel
theorem dL_law_985 : decode code 985 = .ok (.iaload, 1) := by decide +kernel
theorem dL_law_986 : decode code 986 = .ok (.aload_n 0, 1) := by decide +kernel
theorem dL_law_987 : decode code 987 = .ok (.iload_n 3, 1) := by decide +kernel
theorem dL_law_988 : decode code 988 = .ok (.iconst 4, 1) := by decide +kernel
theorem dL_law_989 : decode code 989 = .ok (.iadd, 1) := by decide +kernel
theorem dL_law_990 : decode code 990 = .ok (.iaload, 1) := by decide +kernel
theorem dL_law_991 : decode code 991 = .ok (.invokevirtual 114, 3) := by decide +kernel
theorem dL_law_994 : decode code 994 = .ok (.pop, 1) := by decide +kernel
theorem dL_law_995 : decode code 995 = .ok (.goto 475, 3) := by decide +kernel
theorem dL_law_998 : decode code 998 = .ok (.aload_n 1, 1) := by decide +kernel
theorem dL_law_999 : decode code 999 = .ok (.aload_n 0, 1) := by decide +kernel
theorem dL_law_1000 : decode code 1000 = .ok (.iload_n 3, 1) := by decide +kernel
theorem dL_law_1001 : decode code 1001 = .ok (.iconst 1, 1) := by decide +kernel
theorem dL_law_1002 : decode code 1002 = .ok (.iadd, 1) := by decide +kernel
theorem dL_law_1003 : decode code 1003 = .ok (.iaload, 1) := by decide +kernel
theorem dL_law_1004 : decode code 1004 = .ok (.aload_n 0, 1) := by decide +kernel
theorem dL_law_1005 : decode code 1005 = .ok (.iload_n 3, 1) := by decide +kernel
theorem dL_law_1006 : decode code 1006 = .ok (.iconst 2, 1) := by decide +kernel
theorem dL_law_1007 : decode code 1007 = .ok (.iadd, 1) := by decide +kernel
theorem dL_law_1008 : decode code 1008 = .ok (.iaload, 1) := by decide +kernel
theorem dL_law_1009 : decode code 1009 = .ok (.invokevirtual 115, 3) := by decide +kernel
theorem dL_law_1012 : decode code 1012 = .ok (.pop, 1) := by decide +kernel
theorem dL_law_1013 : decode code 1013 = .ok (.aload_n 2, 1) := by decide +kernel
theorem dL_law_1014 : decode code 1014 = .ok (.aload_n 0, 1) := by decide +kernel
theorem dL_law_1015 : decode code 1015 = .ok (.iload_n 3, 1) := by decide +kernel
theorem dL_law_1016 : decode code 1016 = .ok (.iconst 1, 1) := by decide +kernel
theorem dL_law_1017 : decode code 1017 = .ok (.iadd, 1) := by decide +kernel
theorem dL_law_1018 : decode code 1018 = .ok (.iaload, 1) := by decide +kernel
theorem dL_law_1019 : decode code 1019 = .ok (.aload_n 0, 1) := by decide +kernel
theorem dL_law_1020 : decode code 1020 = .ok (.iload_n 3, 1) := by decide +kernel
theorem dL_law_1021 : decode code 1021 = .ok (.iconst 2, 1) := by decide +kernel
theorem dL_law_1022 : decode code 1022 = .ok (.iadd, 1) := by decide +kernel
theorem dL_law_1023 : decode code 1023 = .ok (.iaload, 1) := by decide +kernel
theorem dL_law_1024 : decode code 1024 = .ok (.invokevirtual 118, 3) := by decide +kernel
theorem dL_law_1027 : decode code 1027 = .ok (.pop, 1) := by decide +kernel
theorem dL_law_1028 : decode code 1028 = .ok (.goto 442, 3) := by decide +kernel
theorem dL_law_1031 : decode code 1031 = .ok (.aload_n 1, 1) := by decide +kernel
theorem dL_law_1032 : decode code 1032 = .ok (.aload_n 0, 1) := by decide +kernel
theorem dL_law_1033 : decode code 1033 = .ok (.iload_n 3, 1) := by decide +kernel
theorem dL_law_1034 : decode code 1034 = .ok (.iconst 1, 1) := by decide +kernel
theorem dL_law_1035 : decode code 1035 = .ok (.iadd, 1) := by decide +kernel
theorem dL_law_1036 : decode code 1036 = .ok (.iaload, 1) := by decide +kernel
theorem dL_law_1037 : decode code 1037 = .ok (.aload_n 0, 1) := by decide +kernel
theorem dL_law_1038 : decode code 1038 = .ok (.iload_n 3, 1) := by decide +kernel
theorem dL_law_1039 : decode code 1039 = .ok (.iconst 2, 1) := by decide +kernel
theorem dL_law_1040 : decode code 1040 = .ok (.iadd, 1) := by decide +kernel
theorem dL_law_1041 : decode code 1041 = .ok (.iaload, 1) := by decide +kernel
theorem dL_law_1042 : decode code 1042 = .ok (.aload_n 0, 1) := by decide +kernel
theorem dL_law_1043 : decode code 1043 = .ok (.iload_n 3, 1) := by decide +kernel
theorem dL_law_1044 : decode code 1044 = .ok (.iconst 3, 1) := by decide +kernel
theorem dL_law_1045 : decode code 1045 = .ok (.iadd, 1) := by decide +kernel
theorem dL_law_1046 : decode code 1046 = .ok (.iaload, 1) := by decide +kernel
theorem dL_law_1047 : decode code 1047 = .ok (.aload_n 0, 1) := by decide +kernel
theorem dL_law_1048 : decode code 1048 = .ok (.iload_n 3, 1) := by decide +kernel
theorem dL_law_1049 : decode code 1049 = .ok (.iconst 4, 1) := by decide +kernel
theorem dL_law_1050 : decode code 1050 = .ok (.iadd, 1) := by decide +kernel
theorem dL_law_1051 : decode code 1051 = .ok (.iaload, 1) := by decide +kernel
theorem dL_law_1052 : decode code 1052 = .ok (.invokevirtual 119, 3) := by decide +kernel
theorem dL_law_1055 : decode code 1055 = .ok (.pop, 1) := by decide +kernel
theorem dL_law_1056 : decode code 1056 = .ok (.aload_n 2, 1) := by decide +kernel
theorem dL_law_1057 : decode code 1057 = .ok (.aload_n 0, 1) := by decide +kernel
theorem dL_law_1058 : decode code 1058 = .ok (.iload_n 3, 1) := by decide +kernel
theorem dL_law_1059 : decode code 1059 = .ok (.iconst 1, 1) := by decide +kernel
theorem dL_law_1060 : decode code 1060 = .ok (.iadd, 1) := by decide +kernel
theorem dL_law_1061 : decode code 1061 = .ok (.iaload, 1) := by decide +kernel
theorem dL_law_1062 : decode code 1062 = .ok (.aload_n 0, 1) := by decide +kernel
theorem dL_law_1063 : decode code 1063 = .ok (.iload_n 3, 1) := by decide +kernel
theorem dL_law_1064 : decode code 1064 = .ok (.iconst 2, 1) := by decide +kernel
theorem dL_law_1065 : decode code 1065 = .ok (.iadd, 1) := by decide +kernel
theorem dL_law_1066 : decode code 1066 = .ok (.iaload, 1) := by decide +kernel
theorem dL_law_1067 : decode code 1067 = .ok (.aload_n 0, 1) := by decide +kernel
theorem dL_law_1068 : decode code 1068 = .ok (.iload_n 3, 1) := by decide +kernel
theorem dL_law_1069 : decode code 1069 = .ok (.iconst 3, 1) := by decide +kernel
theorem dL_law_1070 : decode code 1070 = .ok (.iadd, 1) := by decide +kernel
theorem dL_law_1071 : decode code 1071 = .ok (.iaload, 1) := by decide +kernel
theorem dL_law_1072 : decode code 1072 = .ok (.aload_n 0, 1) := by decide +kernel
theorem dL_law_1073 : decode code 1073 = .ok (.iload_n 3, 1) := by decide +kernel
theorem dL_law_1074 : decode code 1074 = .ok (.iconst 4, 1) := by decide +kernel
theorem dL_law_1075 : decode code 1075 = .ok (.iadd, 1) := by decide +kernel
theorem dL_law_1076 : decode code 1076 = .ok (.iaload, 1) := by decide +kernel
theorem dL_law_1077 : decode code 1077 = .ok (.invokevirtual 122, 3) := by decide +kernel
theorem dL_law_1080 : decode code 1080 = .ok (.pop, 1) := by decide +kernel
theorem dL_law_1081 : decode code 1081 = .ok (.goto 389, 3) := by decide +kernel
theorem dL_law_1084 : decode code 1084 = .ok (.aload_n 1, 1) := by decide +kernel
theorem dL_law_1085 : decode code 1085 = .ok (.aload_n 0, 1) := by decide +kernel
theorem dL_law_1086 : decode code 1086 = .ok (.iload_n 3, 1) := by decide +kernel
theorem dL_law_1087 : decode code 1087 = .ok (.iconst 1, 1) := by decide +kernel
theorem dL_law_1088 : decode code 1088 = .ok (.iadd, 1) := by decide +kernel
theorem dL_law_1089 : decode code 1089 = .ok (.iaload, 1) := by decide +kernel
theorem dL_law_1090 : decode code 1090 = .ok (.aload_n 0, 1) := by decide +kernel
theorem dL_law_1091 : decode code 1091 = .ok (.iload_n 3, 1) := by decide +kernel
theorem dL_law_1092 : decode code 1092 = .ok (.iconst 2, 1) := by decide +kernel
theorem dL_law_1093 : decode code 1093 = .ok (.iadd, 1) := by decide +kernel
theorem dL_law_1094 : decode code 1094 = .ok (.iaload, 1) := by decide +kernel
theorem dL_law_1095 : decode code 1095 = .ok (.aload_n 0, 1) := by decide +kernel
theorem dL_law_1096 : decode code 1096 = .ok (.iload_n 3, 1) := by decide +kernel
theorem dL_law_1097 : decode code 1097 = .ok (.iconst 3, 1) := by decide +kernel
theorem dL_law_1098 : decode code 1098 = .ok (.iadd, 1) := by decide +kernel
theorem dL_law_1099 : decode code 1099 = .ok (.iaload, 1) := by decide +kernel
theorem dL_law_1100 : decode code 1100 = .ok (.aload_n 0, 1) := by decide +kernel
theorem dL_law_1101 : decode code 1101 = .ok (.iload_n 3, 1) := by decide +kernel
theorem dL_law_1102 : decode code 1102 = .ok (.iconst 4, 1) := by decide +kernel
theorem dL_law_1103 : decode code 1103 = .ok (.iadd, 1) := by decide +kernel
theorem dL_law_1104 : decode code 1104 = .ok (.iaload, 1) := by decide +kernel
theorem dL_law_1105 : decode code 1105 = .ok (.invokevirtual 123, 3) := by decide +kernel
theorem dL_law_1108 : decode code 1108 = .ok (.pop, 1) := by decide +kernel
theorem dL_law_1109 : decode code 1109 = .ok (.aload_n 2, 1) := by decide +kernel
theorem dL_law_1110 : decode code 1110 = .ok (.aload_n 0, 1) := by decide +kernel
theorem dL_law_1111 : decode code 1111 = .ok (.iload_n 3, 1) := by decide +kernel
theorem dL_law_1112 : decode code 1112 = .ok (.iconst 1, 1) := by decide +kernel
theorem dL_law_1113 : decode code 1113 = .ok (.iadd, 1) := by decide +kernel
theorem dL_law_1114 : decode code 1114 = .ok (.iaload, 1) := by decide +kernel
theorem dL_law_1115 : decode code 1115 = .ok (.aload_n 0, 1) := by decide +kernel
theorem dL_law_1116 : decode code 1116 = .ok (.iload_n 3, 1) := by decide +kernel
theorem dL_law_1117 : decode code 1117 = .ok (.iconst 2, 1) := by decide +kernel
theorem dL_law_1118 : decode code 1118 = .ok (.iadd, 1) := by decide +kernel
theorem dL_law_1119 : decode code 1119 = .ok (.iaload, 1) := by decide +kernel
theorem dL_law_1120 : decode code 1120 = .ok (.aload_n 0, 1) := by decide +kernel
theorem dL_law_1121 : decode code 1121 = .ok (.iload_n 3, 1) := by decide +kernel
theorem dL_law_1122 : decode code 1122 = .ok (.iconst 3, 1) := by decide +kernel
theorem dL_law_1123 : decode code 1123 = .ok (.iadd, 1) := by decide +kernel
theorem dL_law_1124 : decode code 1124 = .ok (.iaload, 1) := by decide +kernel
theorem dL_law_1125 : decode code 1125 = .ok (.aload_n 0, 1) := by decide +kernel
theorem dL_law_1126 : decode code 1126 = .ok (.iload_n 3, 1) := by decide +kernel
theorem dL_law_1127 : decode code 1127 = .ok (.iconst 4, 1) := by decide +kernel
theorem dL_law_1128 : decode code 1128 = .ok (.iadd, 1) := by decide +kernel
theorem dL_law_1129 : decode code 1129 = .ok (.iaload, 1) := by decide +kernel
theorem dL_law_1130 : decode code 1130 = .ok (.invokevirtual 126, 3) := by decide +kernel
theorem dL_law_1133 : decode code 1133 = .ok (.pop, 1) := by decide +kernel
theorem dL_law_1134 : decode code 1134 = .ok (.goto 336, 3) := by decide +kernel
theorem dL_law_1137 : decode code 1137 = .ok (.aload_n 1, 1) := by decide +kernel
theorem dL_law_1138 : decode code 1138 = .ok (.aload_n 0, 1) := by decide +kernel
theorem dL_law_1139 : decode code 1139 = .ok (.iload_n 3, 1) := by decide +kernel
theorem dL_law_1140 : decode code 1140 = .ok (.iconst 1, 1) := by decide +kernel
theorem dL_law_1141 : decode code 1141 = .ok (.iadd, 1) := by decide +kernel
theorem dL_law_1142 : decode code 1142 = .ok (.iaload, 1) := by decide +kernel
theorem dL_law_1143 : decode code 1143 = .ok (.aload_n 0, 1) := by decide +kernel
theorem dL_law_1144 : decode code 1144 = .ok (.iload_n 3, 1) := by decide +kernel
theorem dL_law_1145 : decode code 1145 = .ok (.iconst 2, 1) := by decide +kernel
theorem dL_law_1146 : decode code 1146 = .ok (.iadd, 1) := by decide +kernel
theorem dL_law_1147 : decode code 1147 = .ok (.iaload, 1) := by decide +kernel
theorem dL_law_1148 : decode code 1148 = .ok (.invokevirtual 127, 3) := by decide +kernel
theorem dL_law_1151 : decode code 1151 = .ok (.pop, 1) := by decide +kernel
theorem dL_law_1152 : decode code 1152 = .ok (.aload_n 2, 1) := by decide +kernel
theorem dL_law_1153 : decode code 1153 = .ok (.aload_n 0, 1) := by decide +kernel
theorem dL_law_1154 : decode code 1154 = .ok (.iload_n 3, 1) := by decide +kernel
theorem dL_law_1155 : decode code 1155 = .ok (.iconst 1, 1) := by decide +kernel
theorem dL_law_1156 : decode code 1156 = .ok (.iadd, 1) := by decide +kernel
theorem dL_law_1157 : decode code 1157 = .ok (.iaload, 1) := by decide +kernel
theorem dL_law_1158 : decode code 1158 = .ok (.aload_n 0, 1) := by decide +kernel
theorem dL_law_1159 : decode code 1159 = .ok (.iload_n 3, 1) := by decide +kernel
theorem dL_law_1160 : decode code 1160 = .ok (.iconst 2, 1) := by decide +kernel
theorem dL_law_1161 : decode code 1161 = .ok (.iadd, 1) := by decide +kernel
theorem dL_law_1162 : decode code 1162 = .ok (.iaload, 1) := by decide +kernel
theorem dL_law_1163 : decode code 1163 = .ok (.invokevirtual 130, 3) := by decide +kernel
theorem dL_law_1166 : decode code 1166 = .ok (.pop, 1) := by decide +kernel
theorem dL_law_1167 : decode code 1167 = .ok (.goto 303, 3) := by decide +kernel
theorem dL_law_1170 : decode code 1170 = .ok (.aload_n 1, 1) := by decide +kernel
theorem dL_law_1171 : decode code 1171 = .ok (.aload_n 0, 1) := by decide +kernel
theorem dL_law_1172 : decode code 1172 = .ok (.iload_n 3, 1) := by decide +kernel
theorem dL_law_1173 : decode code 1173 = .ok (.iconst 1, 1) := by decide +kernel
theorem dL_law_1174 : decode code 1174 = .ok (.iadd, 1) := by decide +kernel
theorem dL_law_1175 : decode code 1175 = .ok (.iaload, 1) := by decide +kernel
theorem dL_law_1176 : decode code 1176 = .ok (.aload_n 0, 1) := by decide +kernel
theorem dL_law_1177 : decode code 1177 = .ok (.iload_n 3, 1) := by decide +kernel
theorem dL_law_1178 : decode code 1178 = .ok (.iconst 2, 1) := by decide +kernel
theorem dL_law_1179 : decode code 1179 = .ok (.iadd, 1) := by decide +kernel
theorem dL_law_1180 : decode code 1180 = .ok (.iaload, 1) := by decide +kernel
theorem dL_law_1181 : decode code 1181 = .ok (.aload_n 0, 1) := by decide +kernel
theorem dL_law_1182 : decode code 1182 = .ok (.iload_n 3, 1) := by decide +kernel
theorem dL_law_1183 : decode code 1183 = .ok (.iconst 3, 1) := by decide +kernel
theorem dL_law_1184 : decode code 1184 = .ok (.iadd, 1) := by decide +kernel
theorem dL_law_1185 : decode code 1185 = .ok (.iaload, 1) := by decide +kernel
theorem dL_law_1186 : decode code 1186 = .ok (.aload_n 0, 1) := by decide +kernel
theorem dL_law_1187 : decode code 1187 = .ok (.iload_n 3, 1) := by decide +kernel
theorem dL_law_1188 : decode code 1188 = .ok (.iconst 4, 1) := by decide +kernel
theorem dL_law_1189 : decode code 1189 = .ok (.iadd, 1) := by decide +kernel
theorem dL_law_1190 : decode code 1190 = .ok (.iaload, 1) := by decide +kernel
theorem dL_law_1191 : decode code 1191 = .ok (.aload_n 0, 1) := by decide +kernel
theorem dL_law_1192 : decode code 1192 = .ok (.iload_n 3, 1) := by decide +kernel
theorem dL_law_1193 : decode code 1193 = .ok (.iconst 5, 1) := by decide +kernel
theorem dL_law_1194 : decode code 1194 = .ok (.iadd, 1) := by decide +kernel
theorem dL_law_1195 : decode code 1195 = .ok (.iaload, 1) := by decide +kernel
theorem dL_law_1196 : decode code 1196 = .ok (.invokevirtual 131, 3) := by decide +kernel
theorem dL_law_1199 : decode code 1199 = .ok (.pop, 1) := by decide +kernel
theorem dL_law_1200 : decode code 1200 = .ok (.aload_n 2, 1) := by decide +kernel
theorem dL_law_1201 : decode code 1201 = .ok (.aload_n 0, 1) := by decide +kernel
theorem dL_law_1202 : decode code 1202 = .ok (.iload_n 3, 1) := by decide +kernel
theorem dL_law_1203 : decode code 1203 = .ok (.iconst 1, 1) := by decide +kernel
theorem dL_law_1204 : decode code 1204 = .ok (.iadd, 1) := by decide +kernel
theorem dL_law_1205 : decode code 1205 = .ok (.iaload, 1) := by decide +kernel
theorem dL_law_1206 : decode code 1206 = .ok (.aload_n 0, 1) := by decide +kernel
theorem dL_law_1207 : decode code 1207 = .ok (.iload_n 3, 1) := by decide +kernel
theorem dL_law_1208 : decode code 1208 = .ok (.iconst 2, 1) := by decide +kernel
theorem dL_law_1209 : decode code 1209 = .ok (.iadd, 1) := by decide +kernel
theorem dL_law_1210 : decode code 1210 = .ok (.iaload, 1) := by decide +kernel
theorem dL_law_1211 : decode code 1211 = .ok (.aload_n 0, 1) := by decide +kernel
theorem dL_law_1212 : decode code 1212 = .ok (.iload_n 3, 1) := by decide +kernel
theorem dL_law_1213 : decode code 1213 = .ok (.iconst 3, 1) := by decide +kernel
theorem dL_law_1214 : decode code 1214 = .ok (.iadd, 1) := by decide +kernel
theorem dL_law_1215 : decode code 1215 = .ok (.iaload, 1) := by decide +kernel
theorem dL_law_1216 : decode code 1216 = .ok (.aload_n 0, 1) := by decide +kernel
theorem dL_law_1217 : decode code 1217 = .ok (.iload_n 3, 1) := by decide +kernel
theorem dL_law_1218 : decode code 1218 = .ok (.iconst 4, 1) := by decide +kernel
theorem dL_law_1219 : decode code 1219 = .ok (.iadd, 1) := by decide +kernel
theorem dL_law_1220 : decode code 1220 = .ok (.iaload, 1) := by decide +kernel
theorem dL_law_1221 : decode code 1221 = .ok (.aload_n 0, 1) := by decide +kernel
theorem dL_law_1222 : decode code 1222 = .ok (.iload_n 3, 1) := by decide +kernel
theorem dL_law_1223 : decode code 1223 = .ok (.iconst 5, 1) := by decide +kernel
theorem dL_law_1224 : decode code 1224 = .ok (.iadd, 1) := by decide +kernel
theorem dL_law_1225 : decode code 1225 = .ok (.iaload, 1) := by decide +kernel
theorem dL_law_1226 : decode code 1226 = .ok (.invokevirtual 134, 3) := by decide +kernel
theorem dL_law_1229 : decode code 1229 = .ok (.pop, 1) := by decide +kernel
theorem dL_law_1230 : decode code 1230 = .ok (.goto 240, 3) := by decide +kernel
theorem dL_law_1233 : decode code 1233 = .ok (.aload_n 1, 1) := by decide +kernel
theorem dL_law_1234 : decode code 1234 = .ok (.aload_n 0, 1) := by decide +kernel
theorem dL_law_1235 : decode code 1235 = .ok (.iload_n 3, 1) := by decide +kernel
theorem dL_law_1236 : decode code 1236 = .ok (.iconst 1, 1) := by decide +kernel
theorem dL_law_1237 : decode code 1237 = .ok (.iadd, 1) := by decide +kernel
theorem dL_law_1238 : decode code 1238 = .ok (.iaload, 1) := by decide +kernel
theorem dL_law_1239 : decode code 1239 = .ok (.aload_n 0, 1) := by decide +kernel
theorem dL_law_1240 : decode code 1240 = .ok (.iload_n 3, 1) := by decide +kernel
theorem dL_law_1241 : decode code 1241 = .ok (.iconst 2, 1) := by decide +kernel
theorem dL_law_1242 : decode code 1242 = .ok (.iadd, 1) := by decide +kernel
theorem dL_law_1243 : decode code 1243 = .ok (.iaload, 1) := by decide +kernel
theorem dL_law_1244 : decode code 1244 = .ok (.aload_n 0, 1) := by decide +kernel
theorem dL_law_1245 : decode code 1245 = .ok (.iload_n 3, 1) := by decide +kernel
theorem dL_law_1246 : decode code 1246 = .ok (.iconst 3, 1) := by decide +kernel
theorem dL_law_1247 : decode code 1247 = .ok (.iadd, 1) := by decide +kernel
theorem dL_law_1248 : decode code 1248 = .ok (.iaload, 1) := by decide +kernel
theorem dL_law_1249 : decode code 1249 = .ok (.aload_n 0, 1) := by decide +kernel
theorem dL_law_1250 : decode code 1250 = .ok (.iload_n 3, 1) := by decide +kernel
theorem dL_law_1251 : decode code 1251 = .ok (.iconst 4, 1) := by decide +kernel
theorem dL_law_1252 : decode code 1252 = .ok (.iadd, 1) := by decide +kernel
theorem dL_law_1253 : decode code 1253 = .ok (.iaload, 1) := by decide +kernel
theorem dL_law_1254 : decode code 1254 = .ok (.aload_n 0, 1) := by decide +kernel
theorem dL_law_1255 : decode code 1255 = .ok (.iload_n 3, 1) := by decide +kernel
theorem dL_law_1256 : decode code 1256 = .ok (.iconst 5, 1) := by decide +kernel
theorem dL_law_1257 : decode code 1257 = .ok (.iadd, 1) := by decide +kernel
theorem dL_law_1258 : decode code 1258 = .ok (.iaload, 1) := by decide +kernel
theorem dL_law_1259 : decode code 1259 = .ok (.ifCond .eq 7, 3) := by decide +kernel
theorem dL_law_1262 : decode code 1262 = .ok (.iconst 1, 1) := by decide +kernel
theorem dL_law_1263 : decode code 1263 = .ok (.goto 4, 3) := by decide +kernel
theorem dL_law_1266 : decode code 1266 = .ok (.iconst 0, 1) := by decide +kernel
theorem dL_law_1267 : decode code 1267 = .ok (.invokevirtual 135, 3) := by decide +kernel
theorem dL_law_1270 : decode code 1270 = .ok (.pop, 1) := by decide +kernel
theorem dL_law_1271 : decode code 1271 = .ok (.aload_n 2, 1) := by decide +kernel
theorem dL_law_1272 : decode code 1272 = .ok (.aload_n 0, 1) := by decide +kernel
theorem dL_law_1273 : decode code 1273 = .ok (.iload_n 3, 1) := by decide +kernel
theorem dL_law_1274 : decode code 1274 = .ok (.iconst 1, 1) := by decide +kernel
theorem dL_law_1275 : decode code 1275 = .ok (.iadd, 1) := by decide +kernel
theorem dL_law_1276 : decode code 1276 = .ok (.iaload, 1) := by decide +kernel
theorem dL_law_1277 : decode code 1277 = .ok (.aload_n 0, 1) := by decide +kernel
theorem dL_law_1278 : decode code 1278 = .ok (.iload_n 3, 1) := by decide +kernel
theorem dL_law_1279 : decode code 1279 = .ok (.iconst 2, 1) := by decide +kernel
theorem dL_law_1280 : decode code 1280 = .ok (.iadd, 1) := by decide +kernel
theorem dL_law_1281 : decode code 1281 = .ok (.iaload, 1) := by decide +kernel
theorem dL_law_1282 : decode code 1282 = .ok (.aload_n 0, 1) := by decide +kernel
theorem dL_law_1283 : decode code 1283 = .ok (.iload_n 3, 1) := by decide +kernel
theorem dL_law_1284 : decode code 1284 = .ok (.iconst 3, 1) := by decide +kernel
theorem dL_law_1285 : decode code 1285 = .ok (.iadd, 1) := by decide +kernel
theorem dL_law_1286 : decode code 1286 = .ok (.iaload, 1) := by decide +kernel
theorem dL_law_1287 : decode code 1287 = .ok (.aload_n 0, 1) := by decide +kernel
theorem dL_law_1288 : decode code 1288 = .ok (.iload_n 3, 1) := by decide +kernel
theorem dL_law_1289 : decode code 1289 = .ok (.iconst 4, 1) := by decide +kernel
theorem dL_law_1290 : decode code 1290 = .ok (.iadd, 1) := by decide +kernel
theorem dL_law_1291 : decode code 1291 = .ok (.iaload, 1) := by decide +kernel
theorem dL_law_1292 : decode code 1292 = .ok (.aload_n 0, 1) := by decide +kernel
theorem dL_law_1293 : decode code 1293 = .ok (.iload_n 3, 1) := by decide +kernel
theorem dL_law_1294 : decode code 1294 = .ok (.iconst 5, 1) := by decide +kernel
theorem dL_law_1295 : decode code 1295 = .ok (.iadd, 1) := by decide +kernel
theorem dL_law_1296 : decode code 1296 = .ok (.iaload, 1) := by decide +kernel
theorem dL_law_1297 : decode code 1297 = .ok (.ifCond .eq 7, 3) := by decide +kernel
theorem dL_law_1300 : decode code 1300 = .ok (.iconst 1, 1) := by decide +kernel
theorem dL_law_1301 : decode code 1301 = .ok (.goto 4, 3) := by decide +kernel
theorem dL_law_1304 : decode code 1304 = .ok (.iconst 0, 1) := by decide +kernel
theorem dL_law_1305 : decode code 1305 = .ok (.invokevirtual 139, 3) := by decide +kernel
theorem dL_law_1308 : decode code 1308 = .ok (.pop, 1) := by decide +kernel
theorem dL_law_1309 : decode code 1309 = .ok (.goto 161, 3) := by decide +kernel
theorem dL_law_1312 : decode code 1312 = .ok (.aload_n 1, 1) := by decide +kernel
theorem dL_law_1313 : decode code 1313 = .ok (.aload_n 0, 1) := by decide +kernel
theorem dL_law_1314 : decode code 1314 = .ok (.iload_n 3, 1) := by decide +kernel
theorem dL_law_1315 : decode code 1315 = .ok (.iconst 1, 1) := by decide +kernel
theorem dL_law_1316 : decode code 1316 = .ok (.iadd, 1) := by decide +kernel
theorem dL_law_1317 : decode code 1317 = .ok (.iaload, 1) := by decide +kernel
theorem dL_law_1318 : decode code 1318 = .ok (.aload_n 0, 1) := by decide +kernel
theorem dL_law_1319 : decode code 1319 = .ok (.iload_n 3, 1) := by decide +kernel
theorem dL_law_1320 : decode code 1320 = .ok (.iconst 2, 1) := by decide +kernel
theorem dL_law_1321 : decode code 1321 = .ok (.iadd, 1) := by decide +kernel
theorem dL_law_1322 : decode code 1322 = .ok (.iaload, 1) := by decide +kernel
theorem dL_law_1323 : decode code 1323 = .ok (.aload_n 0, 1) := by decide +kernel
theorem dL_law_1324 : decode code 1324 = .ok (.iload_n 3, 1) := by decide +kernel
theorem dL_law_1325 : decode code 1325 = .ok (.iconst 3, 1) := by decide +kernel
theorem dL_law_1326 : decode code 1326 = .ok (.iadd, 1) := by decide +kernel
theorem dL_law_1327 : decode code 1327 = .ok (.iaload, 1) := by decide +kernel
theorem dL_law_1328 : decode code 1328 = .ok (.invokevirtual 140, 3) := by decide +kernel
theorem dL_law_1331 : decode code 1331 = .ok (.pop, 1) := by decide +kernel
theorem dL_law_1332 : decode code 1332 = .ok (.aload_n 2, 1) := by decide +kernel
theorem dL_law_1333 : decode code 1333 = .ok (.aload_n 0, 1) := by decide +kernel
theorem dL_law_1334 : decode code 1334 = .ok (.iload_n 3, 1) := by decide +kernel
theorem dL_law_1335 : decode code 1335 = .ok (.iconst 1, 1) := by decide +kernel
theorem dL_law_1336 : decode code 1336 = .ok (.iadd, 1) := by decide +kernel
theorem dL_law_1337 : decode code 1337 = .ok (.iaload, 1) := by decide +kernel
theorem dL_law_1338 : decode code 1338 = .ok (.aload_n 0, 1) := by decide +kernel
theorem dL_law_1339 : decode code 1339 = .ok (.iload_n 3, 1) := by decide +kernel
theorem dL_law_1340 : decode code 1340 = .ok (.iconst 2, 1) := by decide +kernel
theorem dL_law_1341 : decode code 1341 = .ok (.iadd, 1) := by decide +kernel
theorem dL_law_1342 : decode code 1342 = .ok (.iaload, 1) := by decide +kernel
theorem dL_law_1343 : decode code 1343 = .ok (.aload_n 0, 1) := by decide +kernel
theorem dL_law_1344 : decode code 1344 = .ok (.iload_n 3, 1) := by decide +kernel
theorem dL_law_1345 : decode code 1345 = .ok (.iconst 3, 1) := by decide +kernel
theorem dL_law_1346 : decode code 1346 = .ok (.iadd, 1) := by decide +kernel
theorem dL_law_1347 : decode code 1347 = .ok (.iaload, 1) := by decide +kernel
theorem dL_law_1348 : decode code 1348 = .ok (.invokevirtual 143, 3) := by decide +kernel
theorem dL_law_1351 : decode code 1351 = .ok (.pop, 1) := by decide +kernel
theorem dL_law_1352 : decode code 1352 = .ok (.goto 118, 3) := by decide +kernel
theorem dL_law_1355 : decode code 1355 = .ok (.aload_n 1, 1) := by decide +kernel
theorem dL_law_1356 : decode code 1356 = .ok (.aload_n 0, 1) := by decide +kernel
theorem dL_law_1357 : decode code 1357 = .ok (.iload_n 3, 1) := by decide +kernel
theorem dL_law_1358 : decode code 1358 = .ok (.iconst 1, 1) := by decide +kernel
theorem dL_law_1359 : decode code 1359 = .ok (.iadd, 1) := by decide +kernel
theorem dL_law_1360 : decode code 1360 = .ok (.iaload, 1) := by decide +kernel
theorem dL_law_1361 : decode code 1361 = .ok (.aload_n 0, 1) := by decide +kernel
theorem dL_law_1362 : decode code 1362 = .ok (.iload_n 3, 1) := by decide +kernel
theorem dL_law_1363 : decode code 1363 = .ok (.iconst 2, 1) := by decide +kernel
theorem dL_law_1364 : decode code 1364 = .ok (.iadd, 1) := by decide +kernel
theorem dL_law_1365 : decode code 1365 = .ok (.iaload, 1) := by decide +kernel
theorem dL_law_1366 : decode code 1366 = .ok (.invokevirtual 144, 3) := by decide +kernel
theorem dL_law_1369 : decode code 1369 = .ok (.pop, 1) := by decide +kernel
theorem dL_law_1370 : decode code 1370 = .ok (.aload_n 2, 1) := by decide +kernel
theorem dL_law_1371 : decode code 1371 = .ok (.aload_n 0, 1) := by decide +kernel
theorem dL_law_1372 : decode code 1372 = .ok (.iload_n 3, 1) := by decide +kernel
theorem dL_law_1373 : decode code 1373 = .ok (.iconst 1, 1) := by decide +kernel
theorem dL_law_1374 : decode code 1374 = .ok (.iadd, 1) := by decide +kernel
theorem dL_law_1375 : decode code 1375 = .ok (.iaload, 1) := by decide +kernel
theorem dL_law_1376 : decode code 1376 = .ok (.aload_n 0, 1) := by decide +kernel
theorem dL_law_1377 : decode code 1377 = .ok (.iload_n 3, 1) := by decide +kernel
theorem dL_law_1378 : decode code 1378 = .ok (.iconst 2, 1) := by decide +kernel
theorem dL_law_1379 : decode code 1379 = .ok (.iadd, 1) := by decide +kernel
theorem dL_law_1380 : decode code 1380 = .ok (.iaload, 1) := by decide +kernel
theorem dL_law_1381 : decode code 1381 = .ok (.invokevirtual 147, 3) := by decide +kernel
theorem dL_law_1384 : decode code 1384 = .ok (.pop, 1) := by decide +kernel
theorem dL_law_1385 : decode code 1385 = .ok (.goto 85, 3) := by decide +kernel
theorem dL_law_1388 : decode code 1388 = .ok (.aload_n 1, 1) := by decide +kernel
theorem dL_law_1389 : decode code 1389 = .ok (.aload_n 0, 1) := by decide +kernel
theorem dL_law_1390 : decode code 1390 = .ok (.iload_n 3, 1) := by decide +kernel
theorem dL_law_1391 : decode code 1391 = .ok (.iconst 1, 1) := by decide +kernel
theorem dL_law_1392 : decode code 1392 = .ok (.iadd, 1) := by decide +kernel
theorem dL_law_1393 : decode code 1393 = .ok (.iaload, 1) := by decide +kernel
theorem dL_law_1394 : decode code 1394 = .ok (.aload_n 0, 1) := by decide +kernel
theorem dL_law_1395 : decode code 1395 = .ok (.iload_n 3, 1) := by decide +kernel
theorem dL_law_1396 : decode code 1396 = .ok (.iconst 2, 1) := by decide +kernel
theorem dL_law_1397 : decode code 1397 = .ok (.iadd, 1) := by decide +kernel
theorem dL_law_1398 : decode code 1398 = .ok (.iaload, 1) := by decide +kernel
theorem dL_law_1399 : decode code 1399 = .ok (.invokevirtual 148, 3) := by decide +kernel
theorem dL_law_1402 : decode code 1402 = .ok (.pop, 1) := by decide +kernel
theorem dL_law_1403 : decode code 1403 = .ok (.aload_n 2, 1) := by decide +kernel
theorem dL_law_1404 : decode code 1404 = .ok (.aload_n 0, 1) := by decide +kernel
theorem dL_law_1405 : decode code 1405 = .ok (.iload_n 3, 1) := by decide +kernel
theorem dL_law_1406 : decode code 1406 = .ok (.iconst 1, 1) := by decide +kernel
theorem dL_law_1407 : decode code 1407 = .ok (.iadd, 1) := by decide +kernel
theorem dL_law_1408 : decode code 1408 = .ok (.iaload, 1) := by decide +kernel
theorem dL_law_1409 : decode code 1409 = .ok (.aload_n 0, 1) := by decide +kernel
theorem dL_law_1410 : decode code 1410 = .ok (.iload_n 3, 1) := by decide +kernel
theorem dL_law_1411 : decode code 1411 = .ok (.iconst 2, 1) := by decide +kernel
theorem dL_law_1412 : decode code 1412 = .ok (.iadd, 1) := by decide +kernel
theorem dL_law_1413 : decode code 1413 = .ok (.iaload, 1) := by decide +kernel
theorem dL_law_1414 : decode code 1414 = .ok (.invokevirtual 151, 3) := by decide +kernel
theorem dL_law_1417 : decode code 1417 = .ok (.pop, 1) := by decide +kernel
theorem dL_law_1418 : decode code 1418 = .ok (.goto 52, 3) := by decide +kernel
theorem dL_law_1421 : decode code 1421 = .ok (.aload_n 1, 1) := by decide +kernel
theorem dL_law_1422 : decode code 1422 = .ok (.invokevirtual 152, 3) := by decide +kernel
theorem dL_law_1425 : decode code 1425 = .ok (.pop, 1) := by decide +kernel
theorem dL_law_1426 : decode code 1426 = .ok (.aload_n 2, 1) := by decide +kernel
theorem dL_law_1427 : decode code 1427 = .ok (.invokevirtual 155, 3) := by decide +kernel
theorem dL_law_1430 : decode code 1430 = .ok (.pop, 1) := by decide +kernel
theorem dL_law_1431 : decode code 1431 = .ok (.goto 39, 3) := by decide +kernel
theorem dL_law_1434 : decode code 1434 = .ok (.aload_n 1, 1) := by decide +kernel
theorem dL_law_1435 : decode code 1435 = .ok (.invokevirtual 156, 3) := by decide +kernel
theorem dL_law_1438 : decode code 1438 = .ok (.pop, 1) := by decide +kernel
theorem dL_law_1439 : decode code 1439 = .ok (.aload_n 2, 1) := by decide +kernel
theorem dL_law_1440 : decode code 1440 = .ok (.invokevirtual 159, 3) := by decide +kernel
theorem dL_law_1443 : decode code 1443 = .ok (.pop, 1) := by decide +kernel
theorem dL_law_1444 : decode code 1444 = .ok (.goto 26, 3) := by decide +kernel
theorem dL_law_1447 : decode code 1447 = .ok (.aload_n 1, 1) := by decide +kernel
theorem dL_law_1448 : decode code 1448 = .ok (.aload_n 0, 1) := by decide +kernel
theorem dL_law_1449 : decode code 1449 = .ok (.iload_n 3, 1) := by decide +kernel
theorem dL_law_1450 : decode code 1450 = .ok (.iconst 1, 1) := by decide +kernel
theorem dL_law_1451 : decode code 1451 = .ok (.iadd, 1) := by decide +kernel
theorem dL_law_1452 : decode code 1452 = .ok (.iaload, 1) := by decide +kernel
theorem dL_law_1453 : decode code 1453 = .ok (.invokevirtual 160, 3) := by decide +kernel
theorem dL_law_1456 : decode code 1456 = .ok (.pop, 1) := by decide +kernel
theorem dL_law_1457 : decode code 1457 = .ok (.aload_n 2, 1) := by decide +kernel
theorem dL_law_1458 : decode code 1458 = .ok (.aload_n 0, 1) := by decide +kernel
theorem dL_law_1459 : decode code 1459 = .ok (.iload_n 3, 1) := by decide +kernel
theorem dL_law_1460 : decode code 1460 = .ok (.iconst 1, 1) := by decide +kernel
theorem dL_law_1461 : decode code 1461 = .ok (.iadd, 1) := by decide +kernel
theorem dL_law_1462 : decode code 1462 = .ok (.iaload, 1) := by decide +kernel
theorem dL_law_1463 : decode code 1463 = .ok (.invokevirtual 163, 3) := by decide +kernel
theorem dL_law_1466 : decode code 1466 = .ok (.pop, 1) := by decide +kernel
theorem dL_law_1467 : decode code 1467 = .ok (.goto 3, 3) := by decide +kernel
theorem dL_law_1470 : decode code 1470 = .ok (.iinc 3 6, 3) := by decide +kernel
theorem dL_law_1473 : decode code 1473 = .ok (.goto (-1435), 3) := by decide +kernel
theorem dL_law_1476 : decode code 1476 = .ok (.iconst 1, 1) := by decide +kernel
theorem dL_law_1477 : decode code 1477 = .ok (.ireturn, 1) := by decide +kernel
theorem sL_law_53_0 : (#[143, 206, 279, 312, 355, 388, 411, 424, 447, 490, 533, 596, 619, 632, 655, 698, 767, 800, 859, 892, 945, 978, 1031, 1084, 1117, 1180, 1259, 1302, 1335, 1368, 1381, 1394] : Array Int)[0]? = some (143) := by decide +kernel
theorem sL_law_53_1 : (#[143, 206, 279, 312, 355, 388, 411, 424, 447, 490, 533, 596, 619, 632, 655, 698, 767, 800, 859, 892, 945, 978, 1031, 1084, 1117, 1180, 1259, 1302, 1335, 1368, 1381, 1394] : Array Int)[1]? = some (206) := by decide +kernel
theorem sL_law_53_2 : (#[143, 206, 279, 312, 355, 388, 411, 424, 447, 490, 533, 596, 619, 632, 655, 698, 767, 800, 859, 892, 945, 978, 1031, 1084, 1117, 1180, 1259, 1302, 1335, 1368, 1381, 1394] : Array Int)[2]? = some (279) := by decide +kernel
theorem sL_law_53_3 : (#[143, 206, 279, 312, 355, 388, 411, 424, 447, 490, 533, 596, 619, 632, 655, 698, 767, 800, 859, 892, 945, 978, 1031, 1084, 1117, 1180, 1259, 1302, 1335, 1368, 1381, 1394] : Array Int)[3]? = some (312) := by decide +kernel
theorem sL_law_53_4 : (#[143, 206, 279, 312, 355, 388, 411, 424, 447, 490, 533, 596, 619, 632, 655, 698, 767, 800, 859, 892, 945, 978, 1031, 1084, 1117, 1180, 1259, 1302, 1335, 1368, 1381, 1394] : Array Int)[4]? = some (355) := by decide +kernel
theorem sL_law_53_5 : (#[143, 206, 279, 312, 355, 388, 411, 424, 447, 490, 533, 596, 619, 632, 655, 698, 767, 800, 859, 892, 945, 978, 1031, 1084, 1117, 1180, 1259, 1302, 1335, 1368, 1381, 1394] : Array Int)[5]? = some (388) := by decide +kernel
theorem sL_law_53_6 : (#[143, 206, 279, 312, 355, 388, 411, 424, 447, 490, 533, 596, 619, 632, 655, 698, 767, 800, 859, 892, 945, 978, 1031, 1084, 1117, 1180, 1259, 1302, 1335, 1368, 1381, 1394] : Array Int)[6]? = some (411) := by decide +kernel
theorem sL_law_53_7 : (#[143, 206, 279, 312, 355, 388, 411, 424, 447, 490, 533, 596, 619, 632, 655, 698, 767, 800, 859, 892, 945, 978, 1031, 1084, 1117, 1180, 1259, 1302, 1335, 1368, 1381, 1394] : Array Int)[7]? = some (424) := by decide +kernel
theorem sL_law_53_8 : (#[143, 206, 279, 312, 355, 388, 411, 424, 447, 490, 533, 596, 619, 632, 655, 698, 767, 800, 859, 892, 945, 978, 1031, 1084, 1117, 1180, 1259, 1302, 1335, 1368, 1381, 1394] : Array Int)[8]? = some (447) := by decide +kernel
theorem sL_law_53_9 : (#[143, 206, 279, 312, 355, 388, 411, 424, 447, 490, 533, 596, 619, 632, 655, 698, 767, 800, 859, 892, 945, 978, 1031, 1084, 1117, 1180, 1259, 1302, 1335, 1368, 1381, 1394] : Array Int)[9]? = some (490) := by decide +kernel
theorem sL_law_53_10 : (#[143, 206, 279, 312, 355, 388, 411, 424, 447, 490, 533, 596, 619, 632, 655, 698, 767, 800, 859, 892, 945, 978, 1031, 1084, 1117, 1180, 1259, 1302, 1335, 1368, 1381, 1394] : Array Int)[10]? = some (533) := by decide +kernel
theorem sL_law_53_11 : (#[143, 206, 279, 312, 355, 388, 411, 424, 447, 490, 533, 596, 619, 632, 655, 698, 767, 800, 859, 892, 945, 978, 1031, 1084, 1117, 1180, 1259, 1302, 1335, 1368, 1381, 1394] : Array Int)[11]? = some (596) := by decide +kernel
theorem sL_law_53_12 : (#[143, 206, 279, 312, 355, 388, 411, 424, 447, 490, 533, 596, 619, 632, 655, 698, 767, 800, 859, 892, 945, 978, 1031, 1084, 1117, 1180, 1259, 1302, 1335, 1368, 1381, 1394] : Array Int)[12]? = some (619) := by decide +kernel
theorem sL_law_53_13 : (#[143, 206, 279, 312, 355, 388, 411, 424, 447, 490, 533, 596, 619, 632, 655, 698, 767, 800, 859, 892, 945, 978, 1031, 1084, 1117, 1180, 1259, 1302, 1335, 1368, 1381, 1394] : Array Int)[13]? = some (632) := by decide +kernel
theorem sL_law_53_14 : (#[143, 206, 279, 312, 355, 388, 411, 424, 447, 490, 533, 596, 619, 632, 655, 698, 767, 800, 859, 892, 945, 978, 1031, 1084, 1117, 1180, 1259, 1302, 1335, 1368, 1381, 1394] : Array Int)[14]? = some (655) := by decide +kernel
theorem sL_law_53_15 : (#[143, 206, 279, 312, 355, 388, 411, 424, 447, 490, 533, 596, 619, 632, 655, 698, 767, 800, 859, 892, 945, 978, 1031, 1084, 1117, 1180, 1259, 1302, 1335, 1368, 1381, 1394] : Array Int)[15]? = some (698) := by decide +kernel
theorem sL_law_53_16 : (#[143, 206, 279, 312, 355, 388, 411, 424, 447, 490, 533, 596, 619, 632, 655, 698, 767, 800, 859, 892, 945, 978, 1031, 1084, 1117, 1180, 1259, 1302, 1335, 1368, 1381, 1394] : Array Int)[16]? = some (767) := by decide +kernel
theorem sL_law_53_17 : (#[143, 206, 279, 312, 355, 388, 411, 424, 447, 490, 533, 596, 619, 632, 655, 698, 767, 800, 859, 892, 945, 978, 1031, 1084, 1117, 1180, 1259, 1302, 1335, 1368, 1381, 1394] : Array Int)[17]? = some (800) := by decide +kernel
theorem sL_law_53_18 : (#[143, 206, 279, 312, 355, 388, 411, 424, 447, 490, 533, 596, 619, 632, 655, 698, 767, 800, 859, 892, 945, 978, 1031, 1084, 1117, 1180, 1259, 1302, 1335, 1368, 1381, 1394] : Array Int)[18]? = some (859) := by decide +kernel
theorem sL_law_53_19 : (#[143, 206, 279, 312, 355, 388, 411, 424, 447, 490, 533, 596, 619, 632, 655, 698, 767, 800, 859, 892, 945, 978, 1031, 1084, 1117, 1180, 1259, 1302, 1335, 1368, 1381, 1394] : Array Int)[19]? = some (892) := by decide +kernel
theorem sL_law_53_20 : (#[143, 206, 279, 312, 355, 388, 411, 424, 447, 490, 533, 596, 619, 632, 655, 698, 767, 800, 859, 892, 945, 978, 1031, 1084, 1117, 1180, 1259, 1302, 1335, 1368, 1381, 1394] : Array Int)[20]? = some (945) := by decide +kernel
theorem sL_law_53_21 : (#[143, 206, 279, 312, 355, 388, 411, 424, 447, 490, 533, 596, 619, 632, 655, 698, 767, 800, 859, 892, 945, 978, 1031, 1084, 1117, 1180, 1259, 1302, 1335, 1368, 1381, 1394] : Array Int)[21]? = some (978) := by decide +kernel
theorem sL_law_53_22 : (#[143, 206, 279, 312, 355, 388, 411, 424, 447, 490, 533, 596, 619, 632, 655, 698, 767, 800, 859, 892, 945, 978, 1031, 1084, 1117, 1180, 1259, 1302, 1335, 1368, 1381, 1394] : Array Int)[22]? = some (1031) := by decide +kernel
theorem sL_law_53_23 : (#[143, 206, 279, 312, 355, 388, 411, 424, 447, 490, 533, 596, 619, 632, 655, 698, 767, 800, 859, 892, 945, 978, 1031, 1084, 1117, 1180, 1259, 1302, 1335, 1368, 1381, 1394] : Array Int)[23]? = some (1084) := by decide +kernel
theorem sL_law_53_24 : (#[143, 206, 279, 312, 355, 388, 411, 424, 447, 490, 533, 596, 619, 632, 655, 698, 767, 800, 859, 892, 945, 978, 1031, 1084, 1117, 1180, 1259, 1302, 1335, 1368, 1381, 1394] : Array Int)[24]? = some (1117) := by decide +kernel
theorem sL_law_53_25 : (#[143, 206, 279, 312, 355, 388, 411, 424, 447, 490, 533, 596, 619, 632, 655, 698, 767, 800, 859, 892, 945, 978, 1031, 1084, 1117, 1180, 1259, 1302, 1335, 1368, 1381, 1394] : Array Int)[25]? = some (1180) := by decide +kernel
theorem sL_law_53_26 : (#[143, 206, 279, 312, 355, 388, 411, 424, 447, 490, 533, 596, 619, 632, 655, 698, 767, 800, 859, 892, 945, 978, 1031, 1084, 1117, 1180, 1259, 1302, 1335, 1368, 1381, 1394] : Array Int)[26]? = some (1259) := by decide +kernel
theorem sL_law_53_27 : (#[143, 206, 279, 312, 355, 388, 411, 424, 447, 490, 533, 596, 619, 632, 655, 698, 767, 800, 859, 892, 945, 978, 1031, 1084, 1117, 1180, 1259, 1302, 1335, 1368, 1381, 1394] : Array Int)[27]? = some (1302) := by decide +kernel
theorem sL_law_53_28 : (#[143, 206, 279, 312, 355, 388, 411, 424, 447, 490, 533, 596, 619, 632, 655, 698, 767, 800, 859, 892, 945, 978, 1031, 1084, 1117, 1180, 1259, 1302, 1335, 1368, 1381, 1394] : Array Int)[28]? = some (1335) := by decide +kernel
theorem sL_law_53_29 : (#[143, 206, 279, 312, 355, 388, 411, 424, 447, 490, 533, 596, 619, 632, 655, 698, 767, 800, 859, 892, 945, 978, 1031, 1084, 1117, 1180, 1259, 1302, 1335, 1368, 1381, 1394] : Array Int)[29]? = some (1368) := by decide +kernel
theorem sL_law_53_30 : (#[143, 206, 279, 312, 355, 388, 411, 424, 447, 490, 533, 596, 619, 632, 655, 698, 767, 800, 859, 892, 945, 978, 1031, 1084, 1117, 1180, 1259, 1302, 1335, 1368, 1381, 1394] : Array Int)[30]? = some (1381) := by decide +kernel
theorem sL_law_53_31 : (#[143, 206, 279, 312, 355, 388, 411, 424, 447, 490, 533, 596, 619, 632, 655, 698, 767, 800, 859, 892, 945, 978, 1031, 1084, 1117, 1180, 1259, 1302, 1335, 1368, 1381, 1394] : Array Int)[31]? = some (1394) := by decide +kernel
theorem oL_law_53 {a : Int} (c0 : ¬ a = 0 + ((0 : Nat) : Int)) (c1 : ¬ a = 0 + ((1 : Nat) : Int)) (c2 : ¬ a = 0 + ((2 : Nat) : Int)) (c3 : ¬ a = 0 + ((3 : Nat) : Int)) (c4 : ¬ a = 0 + ((4 : Nat) : Int)) (c5 : ¬ a = 0 + ((5 : Nat) : Int)) (c6 : ¬ a = 0 + ((6 : Nat) : Int)) (c7 : ¬ a = 0 + ((7 : Nat) : Int)) (c8 : ¬ a = 0 + ((8 : Nat) : Int)) (c9 : ¬ a = 0 + ((9 : Nat) : Int)) (c10 : ¬ a = 0 + ((10 : Nat) : Int)) (c11 : ¬ a = 0 + ((11 : Nat) : Int)) (c12 : ¬ a = 0 + ((12 : Nat) : Int)) (c13 : ¬ a = 0 + ((13 : Nat) : Int)) (c14 : ¬ a = 0 + ((14 : Nat) : Int)) (c15 : ¬ a = 0 + ((15 : Nat) : Int)) (c16 : ¬ a = 0 + ((16 : Nat) : Int)) (c17 : ¬ a = 0 + ((17 : Nat) : Int)) (c18 : ¬ a = 0 + ((18 : Nat) : Int)) (c19 : ¬ a = 0 + ((19 : Nat) : Int)) (c20 : ¬ a = 0 + ((20 : Nat) : Int)) (c21 : ¬ a = 0 + ((21 : Nat) : Int)) (c22 : ¬ a = 0 + ((22 : Nat) : Int)) (c23 : ¬ a = 0 + ((23 : Nat) : Int)) (c24 : ¬ a = 0 + ((24 : Nat) : Int)) (c25 : ¬ a = 0 + ((25 : Nat) : Int)) (c26 : ¬ a = 0 + ((26 : Nat) : Int)) (c27 : ¬ a = 0 + ((27 : Nat) : Int)) (c28 : ¬ a = 0 + ((28 : Nat) : Int)) (c29 : ¬ a = 0 + ((29 : Nat) : Int)) (c30 : ¬ a = 0 + ((30 : Nat) : Int)) (c31 : ¬ a = 0 + ((31 : Nat) : Int)) : a < 0 ∨ 31 < a := by omega
set_option maxRecDepth 8000 in
theorem r_L_38 {g : ch_G} {A R : Nat} (hC : ck_Cx g A R) {n : Nat} {f : Nat → Int32} (hn : n < 2147483648) {w : ck_W} {i : Int} (h : ck_i ((n : Int) - 6) ∧ ((((n : Int) - 6) < i → True) ∧ (¬ ((n : Int) - 6) < i → (0 ≤ i ∧ i < (n : Int)) ∧ (((ck_and (cl_s f i) 31) = 0 → cq_At (ch_C g A R) (cl_M (ch_C g A R) n f) mL_law 196 [some (.inr (.inr 102)), some (.inr (.inr 0)), some (.inr (.inr 76)), some (.inl i)] [] w) ∧ (¬ (ck_and (cl_s f i) 31) = 0 → ((ck_and (cl_s f i) 31) = 1 → cq_At (ch_C g A R) (cl_M (ch_C g A R) n f) mL_law 259 [some (.inr (.inr 102)), some (.inr (.inr 0)), some (.inr (.inr 76)), some (.inl i)] [] w) ∧ (¬ (ck_and (cl_s f i) 31) = 1 → ((ck_and (cl_s f i) 31) = 2 → cq_At (ch_C g A R) (cl_M (ch_C g A R) n f) mL_law 332 [some (.inr (.inr 102)), some (.inr (.inr 0)), some (.inr (.inr 76)), some (.inl i)] [] w) ∧ (¬ (ck_and (cl_s f i) 31) = 2 → ((ck_and (cl_s f i) 31) = 3 → cq_At (ch_C g A R) (cl_M (ch_C g A R) n f) mL_law 365 [some (.inr (.inr 102)), some (.inr (.inr 0)), some (.inr (.inr 76)), some (.inl i)] [] w) ∧ (¬ (ck_and (cl_s f i) 31) = 3 → ((ck_and (cl_s f i) 31) = 4 → cq_At (ch_C g A R) (cl_M (ch_C g A R) n f) mL_law 408 [some (.inr (.inr 102)), some (.inr (.inr 0)), some (.inr (.inr 76)), some (.inl i)] [] w) ∧ (¬ (ck_and (cl_s f i) 31) = 4 → ((ck_and (cl_s f i) 31) = 5 → cq_At (ch_C g A R) (cl_M (ch_C g A R) n f) mL_law 441 [some (.inr (.inr 102)), some (.inr (.inr 0)), some (.inr (.inr 76)), some (.inl i)] [] w) ∧ (¬ (ck_and (cl_s f i) 31) = 5 → ((ck_and (cl_s f i) 31) = 6 → cq_At (ch_C g A R) (cl_M (ch_C g A R) n f) mL_law 464 [some (.inr (.inr 102)), some (.inr (.inr 0)), some (.inr (.inr 76)), some (.inl i)] [] w) ∧ (¬ (ck_and (cl_s f i) 31) = 6 → ((ck_and (cl_s f i) 31) = 7 → cq_At (ch_C g A R) (cl_M (ch_C g A R) n f) mL_law 477 [some (.inr (.inr 102)), some (.inr (.inr 0)), some (.inr (.inr 76)), some (.inl i)] [] w) ∧ (¬ (ck_and (cl_s f i) 31) = 7 → ((ck_and (cl_s f i) 31) = 8 → cq_At (ch_C g A R) (cl_M (ch_C g A R) n f) mL_law 500 [some (.inr (.inr 102)), some (.inr (.inr 0)), some (.inr (.inr 76)), some (.inl i)] [] w) ∧ (¬ (ck_and (cl_s f i) 31) = 8 → ((ck_and (cl_s f i) 31) = 9 → cq_At (ch_C g A R) (cl_M (ch_C g A R) n f) mL_law 543 [some (.inr (.inr 102)), some (.inr (.inr 0)), some (.inr (.inr 76)), some (.inl i)] [] w) ∧ (¬ (ck_and (cl_s f i) 31) = 9 → ((ck_and (cl_s f i) 31) = 10 → cq_At (ch_C g A R) (cl_M (ch_C g A R) n f) mL_law 586 [some (.inr (.inr 102)), some (.inr (.inr 0)), some (.inr (.inr 76)), some (.inl i)] [] w) ∧ (¬ (ck_and (cl_s f i) 31) = 10 → ((ck_and (cl_s f i) 31) = 11 → cq_At (ch_C g A R) (cl_M (ch_C g A R) n f) mL_law 649 [some (.inr (.inr 102)), some (.inr (.inr 0)), some (.inr (.inr 76)), some (.inl i)] [] w) ∧ (¬ (ck_and (cl_s f i) 31) = 11 → ((ck_and (cl_s f i) 31) = 12 → cq_At (ch_C g A R) (cl_M (ch_C g A R) n f) mL_law 672 [some (.inr (.inr 102)), some (.inr (.inr 0)), some (.inr (.inr 76)), some (.inl i)] [] w) ∧ (¬ (ck_and (cl_s f i) 31) = 12 → ((ck_and (cl_s f i) 31) = 13 → cq_At (ch_C g A R) (cl_M (ch_C g A R) n f) mL_law 685 [some (.inr (.inr 102)), some (.inr (.inr 0)), some (.inr (.inr 76)), some (.inl i)] [] w) ∧ (¬ (ck_and (cl_s f i) 31) = 13 → ((ck_and (cl_s f i) 31) = 14 → cq_At (ch_C g A R) (cl_M (ch_C g A R) n f) mL_law 708 [some (.inr (.inr 102)), some (.inr (.inr 0)), some (.inr (.inr 76)), some (.inl i)] [] w) ∧ (¬ (ck_and (cl_s f i) 31) = 14 → ((ck_and (cl_s f i) 31) = 15 → cq_At (ch_C g A R) (cl_M (ch_C g A R) n f) mL_law 751 [some (.inr (.inr 102)), some (.inr (.inr 0)), some (.inr (.inr 76)), some (.inl i)] [] w) ∧ (¬ (ck_and (cl_s f i) 31) = 15 → ((ck_and (cl_s f i) 31) = 16 → cq_At (ch_C g A R) (cl_M (ch_C g A R) n f) mL_law 820 [some (.inr (.inr 102)), some (.inr (.inr 0)), some (.inr (.inr 76)), some (.inl i)] [] w) ∧ (¬ (ck_and (cl_s f i) 31) = 16 → ((ck_and (cl_s f i) 31) = 17 → cq_At (ch_C g A R) (cl_M (ch_C g A R) n f) mL_law 853 [some (.inr (.inr 102)), some (.inr (.inr 0)), some (.inr (.inr 76)), some (.inl i)] [] w) ∧ (¬ (ck_and (cl_s f i) 31) = 17 → ((ck_and (cl_s f i) 31) = 18 → cq_At (ch_C g A R) (cl_M (ch_C g A R) n f) mL_law 912 [some (.inr (.inr 102)), some (.inr (.inr 0)), some (.inr (.inr 76)), some (.inl i)] [] w) ∧ (¬ (ck_and (cl_s f i) 31) = 18 → ((ck_and (cl_s f i) 31) = 19 → cq_At (ch_C g A R) (cl_M (ch_C g A R) n f) mL_law 945 [some (.inr (.inr 102)), some (.inr (.inr 0)), some (.inr (.inr 76)), some (.inl i)] [] w) ∧ (¬ (ck_and (cl_s f i) 31) = 19 → ((ck_and (cl_s f i) 31) = 20 → cq_At (ch_C g A R) (cl_M (ch_C g A R) n f) mL_law 998 [some (.inr (.inr 102)), some (.inr (.inr 0)), some (.inr (.inr 76)), some (.inl i)] [] w) ∧ (¬ (ck_and (cl_s f i) 31) = 20 → ((ck_and (cl_s f i) 31) = 21 → cq_At (ch_C g A R) (cl_M (ch_C g A R) n f) mL_law 1031 [some (.inr (.inr 102)), some (.inr (.inr 0)), some (.inr (.inr 76)), some (.inl i)] [] w) ∧ (¬ (ck_and (cl_s f i) 31) = 21 → ((ck_and (cl_s f i) 31) = 22 → cq_At (ch_C g A R) (cl_M (ch_C g A R) n f) mL_law 1084 [some (.inr (.inr 102)), some (.inr (.inr 0)), some (.inr (.inr 76)), some (.inl i)] [] w) ∧ (¬ (ck_and (cl_s f i) 31) = 22 → ((ck_and (cl_s f i) 31) = 23 → cq_At (ch_C g A R) (cl_M (ch_C g A R) n f) mL_law 1137 [some (.inr (.inr 102)), some (.inr (.inr 0)), some (.inr (.inr 76)), some (.inl i)] [] w) ∧ (¬ (ck_and (cl_s f i) 31) = 23 → ((ck_and (cl_s f i) 31) = 24 → cq_At (ch_C g A R) (cl_M (ch_C g A R) n f) mL_law 1170 [some (.inr (.inr 102)), some (.inr (.inr 0)), some (.inr (.inr 76)), some (.inl i)] [] w) ∧ (¬ (ck_and (cl_s f i) 31) = 24 → ((ck_and (cl_s f i) 31) = 25 → cq_At (ch_C g A R) (cl_M (ch_C g A R) n f) mL_law 1233 [some (.inr (.inr 102)), some (.inr (.inr 0)), some (.inr (.inr 76)), some (.inl i)] [] w) ∧ (¬ (ck_and (cl_s f i) 31) = 25 → ((ck_and (cl_s f i) 31) = 26 → cq_At (ch_C g A R) (cl_M (ch_C g A R) n f) mL_law 1312 [some (.inr (.inr 102)), some (.inr (.inr 0)), some (.inr (.inr 76)), some (.inl i)] [] w) ∧ (¬ (ck_and (cl_s f i) 31) = 26 → ((ck_and (cl_s f i) 31) = 27 → cq_At (ch_C g A R) (cl_M (ch_C g A R) n f) mL_law 1355 [some (.inr (.inr 102)), some (.inr (.inr 0)), some (.inr (.inr 76)), some (.inl i)] [] w) ∧ (¬ (ck_and (cl_s f i) 31) = 27 → ((ck_and (cl_s f i) 31) = 28 → cq_At (ch_C g A R) (cl_M (ch_C g A R) n f) mL_law 1388 [some (.inr (.inr 102)), some (.inr (.inr 0)), some (.inr (.inr 76)), some (.inl i)] [] w) ∧ (¬ (ck_and (cl_s f i) 31) = 28 → ((ck_and (cl_s f i) 31) = 29 → cq_At (ch_C g A R) (cl_M (ch_C g A R) n f) mL_law 1421 [some (.inr (.inr 102)), some (.inr (.inr 0)), some (.inr (.inr 76)), some (.inl i)] [] w) ∧ (¬ (ck_and (cl_s f i) 31) = 29 → ((ck_and (cl_s f i) 31) = 30 → cq_At (ch_C g A R) (cl_M (ch_C g A R) n f) mL_law 1434 [some (.inr (.inr 102)), some (.inr (.inr 0)), some (.inr (.inr 76)), some (.inl i)] [] w) ∧ (¬ (ck_and (cl_s f i) 31) = 30 → ((ck_and (cl_s f i) 31) = 31 → cq_At (ch_C g A R) (cl_M (ch_C g A R) n f) mL_law 1447 [some (.inr (.inr 102)), some (.inr (.inr 0)), some (.inr (.inr 76)), some (.inl i)] [] w) ∧ (¬ (ck_and (cl_s f i) 31) = 31 → cq_At (ch_C g A R) (cl_M (ch_C g A R) n f) mL_law 1470 [some (.inr (.inr 102)), some (.inr (.inr 0)), some (.inr (.inr 76)), some (.inl i)] [] w)))))))))))))))))))))))))))))))))))) : cq_At (ch_C g A R) (cl_M (ch_C g A R) n f) mL_law 38 [some (.inr (.inr 102)), some (.inr (.inr 0)), some (.inr (.inr 76)), some (.inl i)] [] w :=
  cq_in (fun hl => (cq_iload_n 39 rfl 3 dL_law_38 rfl rfl (cq_aload_n 40 rfl 0 dL_law_39 rfl rfl (cl_slen 41 rfl dL_law_40 (cq_bipush 43 rfl dL_law_41 rfl (cq_isub 44 rfl dL_law_43 (have h38 := h; have o1 := h38.1; have h37 := h38.2; (cq_icmp_gt 47 rfl 1476 dL_law_44 rfl hl.2.2.2.1 o1 (fun c35 => (cq_iconst 1477 rfl dL_law_1476 rfl (cl_ret dL_law_1477))) (fun c36 => (cq_aload_n 48 rfl 0 dL_law_47 rfl rfl (cq_iload_n 49 rfl 3 dL_law_48 rfl rfl (have h40 := (h37.2 c36); have o2 := h40.1; have h39 := h40.2; (cl_sld 50 rfl dL_law_49 hn o2 (cq_bipush 52 rfl dL_law_50 rfl (cq_iand 53 rfl dL_law_52 (have h41 := h39; if c3 : (ck_and (cl_s f i) 31) = 0 + ((0 : Nat) : Int) then (cq_tswI 0 (143) 196 dL_law_53 (ck_rng _) c3 (by decide) sL_law_53_0 rfl (h41.1 c3)) else (have h42 := (h41.2 c3); if c4 : (ck_and (cl_s f i) 31) = 0 + ((1 : Nat) : Int) then (cq_tswI 1 (206) 259 dL_law_53 (ck_rng _) c4 (by decide) sL_law_53_1 rfl (h42.1 c4)) else (have h43 := (h42.2 c4); if c5 : (ck_and (cl_s f i) 31) = 0 + ((2 : Nat) : Int) then (cq_tswI 2 (279) 332 dL_law_53 (ck_rng _) c5 (by decide) sL_law_53_2 rfl (h43.1 c5)) else (have h44 := (h43.2 c5); if c6 : (ck_and (cl_s f i) 31) = 0 + ((3 : Nat) : Int) then (cq_tswI 3 (312) 365 dL_law_53 (ck_rng _) c6 (by decide) sL_law_53_3 rfl (h44.1 c6)) else (have h45 := (h44.2 c6); if c7 : (ck_and (cl_s f i) 31) = 0 + ((4 : Nat) : Int) then (cq_tswI 4 (355) 408 dL_law_53 (ck_rng _) c7 (by decide) sL_law_53_4 rfl (h45.1 c7)) else (have h46 := (h45.2 c7); if c8 : (ck_and (cl_s f i) 31) = 0 + ((5 : Nat) : Int) then (cq_tswI 5 (388) 441 dL_law_53 (ck_rng _) c8 (by decide) sL_law_53_5 rfl (h46.1 c8)) else (have h47 := (h46.2 c8); if c9 : (ck_and (cl_s f i) 31) = 0 + ((6 : Nat) : Int) then (cq_tswI 6 (411) 464 dL_law_53 (ck_rng _) c9 (by decide) sL_law_53_6 rfl (h47.1 c9)) else (have h48 := (h47.2 c9); if c10 : (ck_and (cl_s f i) 31) = 0 + ((7 : Nat) : Int) then (cq_tswI 7 (424) 477 dL_law_53 (ck_rng _) c10 (by decide) sL_law_53_7 rfl (h48.1 c10)) else (have h49 := (h48.2 c10); if c11 : (ck_and (cl_s f i) 31) = 0 + ((8 : Nat) : Int) then (cq_tswI 8 (447) 500 dL_law_53 (ck_rng _) c11 (by decide) sL_law_53_8 rfl (h49.1 c11)) else (have h50 := (h49.2 c11); if c12 : (ck_and (cl_s f i) 31) = 0 + ((9 : Nat) : Int) then (cq_tswI 9 (490) 543 dL_law_53 (ck_rng _) c12 (by decide) sL_law_53_9 rfl (h50.1 c12)) else (have h51 := (h50.2 c12); if c13 : (ck_and (cl_s f i) 31) = 0 + ((10 : Nat) : Int) then (cq_tswI 10 (533) 586 dL_law_53 (ck_rng _) c13 (by decide) sL_law_53_10 rfl (h51.1 c13)) else (have h52 := (h51.2 c13); if c14 : (ck_and (cl_s f i) 31) = 0 + ((11 : Nat) : Int) then (cq_tswI 11 (596) 649 dL_law_53 (ck_rng _) c14 (by decide) sL_law_53_11 rfl (h52.1 c14)) else (have h53 := (h52.2 c14); if c15 : (ck_and (cl_s f i) 31) = 0 + ((12 : Nat) : Int) then (cq_tswI 12 (619) 672 dL_law_53 (ck_rng _) c15 (by decide) sL_law_53_12 rfl (h53.1 c15)) else (have h54 := (h53.2 c15); if c16 : (ck_and (cl_s f i) 31) = 0 + ((13 : Nat) : Int) then (cq_tswI 13 (632) 685 dL_law_53 (ck_rng _) c16 (by decide) sL_law_53_13 rfl (h54.1 c16)) else (have h55 := (h54.2 c16); if c17 : (ck_and (cl_s f i) 31) = 0 + ((14 : Nat) : Int) then (cq_tswI 14 (655) 708 dL_law_53 (ck_rng _) c17 (by decide) sL_law_53_14 rfl (h55.1 c17)) else (have h56 := (h55.2 c17); if c18 : (ck_and (cl_s f i) 31) = 0 + ((15 : Nat) : Int) then (cq_tswI 15 (698) 751 dL_law_53 (ck_rng _) c18 (by decide) sL_law_53_15 rfl (h56.1 c18)) else (have h57 := (h56.2 c18); if c19 : (ck_and (cl_s f i) 31) = 0 + ((16 : Nat) : Int) then (cq_tswI 16 (767) 820 dL_law_53 (ck_rng _) c19 (by decide) sL_law_53_16 rfl (h57.1 c19)) else (have h58 := (h57.2 c19); if c20 : (ck_and (cl_s f i) 31) = 0 + ((17 : Nat) : Int) then (cq_tswI 17 (800) 853 dL_law_53 (ck_rng _) c20 (by decide) sL_law_53_17 rfl (h58.1 c20)) else (have h59 := (h58.2 c20); if c21 : (ck_and (cl_s f i) 31) = 0 + ((18 : Nat) : Int) then (cq_tswI 18 (859) 912 dL_law_53 (ck_rng _) c21 (by decide) sL_law_53_18 rfl (h59.1 c21)) else (have h60 := (h59.2 c21); if c22 : (ck_and (cl_s f i) 31) = 0 + ((19 : Nat) : Int) then (cq_tswI 19 (892) 945 dL_law_53 (ck_rng _) c22 (by decide) sL_law_53_19 rfl (h60.1 c22)) else (have h61 := (h60.2 c22); if c23 : (ck_and (cl_s f i) 31) = 0 + ((20 : Nat) : Int) then (cq_tswI 20 (945) 998 dL_law_53 (ck_rng _) c23 (by decide) sL_law_53_20 rfl (h61.1 c23)) else (have h62 := (h61.2 c23); if c24 : (ck_and (cl_s f i) 31) = 0 + ((21 : Nat) : Int) then (cq_tswI 21 (978) 1031 dL_law_53 (ck_rng _) c24 (by decide) sL_law_53_21 rfl (h62.1 c24)) else (have h63 := (h62.2 c24); if c25 : (ck_and (cl_s f i) 31) = 0 + ((22 : Nat) : Int) then (cq_tswI 22 (1031) 1084 dL_law_53 (ck_rng _) c25 (by decide) sL_law_53_22 rfl (h63.1 c25)) else (have h64 := (h63.2 c25); if c26 : (ck_and (cl_s f i) 31) = 0 + ((23 : Nat) : Int) then (cq_tswI 23 (1084) 1137 dL_law_53 (ck_rng _) c26 (by decide) sL_law_53_23 rfl (h64.1 c26)) else (have h65 := (h64.2 c26); if c27 : (ck_and (cl_s f i) 31) = 0 + ((24 : Nat) : Int) then (cq_tswI 24 (1117) 1170 dL_law_53 (ck_rng _) c27 (by decide) sL_law_53_24 rfl (h65.1 c27)) else (have h66 := (h65.2 c27); if c28 : (ck_and (cl_s f i) 31) = 0 + ((25 : Nat) : Int) then (cq_tswI 25 (1180) 1233 dL_law_53 (ck_rng _) c28 (by decide) sL_law_53_25 rfl (h66.1 c28)) else (have h67 := (h66.2 c28); if c29 : (ck_and (cl_s f i) 31) = 0 + ((26 : Nat) : Int) then (cq_tswI 26 (1259) 1312 dL_law_53 (ck_rng _) c29 (by decide) sL_law_53_26 rfl (h67.1 c29)) else (have h68 := (h67.2 c29); if c30 : (ck_and (cl_s f i) 31) = 0 + ((27 : Nat) : Int) then (cq_tswI 27 (1302) 1355 dL_law_53 (ck_rng _) c30 (by decide) sL_law_53_27 rfl (h68.1 c30)) else (have h69 := (h68.2 c30); if c31 : (ck_and (cl_s f i) 31) = 0 + ((28 : Nat) : Int) then (cq_tswI 28 (1335) 1388 dL_law_53 (ck_rng _) c31 (by decide) sL_law_53_28 rfl (h69.1 c31)) else (have h70 := (h69.2 c31); if c32 : (ck_and (cl_s f i) 31) = 0 + ((29 : Nat) : Int) then (cq_tswI 29 (1368) 1421 dL_law_53 (ck_rng _) c32 (by decide) sL_law_53_29 rfl (h70.1 c32)) else (have h71 := (h70.2 c32); if c33 : (ck_and (cl_s f i) 31) = 0 + ((30 : Nat) : Int) then (cq_tswI 30 (1381) 1434 dL_law_53 (ck_rng _) c33 (by decide) sL_law_53_30 rfl (h71.1 c33)) else (have h72 := (h71.2 c33); if c34 : (ck_and (cl_s f i) 31) = 0 + ((31 : Nat) : Int) then (cq_tswI 31 (1394) 1447 dL_law_53 (ck_rng _) c34 (by decide) sL_law_53_31 rfl (h72.1 c34)) else (cq_tswO 1470 dL_law_53 (ck_rng _) (oL_law_53 c3 c4 c5 c6 c7 c8 c9 c10 c11 c12 c13 c14 c15 c16 c17 c18 c19 c20 c21 c22 c23 c24 c25 c26 c27 c28 c29 c30 c31 c32 c33 c34) rfl (h72.2 c34)))))))))))))))))))))))))))))))))))))))))))))))))
set_option maxRecDepth 8000 in
theorem r_L_196 {g : ch_G} {A R : Nat} (hC : ck_Cx g A R) {n : Nat} {f : Nat → Int32} (hn : n < 2147483648) {w : ck_W} {i : Int} (h : (0 ≤ (i + 1) ∧ (i + 1) < (n : Int)) ∧ ((0 ≤ (i + 2) ∧ (i + 2) < (n : Int)) ∧ ((0 ≤ (i + 3) ∧ (i + 3) < (n : Int)) ∧ ((0 ≤ (i + 4) ∧ (i + 4) < (n : Int)) ∧ ((0 ≤ (i + 5) ∧ (i + 5) < (n : Int)) ∧ (ck_CI (ch_C g A R) 11 mX11_grey [.inr (.inr 0), .inl (cl_s f (i + 1)), .inl (cl_s f (i + 2)), .inl (cl_s f (i + 3)), .inl (cl_s f (i + 4)), .inl (cl_s f (i + 5))] w (fun v7 w6 => ck_CI (ch_C g A R) 11 mX12_grey [.inr (.inr 76), .inl (cl_s f (i + 1)), .inl (cl_s f (i + 2)), .inl (cl_s f (i + 3)), .inl (cl_s f (i + 4)), .inl (cl_s f (i + 5))] w6 (fun v11 w10 => cq_At (ch_C g A R) (cl_M (ch_C g A R) n f) mL_law 1470 [some (.inr (.inr 102)), some (.inr (.inr 0)), some (.inr (.inr 76)), some (.inl i)] [] w10)))))))) : cq_At (ch_C g A R) (cl_M (ch_C g A R) n f) mL_law 196 [some (.inr (.inr 102)), some (.inr (.inr 0)), some (.inr (.inr 76)), some (.inl i)] [] w :=
  cq_in (fun hl => (cq_aload_n 197 rfl 1 dL_law_196 rfl rfl (cq_aload_n 198 rfl 0 dL_law_197 rfl rfl (cq_iload_n 199 rfl 3 dL_law_198 rfl rfl (cq_iconst 200 rfl dL_law_199 rfl (cq_iadd 201 rfl dL_law_200 (have h15 := h; have o1 := h15.1; have h14 := h15.2; (cl_sld 202 rfl dL_law_201 hn o1 (cq_aload_n 203 rfl 0 dL_law_202 rfl rfl (cq_iload_n 204 rfl 3 dL_law_203 rfl rfl (cq_iconst 205 rfl dL_law_204 rfl (cq_iadd 206 rfl dL_law_205 (have h17 := h14; have o2 := h17.1; have h16 := h17.2; (cl_sld 207 rfl dL_law_206 hn o2 (cq_aload_n 208 rfl 0 dL_law_207 rfl rfl (cq_iload_n 209 rfl 3 dL_law_208 rfl rfl (cq_iconst 210 rfl dL_law_209 rfl (cq_iadd 211 rfl dL_law_210 (have h19 := h16; have o3 := h19.1; have h18 := h19.2; (cl_sld 212 rfl dL_law_211 hn o3 (cq_aload_n 213 rfl 0 dL_law_212 rfl rfl (cq_iload_n 214 rfl 3 dL_law_213 rfl rfl (cq_iconst 215 rfl dL_law_214 rfl (cq_iadd 216 rfl dL_law_215 (have h21 := h18; have o4 := h21.1; have h20 := h21.2; (cl_sld 217 rfl dL_law_216 hn o4 (cq_aload_n 218 rfl 0 dL_law_217 rfl rfl (cq_iload_n 219 rfl 3 dL_law_218 rfl rfl (cq_iconst 220 rfl dL_law_219 rfl (cq_iadd 221 rfl dL_law_220 (have h23 := h20; have o5 := h23.1; have h22 := h23.2; (cl_sld 222 rfl dL_law_221 hn o5 (cq_callV 225 rfl [.inl (cl_s f (i + 1)), .inl (cl_s f (i + 2)), .inl (cl_s f (i + 3)), .inl (cl_s f (i + 4)), .inl (cl_s f (i + 5))] [] dL_law_222 cv_L_21 sh_0 rfl rfl (Nat.le_of_ble_eq_true rfl) (And.intro (cl_srng _ _) (And.intro (cl_srng _ _) (And.intro (cl_srng _ _) (And.intro (cl_srng _ _) (And.intro (cl_srng _ _) True.intro))))) (ck_mI h22 (fun v7 w6 q8 h9 => (cq_pop 226 rfl dL_law_225 rfl (cq_aload_n 227 rfl 2 dL_law_226 rfl rfl (cq_aload_n 228 rfl 0 dL_law_227 rfl rfl (cq_iload_n 229 rfl 3 dL_law_228 rfl rfl (cq_iconst 230 rfl dL_law_229 rfl (cq_iadd 231 rfl dL_law_230 (cl_sld 232 rfl dL_law_231 hn o1 (cq_aload_n 233 rfl 0 dL_law_232 rfl rfl (cq_iload_n 234 rfl 3 dL_law_233 rfl rfl (cq_iconst 235 rfl dL_law_234 rfl (cq_iadd 236 rfl dL_law_235 (cl_sld 237 rfl dL_law_236 hn o2 (cq_aload_n 238 rfl 0 dL_law_237 rfl rfl (cq_iload_n 239 rfl 3 dL_law_238 rfl rfl (cq_iconst 240 rfl dL_law_239 rfl (cq_iadd 241 rfl dL_law_240 (cl_sld 242 rfl dL_law_241 hn o3 (cq_aload_n 243 rfl 0 dL_law_242 rfl rfl (cq_iload_n 244 rfl 3 dL_law_243 rfl rfl (cq_iconst 245 rfl dL_law_244 rfl (cq_iadd 246 rfl dL_law_245 (cl_sld 247 rfl dL_law_246 hn o4 (cq_aload_n 248 rfl 0 dL_law_247 rfl rfl (cq_iload_n 249 rfl 3 dL_law_248 rfl rfl (cq_iconst 250 rfl dL_law_249 rfl (cq_iadd 251 rfl dL_law_250 (cl_sld 252 rfl dL_law_251 hn o5 (cq_callV 255 rfl [.inl (cl_s f (i + 1)), .inl (cl_s f (i + 2)), .inl (cl_s f (i + 3)), .inl (cl_s f (i + 4)), .inl (cl_s f (i + 5))] [] dL_law_252 cv_L_25 sh_76 rfl rfl (Nat.le_of_ble_eq_true rfl) (And.intro (cl_srng _ _) (And.intro (cl_srng _ _) (And.intro (cl_srng _ _) (And.intro (cl_srng _ _) (And.intro (cl_srng _ _) True.intro))))) (ck_mI h9 (fun v11 w10 q12 h13 => (cq_pop 256 rfl dL_law_255 rfl (cq_goto 1470 dL_law_256 rfl h13)))))))))))))))))))))))))))))))))))))))))))))))))))))))))))))))))))
set_option maxRecDepth 8000 in
theorem r_L_259 {g : ch_G} {A R : Nat} (hC : ck_Cx g A R) {n : Nat} {f : Nat → Int32} (hn : n < 2147483648) {w : ck_W} {i : Int} (h : (0 ≤ (i + 1) ∧ (i + 1) < (n : Int)) ∧ ((0 ≤ (i + 2) ∧ (i + 2) < (n : Int)) ∧ ((0 ≤ (i + 3) ∧ (i + 3) < (n : Int)) ∧ ((0 ≤ (i + 4) ∧ (i + 4) < (n : Int)) ∧ (ck_CI (ch_C g A R) 11 mX11_column [.inr (.inr 0), .inl (cl_s f (i + 1)), .inl (cl_s f (i + 2)), .inr (.inl (ck_Lor (ck_Lshl (cl_s f (i + 3)) 32) (ck_Land (cl_s f (i + 4)) 4294967295)))] w (fun v6 w5 => ck_CI (ch_C g A R) 11 mX12_column [.inr (.inr 76), .inl (cl_s f (i + 1)), .inl (cl_s f (i + 2)), .inr (.inl (ck_Lor (ck_Lshl (cl_s f (i + 3)) 32) (ck_Land (cl_s f (i + 4)) 4294967295)))] w5 (fun v10 w9 => cq_At (ch_C g A R) (cl_M (ch_C g A R) n f) mL_law 1470 [some (.inr (.inr 102)), some (.inr (.inr 0)), some (.inr (.inr 76)), some (.inl i)] [] w9))))))) : cq_At (ch_C g A R) (cl_M (ch_C g A R) n f) mL_law 259 [some (.inr (.inr 102)), some (.inr (.inr 0)), some (.inr (.inr 76)), some (.inl i)] [] w :=
  cq_in (fun hl => (cq_aload_n 260 rfl 1 dL_law_259 rfl rfl (cq_aload_n 261 rfl 0 dL_law_260 rfl rfl (cq_iload_n 262 rfl 3 dL_law_261 rfl rfl (cq_iconst 263 rfl dL_law_262 rfl (cq_iadd 264 rfl dL_law_263 (have h14 := h; have o1 := h14.1; have h13 := h14.2; (cl_sld 265 rfl dL_law_264 hn o1 (cq_aload_n 266 rfl 0 dL_law_265 rfl rfl (cq_iload_n 267 rfl 3 dL_law_266 rfl rfl (cq_iconst 268 rfl dL_law_267 rfl (cq_iadd 269 rfl dL_law_268 (have h16 := h13; have o2 := h16.1; have h15 := h16.2; (cl_sld 270 rfl dL_law_269 hn o2 (cq_aload_n 271 rfl 0 dL_law_270 rfl rfl (cq_iload_n 272 rfl 3 dL_law_271 rfl rfl (cq_iconst 273 rfl dL_law_272 rfl (cq_iadd 274 rfl dL_law_273 (have h18 := h15; have o3 := h18.1; have h17 := h18.2; (cl_sld 275 rfl dL_law_274 hn o3 (cq_i2l 276 rfl dL_law_275 (cl_srng _ _) (cq_bipush 278 rfl dL_law_276 rfl (cq_lshl 279 rfl dL_law_278 (cq_aload_n 280 rfl 0 dL_law_279 rfl rfl (cq_iload_n 281 rfl 3 dL_law_280 rfl rfl (cq_iconst 282 rfl dL_law_281 rfl (cq_iadd 283 rfl dL_law_282 (have h20 := h17; have o4 := h20.1; have h19 := h20.2; (cl_sld 284 rfl dL_law_283 hn o4 (cq_i2l 285 rfl dL_law_284 (cl_srng _ _) (cq_ldc2 288 rfl 4294967295 kl_L_26 dL_law_285 rfl (cq_land 289 rfl dL_law_288 (cq_lor 290 rfl dL_law_289 (cq_callV 293 rfl [.inl (cl_s f (i + 1)), .inl (cl_s f (i + 2)), .inr (.inl (ck_Lor (ck_Lshl (cl_s f (i + 3)) 32) (ck_Land (cl_s f (i + 4)) 4294967295)))] [] dL_law_290 cv_L_28 sh_0 rfl rfl (Nat.le_of_ble_eq_true rfl) (And.intro (cl_srng _ _) (And.intro (cl_srng _ _) (And.intro (ck_rngl _) True.intro))) (ck_mI h19 (fun v6 w5 q7 h8 => (cq_pop 294 rfl dL_law_293 rfl (cq_aload_n 295 rfl 2 dL_law_294 rfl rfl (cq_aload_n 296 rfl 0 dL_law_295 rfl rfl (cq_iload_n 297 rfl 3 dL_law_296 rfl rfl (cq_iconst 298 rfl dL_law_297 rfl (cq_iadd 299 rfl dL_law_298 (cl_sld 300 rfl dL_law_299 hn o1 (cq_aload_n 301 rfl 0 dL_law_300 rfl rfl (cq_iload_n 302 rfl 3 dL_law_301 rfl rfl (cq_iconst 303 rfl dL_law_302 rfl (cq_iadd 304 rfl dL_law_303 (cl_sld 305 rfl dL_law_304 hn o2 (cq_aload_n 306 rfl 0 dL_law_305 rfl rfl (cq_iload_n 307 rfl 3 dL_law_306 rfl rfl (cq_iconst 308 rfl dL_law_307 rfl (cq_iadd 309 rfl dL_law_308 (cl_sld 310 rfl dL_law_309 hn o3 (cq_i2l 311 rfl dL_law_310 (cl_srng _ _) (cq_bipush 313 rfl dL_law_311 rfl (cq_lshl 314 rfl dL_law_313 (cq_aload_n 315 rfl 0 dL_law_314 rfl rfl (cq_iload_n 316 rfl 3 dL_law_315 rfl rfl (cq_iconst 317 rfl dL_law_316 rfl (cq_iadd 318 rfl dL_law_317 (cl_sld 319 rfl dL_law_318 hn o4 (cq_i2l 320 rfl dL_law_319 (cl_srng _ _) (cq_ldc2 323 rfl 4294967295 kl_L_26 dL_law_320 rfl (cq_land 324 rfl dL_law_323 (cq_lor 325 rfl dL_law_324 (cq_callV 328 rfl [.inl (cl_s f (i + 1)), .inl (cl_s f (i + 2)), .inr (.inl (ck_Lor (ck_Lshl (cl_s f (i + 3)) 32) (ck_Land (cl_s f (i + 4)) 4294967295)))] [] dL_law_325 cv_L_32 sh_76 rfl rfl (Nat.le_of_ble_eq_true rfl) (And.intro (cl_srng _ _) (And.intro (cl_srng _ _) (And.intro (ck_rngl _) True.intro))) (ck_mI h8 (fun v10 w9 q11 h12 => (cq_pop 329 rfl dL_law_328 rfl (cq_goto 1470 dL_law_329 rfl h12))))))))))))))))))))))))))))))))))))))))))))))))))))))))))))))))))))))
set_option maxRecDepth 8000 in
theorem r_L_332 {g : ch_G} {A R : Nat} (hC : ck_Cx g A R) {n : Nat} {f : Nat → Int32} (hn : n < 2147483648) {w : ck_W} {i : Int} (h : (0 ≤ (i + 1) ∧ (i + 1) < (n : Int)) ∧ ((0 ≤ (i + 2) ∧ (i + 2) < (n : Int)) ∧ (ck_CI (ch_C g A R) 11 mX11_wound [.inr (.inr 0), .inl (cl_s f (i + 1)), .inl (cl_s f (i + 2))] w (fun v4 w3 => ck_CI (ch_C g A R) 11 mX12_wound [.inr (.inr 76), .inl (cl_s f (i + 1)), .inl (cl_s f (i + 2))] w3 (fun v8 w7 => cq_At (ch_C g A R) (cl_M (ch_C g A R) n f) mL_law 1470 [some (.inr (.inr 102)), some (.inr (.inr 0)), some (.inr (.inr 76)), some (.inl i)] [] w7))))) : cq_At (ch_C g A R) (cl_M (ch_C g A R) n f) mL_law 332 [some (.inr (.inr 102)), some (.inr (.inr 0)), some (.inr (.inr 76)), some (.inl i)] [] w :=
  cq_in (fun hl => (cq_aload_n 333 rfl 1 dL_law_332 rfl rfl (cq_aload_n 334 rfl 0 dL_law_333 rfl rfl (cq_iload_n 335 rfl 3 dL_law_334 rfl rfl (cq_iconst 336 rfl dL_law_335 rfl (cq_iadd 337 rfl dL_law_336 (have h12 := h; have o1 := h12.1; have h11 := h12.2; (cl_sld 338 rfl dL_law_337 hn o1 (cq_aload_n 339 rfl 0 dL_law_338 rfl rfl (cq_iload_n 340 rfl 3 dL_law_339 rfl rfl (cq_iconst 341 rfl dL_law_340 rfl (cq_iadd 342 rfl dL_law_341 (have h14 := h11; have o2 := h14.1; have h13 := h14.2; (cl_sld 343 rfl dL_law_342 hn o2 (cq_callV 346 rfl [.inl (cl_s f (i + 1)), .inl (cl_s f (i + 2))] [] dL_law_343 cv_L_33 sh_0 rfl rfl (Nat.le_of_ble_eq_true rfl) (And.intro (cl_srng _ _) (And.intro (cl_srng _ _) True.intro)) (ck_mI h13 (fun v4 w3 q5 h6 => (cq_pop 347 rfl dL_law_346 rfl (cq_aload_n 348 rfl 2 dL_law_347 rfl rfl (cq_aload_n 349 rfl 0 dL_law_348 rfl rfl (cq_iload_n 350 rfl 3 dL_law_349 rfl rfl (cq_iconst 351 rfl dL_law_350 rfl (cq_iadd 352 rfl dL_law_351 (cl_sld 353 rfl dL_law_352 hn o1 (cq_aload_n 354 rfl 0 dL_law_353 rfl rfl (cq_iload_n 355 rfl 3 dL_law_354 rfl rfl (cq_iconst 356 rfl dL_law_355 rfl (cq_iadd 357 rfl dL_law_356 (cl_sld 358 rfl dL_law_357 hn o2 (cq_callV 361 rfl [.inl (cl_s f (i + 1)), .inl (cl_s f (i + 2))] [] dL_law_358 cv_L_37 sh_76 rfl rfl (Nat.le_of_ble_eq_true rfl) (And.intro (cl_srng _ _) (And.intro (cl_srng _ _) True.intro)) (ck_mI h6 (fun v8 w7 q9 h10 => (cq_pop 362 rfl dL_law_361 rfl (cq_goto 1470 dL_law_362 rfl h10))))))))))))))))))))))))))))))))))
set_option maxRecDepth 8000 in
theorem r_L_365 {g : ch_G} {A R : Nat} (hC : ck_Cx g A R) {n : Nat} {f : Nat → Int32} (hn : n < 2147483648) {w : ck_W} {i : Int} (h : (0 ≤ (i + 1) ∧ (i + 1) < (n : Int)) ∧ ((0 ≤ (i + 2) ∧ (i + 2) < (n : Int)) ∧ ((0 ≤ (i + 3) ∧ (i + 3) < (n : Int)) ∧ (ck_CI (ch_C g A R) 11 mX11_pin [.inr (.inr 0), .inl (cl_s f (i + 1)), .inl (cl_s f (i + 2)), .inl (cl_s f (i + 3))] w (fun v5 w4 => ck_CI (ch_C g A R) 11 mX12_pin [.inr (.inr 76), .inl (cl_s f (i + 1)), .inl (cl_s f (i + 2)), .inl (cl_s f (i + 3))] w4 (fun v9 w8 => cq_At (ch_C g A R) (cl_M (ch_C g A R) n f) mL_law 1470 [some (.inr (.inr 102)), some (.inr (.inr 0)), some (.inr (.inr 76)), some (.inl i)] [] w8)))))) : cq_At (ch_C g A R) (cl_M (ch_C g A R) n f) mL_law 365 [some (.inr (.inr 102)), some (.inr (.inr 0)), some (.inr (.inr 76)), some (.inl i)] [] w :=
  cq_in (fun hl => (cq_aload_n 366 rfl 1 dL_law_365 rfl rfl (cq_aload_n 367 rfl 0 dL_law_366 rfl rfl (cq_iload_n 368 rfl 3 dL_law_367 rfl rfl (cq_iconst 369 rfl dL_law_368 rfl (cq_iadd 370 rfl dL_law_369 (have h13 := h; have o1 := h13.1; have h12 := h13.2; (cl_sld 371 rfl dL_law_370 hn o1 (cq_aload_n 372 rfl 0 dL_law_371 rfl rfl (cq_iload_n 373 rfl 3 dL_law_372 rfl rfl (cq_iconst 374 rfl dL_law_373 rfl (cq_iadd 375 rfl dL_law_374 (have h15 := h12; have o2 := h15.1; have h14 := h15.2; (cl_sld 376 rfl dL_law_375 hn o2 (cq_aload_n 377 rfl 0 dL_law_376 rfl rfl (cq_iload_n 378 rfl 3 dL_law_377 rfl rfl (cq_iconst 379 rfl dL_law_378 rfl (cq_iadd 380 rfl dL_law_379 (have h17 := h14; have o3 := h17.1; have h16 := h17.2; (cl_sld 381 rfl dL_law_380 hn o3 (cq_callV 384 rfl [.inl (cl_s f (i + 1)), .inl (cl_s f (i + 2)), .inl (cl_s f (i + 3))] [] dL_law_381 cv_L_38 sh_0 rfl rfl (Nat.le_of_ble_eq_true rfl) (And.intro (cl_srng _ _) (And.intro (cl_srng _ _) (And.intro (cl_srng _ _) True.intro))) (ck_mI h16 (fun v5 w4 q6 h7 => (cq_pop 385 rfl dL_law_384 rfl (cq_aload_n 386 rfl 2 dL_law_385 rfl rfl (cq_aload_n 387 rfl 0 dL_law_386 rfl rfl (cq_iload_n 388 rfl 3 dL_law_387 rfl rfl (cq_iconst 389 rfl dL_law_388 rfl (cq_iadd 390 rfl dL_law_389 (cl_sld 391 rfl dL_law_390 hn o1 (cq_aload_n 392 rfl 0 dL_law_391 rfl rfl (cq_iload_n 393 rfl 3 dL_law_392 rfl rfl (cq_iconst 394 rfl dL_law_393 rfl (cq_iadd 395 rfl dL_law_394 (cl_sld 396 rfl dL_law_395 hn o2 (cq_aload_n 397 rfl 0 dL_law_396 rfl rfl (cq_iload_n 398 rfl 3 dL_law_397 rfl rfl (cq_iconst 399 rfl dL_law_398 rfl (cq_iadd 400 rfl dL_law_399 (cl_sld 401 rfl dL_law_400 hn o3 (cq_callV 404 rfl [.inl (cl_s f (i + 1)), .inl (cl_s f (i + 2)), .inl (cl_s f (i + 3))] [] dL_law_401 cv_L_42 sh_76 rfl rfl (Nat.le_of_ble_eq_true rfl) (And.intro (cl_srng _ _) (And.intro (cl_srng _ _) (And.intro (cl_srng _ _) True.intro))) (ck_mI h7 (fun v9 w8 q10 h11 => (cq_pop 405 rfl dL_law_404 rfl (cq_goto 1470 dL_law_405 rfl h11)))))))))))))))))))))))))))))))))))))))))))))
set_option maxRecDepth 8000 in
theorem r_L_408 {g : ch_G} {A R : Nat} (hC : ck_Cx g A R) {n : Nat} {f : Nat → Int32} (hn : n < 2147483648) {w : ck_W} {i : Int} (h : (0 ≤ (i + 1) ∧ (i + 1) < (n : Int)) ∧ ((0 ≤ (i + 2) ∧ (i + 2) < (n : Int)) ∧ (ck_CI (ch_C g A R) 11 mX11_best [.inr (.inr 0), .inl (cl_s f (i + 1)), .inl (cl_s f (i + 2))] w (fun v4 w3 => ck_CI (ch_C g A R) 11 mX12_best [.inr (.inr 76), .inl (cl_s f (i + 1)), .inl (cl_s f (i + 2))] w3 (fun v8 w7 => cq_At (ch_C g A R) (cl_M (ch_C g A R) n f) mL_law 1470 [some (.inr (.inr 102)), some (.inr (.inr 0)), some (.inr (.inr 76)), some (.inl i)] [] w7))))) : cq_At (ch_C g A R) (cl_M (ch_C g A R) n f) mL_law 408 [some (.inr (.inr 102)), some (.inr (.inr 0)), some (.inr (.inr 76)), some (.inl i)] [] w :=
  cq_in (fun hl => (cq_aload_n 409 rfl 1 dL_law_408 rfl rfl (cq_aload_n 410 rfl 0 dL_law_409 rfl rfl (cq_iload_n 411 rfl 3 dL_law_410 rfl rfl (cq_iconst 412 rfl dL_law_411 rfl (cq_iadd 413 rfl dL_law_412 (have h12 := h; have o1 := h12.1; have h11 := h12.2; (cl_sld 414 rfl dL_law_413 hn o1 (cq_aload_n 415 rfl 0 dL_law_414 rfl rfl (cq_iload_n 416 rfl 3 dL_law_415 rfl rfl (cq_iconst 417 rfl dL_law_416 rfl (cq_iadd 418 rfl dL_law_417 (have h14 := h11; have o2 := h14.1; have h13 := h14.2; (cl_sld 419 rfl dL_law_418 hn o2 (cq_callV 422 rfl [.inl (cl_s f (i + 1)), .inl (cl_s f (i + 2))] [] dL_law_419 cv_L_43 sh_0 rfl rfl (Nat.le_of_ble_eq_true rfl) (And.intro (cl_srng _ _) (And.intro (cl_srng _ _) True.intro)) (ck_mI h13 (fun v4 w3 q5 h6 => (cq_pop 423 rfl dL_law_422 rfl (cq_aload_n 424 rfl 2 dL_law_423 rfl rfl (cq_aload_n 425 rfl 0 dL_law_424 rfl rfl (cq_iload_n 426 rfl 3 dL_law_425 rfl rfl (cq_iconst 427 rfl dL_law_426 rfl (cq_iadd 428 rfl dL_law_427 (cl_sld 429 rfl dL_law_428 hn o1 (cq_aload_n 430 rfl 0 dL_law_429 rfl rfl (cq_iload_n 431 rfl 3 dL_law_430 rfl rfl (cq_iconst 432 rfl dL_law_431 rfl (cq_iadd 433 rfl dL_law_432 (cl_sld 434 rfl dL_law_433 hn o2 (cq_callV 437 rfl [.inl (cl_s f (i + 1)), .inl (cl_s f (i + 2))] [] dL_law_434 cv_L_47 sh_76 rfl rfl (Nat.le_of_ble_eq_true rfl) (And.intro (cl_srng _ _) (And.intro (cl_srng _ _) True.intro)) (ck_mI h6 (fun v8 w7 q9 h10 => (cq_pop 438 rfl dL_law_437 rfl (cq_goto 1470 dL_law_438 rfl h10))))))))))))))))))))))))))))))))))
set_option maxRecDepth 8000 in
theorem r_L_441 {g : ch_G} {A R : Nat} (hC : ck_Cx g A R) {n : Nat} {f : Nat → Int32} (hn : n < 2147483648) {w : ck_W} {i : Int} (h : (0 ≤ (i + 1) ∧ (i + 1) < (n : Int)) ∧ (ck_CI (ch_C g A R) 11 mX11_step [.inr (.inr 0), .inl (cl_s f (i + 1))] w (fun v3 w2 => ck_CI (ch_C g A R) 11 mX12_step [.inr (.inr 76), .inl (cl_s f (i + 1))] w2 (fun v7 w6 => cq_At (ch_C g A R) (cl_M (ch_C g A R) n f) mL_law 1470 [some (.inr (.inr 102)), some (.inr (.inr 0)), some (.inr (.inr 76)), some (.inl i)] [] w6)))) : cq_At (ch_C g A R) (cl_M (ch_C g A R) n f) mL_law 441 [some (.inr (.inr 102)), some (.inr (.inr 0)), some (.inr (.inr 76)), some (.inl i)] [] w :=
  cq_in (fun hl => (cq_aload_n 442 rfl 1 dL_law_441 rfl rfl (cq_aload_n 443 rfl 0 dL_law_442 rfl rfl (cq_iload_n 444 rfl 3 dL_law_443 rfl rfl (cq_iconst 445 rfl dL_law_444 rfl (cq_iadd 446 rfl dL_law_445 (have h11 := h; have o1 := h11.1; have h10 := h11.2; (cl_sld 447 rfl dL_law_446 hn o1 (cq_callV 450 rfl [.inl (cl_s f (i + 1))] [] dL_law_447 cv_L_48 sh_0 rfl rfl (Nat.le_of_ble_eq_true rfl) (And.intro (cl_srng _ _) True.intro) (ck_mI h10 (fun v3 w2 q4 h5 => (cq_pop 451 rfl dL_law_450 rfl (cq_aload_n 452 rfl 2 dL_law_451 rfl rfl (cq_aload_n 453 rfl 0 dL_law_452 rfl rfl (cq_iload_n 454 rfl 3 dL_law_453 rfl rfl (cq_iconst 455 rfl dL_law_454 rfl (cq_iadd 456 rfl dL_law_455 (cl_sld 457 rfl dL_law_456 hn o1 (cq_callV 460 rfl [.inl (cl_s f (i + 1))] [] dL_law_457 cv_L_52 sh_76 rfl rfl (Nat.le_of_ble_eq_true rfl) (And.intro (cl_srng _ _) True.intro) (ck_mI h5 (fun v7 w6 q8 h9 => (cq_pop 461 rfl dL_law_460 rfl (cq_goto 1470 dL_law_461 rfl h9)))))))))))))))))))))))
set_option maxRecDepth 8000 in
theorem r_L_464 {g : ch_G} {A R : Nat} (hC : ck_Cx g A R) {n : Nat} {f : Nat → Int32} (hn : n < 2147483648) {w : ck_W} {i : Int} (h : ck_CI (ch_C g A R) 11 mX11_unwalk [.inr (.inr 0)] w (fun v2 w1 => ck_CI (ch_C g A R) 11 mX12_unwalk [.inr (.inr 76)] w1 (fun v6 w5 => cq_At (ch_C g A R) (cl_M (ch_C g A R) n f) mL_law 1470 [some (.inr (.inr 102)), some (.inr (.inr 0)), some (.inr (.inr 76)), some (.inl i)] [] w5))) : cq_At (ch_C g A R) (cl_M (ch_C g A R) n f) mL_law 464 [some (.inr (.inr 102)), some (.inr (.inr 0)), some (.inr (.inr 76)), some (.inl i)] [] w :=
  cq_in (fun hl => (cq_aload_n 465 rfl 1 dL_law_464 rfl rfl (cq_callV 468 rfl [] [] dL_law_465 cv_L_53 sh_0 rfl rfl (Nat.le_of_ble_eq_true rfl) True.intro (ck_mI h (fun v2 w1 q3 h4 => (cq_pop 469 rfl dL_law_468 rfl (cq_aload_n 470 rfl 2 dL_law_469 rfl rfl (cq_callV 473 rfl [] [] dL_law_470 cv_L_57 sh_76 rfl rfl (Nat.le_of_ble_eq_true rfl) True.intro (ck_mI h4 (fun v6 w5 q7 h8 => (cq_pop 474 rfl dL_law_473 rfl (cq_goto 1470 dL_law_474 rfl h8))))))))))))
set_option maxRecDepth 8000 in
theorem r_L_477 {g : ch_G} {A R : Nat} (hC : ck_Cx g A R) {n : Nat} {f : Nat → Int32} (hn : n < 2147483648) {w : ck_W} {i : Int} (h : (0 ≤ (i + 1) ∧ (i + 1) < (n : Int)) ∧ (ck_CI (ch_C g A R) 11 mX11_jump [.inr (.inr 0), .inl (cl_s f (i + 1))] w (fun v3 w2 => ck_CI (ch_C g A R) 11 mX12_jump [.inr (.inr 76), .inl (cl_s f (i + 1))] w2 (fun v7 w6 => (v3 = v7 → cq_At (ch_C g A R) (cl_M (ch_C g A R) n f) mL_law 1470 [some (.inr (.inr 102)), some (.inr (.inr 0)), some (.inr (.inr 76)), some (.inl i)] [] w6) ∧ (¬ v3 = v7 → False))))) : cq_At (ch_C g A R) (cl_M (ch_C g A R) n f) mL_law 477 [some (.inr (.inr 102)), some (.inr (.inr 0)), some (.inr (.inr 76)), some (.inl i)] [] w :=
  cq_in (fun hl => (cq_aload_n 478 rfl 1 dL_law_477 rfl rfl (cq_aload_n 479 rfl 0 dL_law_478 rfl rfl (cq_iload_n 480 rfl 3 dL_law_479 rfl rfl (cq_iconst 481 rfl dL_law_480 rfl (cq_iadd 482 rfl dL_law_481 (have h13 := h; have o1 := h13.1; have h12 := h13.2; (cl_sld 483 rfl dL_law_482 hn o1 (cq_callV 486 rfl [.inl (cl_s f (i + 1))] [] dL_law_483 cv_L_58 sh_0 rfl rfl (Nat.le_of_ble_eq_true rfl) (And.intro (cl_srng _ _) True.intro) (ck_mI h12 (fun v3 w2 q4 h5 => (cq_aload_n 487 rfl 2 dL_law_486 rfl rfl (cq_aload_n 488 rfl 0 dL_law_487 rfl rfl (cq_iload_n 489 rfl 3 dL_law_488 rfl rfl (cq_iconst 490 rfl dL_law_489 rfl (cq_iadd 491 rfl dL_law_490 (cl_sld 492 rfl dL_law_491 hn o1 (cq_callV 495 rfl [.inl (cl_s f (i + 1))] [.inl v3] dL_law_492 cv_L_62 sh_76 rfl rfl (Nat.le_of_ble_eq_true rfl) (And.intro (cl_srng _ _) True.intro) (ck_mI h5 (fun v7 w6 q8 h9 => (cq_icmp_eq 498 rfl 1470 dL_law_495 rfl q4 q8 (fun c10 => (h9.1 c10)) (fun c11 => (cq_iconst 499 rfl dL_law_498 rfl ((h9.2 c11)).elim)))))))))))))))))))))))
set_option maxRecDepth 8000 in
theorem r_L_500 {g : ch_G} {A R : Nat} (hC : ck_Cx g A R) {n : Nat} {f : Nat → Int32} (hn : n < 2147483648) {w : ck_W} {i : Int} (h : (0 ≤ (i + 1) ∧ (i + 1) < (n : Int)) ∧ ((0 ≤ (i + 2) ∧ (i + 2) < (n : Int)) ∧ ((0 ≤ (i + 3) ∧ (i + 3) < (n : Int)) ∧ (ck_CI (ch_C g A R) 11 mX11_walked [.inr (.inr 0), .inl (cl_s f (i + 1)), .inl (cl_s f (i + 2)), .inl (cl_s f (i + 3))] w (fun v5 w4 => ck_CI (ch_C g A R) 11 mX12_walked [.inr (.inr 76), .inl (cl_s f (i + 1)), .inl (cl_s f (i + 2)), .inl (cl_s f (i + 3))] w4 (fun v9 w8 => cq_At (ch_C g A R) (cl_M (ch_C g A R) n f) mL_law 1470 [some (.inr (.inr 102)), some (.inr (.inr 0)), some (.inr (.inr 76)), some (.inl i)] [] w8)))))) : cq_At (ch_C g A R) (cl_M (ch_C g A R) n f) mL_law 500 [some (.inr (.inr 102)), some (.inr (.inr 0)), some (.inr (.inr 76)), some (.inl i)] [] w :=
  cq_in (fun hl => (cq_aload_n 501 rfl 1 dL_law_500 rfl rfl (cq_aload_n 502 rfl 0 dL_law_501 rfl rfl (cq_iload_n 503 rfl 3 dL_law_502 rfl rfl (cq_iconst 504 rfl dL_law_503 rfl (cq_iadd 505 rfl dL_law_504 (have h13 := h; have o1 := h13.1; have h12 := h13.2; (cl_sld 506 rfl dL_law_505 hn o1 (cq_aload_n 507 rfl 0 dL_law_506 rfl rfl (cq_iload_n 508 rfl 3 dL_law_507 rfl rfl (cq_iconst 509 rfl dL_law_508 rfl (cq_iadd 510 rfl dL_law_509 (have h15 := h12; have o2 := h15.1; have h14 := h15.2; (cl_sld 511 rfl dL_law_510 hn o2 (cq_aload_n 512 rfl 0 dL_law_511 rfl rfl (cq_iload_n 513 rfl 3 dL_law_512 rfl rfl (cq_iconst 514 rfl dL_law_513 rfl (cq_iadd 515 rfl dL_law_514 (have h17 := h14; have o3 := h17.1; have h16 := h17.2; (cl_sld 516 rfl dL_law_515 hn o3 (cq_callV 519 rfl [.inl (cl_s f (i + 1)), .inl (cl_s f (i + 2)), .inl (cl_s f (i + 3))] [] dL_law_516 cv_L_63 sh_0 rfl rfl (Nat.le_of_ble_eq_true rfl) (And.intro (cl_srng _ _) (And.intro (cl_srng _ _) (And.intro (cl_srng _ _) True.intro))) (ck_mI h16 (fun v5 w4 q6 h7 => (cq_pop 520 rfl dL_law_519 rfl (cq_aload_n 521 rfl 2 dL_law_520 rfl rfl (cq_aload_n 522 rfl 0 dL_law_521 rfl rfl (cq_iload_n 523 rfl 3 dL_law_522 rfl rfl (cq_iconst 524 rfl dL_law_523 rfl (cq_iadd 525 rfl dL_law_524 (cl_sld 526 rfl dL_law_525 hn o1 (cq_aload_n 527 rfl 0 dL_law_526 rfl rfl (cq_iload_n 528 rfl 3 dL_law_527 rfl rfl (cq_iconst 529 rfl dL_law_528 rfl (cq_iadd 530 rfl dL_law_529 (cl_sld 531 rfl dL_law_530 hn o2 (cq_aload_n 532 rfl 0 dL_law_531 rfl rfl (cq_iload_n 533 rfl 3 dL_law_532 rfl rfl (cq_iconst 534 rfl dL_law_533 rfl (cq_iadd 535 rfl dL_law_534 (cl_sld 536 rfl dL_law_535 hn o3 (cq_callV 539 rfl [.inl (cl_s f (i + 1)), .inl (cl_s f (i + 2)), .inl (cl_s f (i + 3))] [] dL_law_536 cv_L_66 sh_76 rfl rfl (Nat.le_of_ble_eq_true rfl) (And.intro (cl_srng _ _) (And.intro (cl_srng _ _) (And.intro (cl_srng _ _) True.intro))) (ck_mI h7 (fun v9 w8 q10 h11 => (cq_pop 540 rfl dL_law_539 rfl (cq_goto 1470 dL_law_540 rfl h11)))))))))))))))))))))))))))))))))))))))))))))
set_option maxRecDepth 8000 in
theorem r_L_543 {g : ch_G} {A R : Nat} (hC : ck_Cx g A R) {n : Nat} {f : Nat → Int32} (hn : n < 2147483648) {w : ck_W} {i : Int} (h : (0 ≤ (i + 1) ∧ (i + 1) < (n : Int)) ∧ ((0 ≤ (i + 2) ∧ (i + 2) < (n : Int)) ∧ ((0 ≤ (i + 3) ∧ (i + 3) < (n : Int)) ∧ (ck_CI (ch_C g A R) 11 mX11_flat [.inr (.inr 0), .inl (cl_s f (i + 1)), .inl (cl_s f (i + 2)), .inl (cl_s f (i + 3))] w (fun v5 w4 => ck_CI (ch_C g A R) 11 mX12_flat [.inr (.inr 76), .inl (cl_s f (i + 1)), .inl (cl_s f (i + 2)), .inl (cl_s f (i + 3))] w4 (fun v9 w8 => cq_At (ch_C g A R) (cl_M (ch_C g A R) n f) mL_law 1470 [some (.inr (.inr 102)), some (.inr (.inr 0)), some (.inr (.inr 76)), some (.inl i)] [] w8)))))) : cq_At (ch_C g A R) (cl_M (ch_C g A R) n f) mL_law 543 [some (.inr (.inr 102)), some (.inr (.inr 0)), some (.inr (.inr 76)), some (.inl i)] [] w :=
  cq_in (fun hl => (cq_aload_n 544 rfl 1 dL_law_543 rfl rfl (cq_aload_n 545 rfl 0 dL_law_544 rfl rfl (cq_iload_n 546 rfl 3 dL_law_545 rfl rfl (cq_iconst 547 rfl dL_law_546 rfl (cq_iadd 548 rfl dL_law_547 (have h13 := h; have o1 := h13.1; have h12 := h13.2; (cl_sld 549 rfl dL_law_548 hn o1 (cq_aload_n 550 rfl 0 dL_law_549 rfl rfl (cq_iload_n 551 rfl 3 dL_law_550 rfl rfl (cq_iconst 552 rfl dL_law_551 rfl (cq_iadd 553 rfl dL_law_552 (have h15 := h12; have o2 := h15.1; have h14 := h15.2; (cl_sld 554 rfl dL_law_553 hn o2 (cq_aload_n 555 rfl 0 dL_law_554 rfl rfl (cq_iload_n 556 rfl 3 dL_law_555 rfl rfl (cq_iconst 557 rfl dL_law_556 rfl (cq_iadd 558 rfl dL_law_557 (have h17 := h14; have o3 := h17.1; have h16 := h17.2; (cl_sld 559 rfl dL_law_558 hn o3 (cq_callV 562 rfl [.inl (cl_s f (i + 1)), .inl (cl_s f (i + 2)), .inl (cl_s f (i + 3))] [] dL_law_559 cv_L_67 sh_0 rfl rfl (Nat.le_of_ble_eq_true rfl) (And.intro (cl_srng _ _) (And.intro (cl_srng _ _) (And.intro (cl_srng _ _) True.intro))) (ck_mI h16 (fun v5 w4 q6 h7 => (cq_pop 563 rfl dL_law_562 rfl (cq_aload_n 564 rfl 2 dL_law_563 rfl rfl (cq_aload_n 565 rfl 0 dL_law_564 rfl rfl (cq_iload_n 566 rfl 3 dL_law_565 rfl rfl (cq_iconst 567 rfl dL_law_566 rfl (cq_iadd 568 rfl dL_law_567 (cl_sld 569 rfl dL_law_568 hn o1 (cq_aload_n 570 rfl 0 dL_law_569 rfl rfl (cq_iload_n 571 rfl 3 dL_law_570 rfl rfl (cq_iconst 572 rfl dL_law_571 rfl (cq_iadd 573 rfl dL_law_572 (cl_sld 574 rfl dL_law_573 hn o2 (cq_aload_n 575 rfl 0 dL_law_574 rfl rfl (cq_iload_n 576 rfl 3 dL_law_575 rfl rfl (cq_iconst 577 rfl dL_law_576 rfl (cq_iadd 578 rfl dL_law_577 (cl_sld 579 rfl dL_law_578 hn o3 (cq_callV 582 rfl [.inl (cl_s f (i + 1)), .inl (cl_s f (i + 2)), .inl (cl_s f (i + 3))] [] dL_law_579 cv_L_70 sh_76 rfl rfl (Nat.le_of_ble_eq_true rfl) (And.intro (cl_srng _ _) (And.intro (cl_srng _ _) (And.intro (cl_srng _ _) True.intro))) (ck_mI h7 (fun v9 w8 q10 h11 => (cq_pop 583 rfl dL_law_582 rfl (cq_goto 1470 dL_law_583 rfl h11)))))))))))))))))))))))))))))))))))))))))))))
set_option maxRecDepth 8000 in
theorem r_L_586 {g : ch_G} {A R : Nat} (hC : ck_Cx g A R) {n : Nat} {f : Nat → Int32} (hn : n < 2147483648) {w : ck_W} {i : Int} (h : (0 ≤ (i + 1) ∧ (i + 1) < (n : Int)) ∧ ((0 ≤ (i + 2) ∧ (i + 2) < (n : Int)) ∧ ((0 ≤ (i + 3) ∧ (i + 3) < (n : Int)) ∧ ((0 ≤ (i + 4) ∧ (i + 4) < (n : Int)) ∧ ((0 ≤ (i + 5) ∧ (i + 5) < (n : Int)) ∧ (ck_CI (ch_C g A R) 11 mX11_feed [.inr (.inr 0), .inl (cl_s f (i + 1)), .inl (cl_s f (i + 2)), .inl (cl_s f (i + 3)), .inl (cl_s f (i + 4)), .inl (cl_s f (i + 5))] w (fun v7 w6 => ck_CI (ch_C g A R) 11 mX12_feed [.inr (.inr 76), .inl (cl_s f (i + 1)), .inl (cl_s f (i + 2)), .inl (cl_s f (i + 3)), .inl (cl_s f (i + 4)), .inl (cl_s f (i + 5))] w6 (fun v11 w10 => cq_At (ch_C g A R) (cl_M (ch_C g A R) n f) mL_law 1470 [some (.inr (.inr 102)), some (.inr (.inr 0)), some (.inr (.inr 76)), some (.inl i)] [] w10)))))))) : cq_At (ch_C g A R) (cl_M (ch_C g A R) n f) mL_law 586 [some (.inr (.inr 102)), some (.inr (.inr 0)), some (.inr (.inr 76)), some (.inl i)] [] w :=
  cq_in (fun hl => (cq_aload_n 587 rfl 1 dL_law_586 rfl rfl (cq_aload_n 588 rfl 0 dL_law_587 rfl rfl (cq_iload_n 589 rfl 3 dL_law_588 rfl rfl (cq_iconst 590 rfl dL_law_589 rfl (cq_iadd 591 rfl dL_law_590 (have h15 := h; have o1 := h15.1; have h14 := h15.2; (cl_sld 592 rfl dL_law_591 hn o1 (cq_aload_n 593 rfl 0 dL_law_592 rfl rfl (cq_iload_n 594 rfl 3 dL_law_593 rfl rfl (cq_iconst 595 rfl dL_law_594 rfl (cq_iadd 596 rfl dL_law_595 (have h17 := h14; have o2 := h17.1; have h16 := h17.2; (cl_sld 597 rfl dL_law_596 hn o2 (cq_aload_n 598 rfl 0 dL_law_597 rfl rfl (cq_iload_n 599 rfl 3 dL_law_598 rfl rfl (cq_iconst 600 rfl dL_law_599 rfl (cq_iadd 601 rfl dL_law_600 (have h19 := h16; have o3 := h19.1; have h18 := h19.2; (cl_sld 602 rfl dL_law_601 hn o3 (cq_aload_n 603 rfl 0 dL_law_602 rfl rfl (cq_iload_n 604 rfl 3 dL_law_603 rfl rfl (cq_iconst 605 rfl dL_law_604 rfl (cq_iadd 606 rfl dL_law_605 (have h21 := h18; have o4 := h21.1; have h20 := h21.2; (cl_sld 607 rfl dL_law_606 hn o4 (cq_aload_n 608 rfl 0 dL_law_607 rfl rfl (cq_iload_n 609 rfl 3 dL_law_608 rfl rfl (cq_iconst 610 rfl dL_law_609 rfl (cq_iadd 611 rfl dL_law_610 (have h23 := h20; have o5 := h23.1; have h22 := h23.2; (cl_sld 612 rfl dL_law_611 hn o5 (cq_callV 615 rfl [.inl (cl_s f (i + 1)), .inl (cl_s f (i + 2)), .inl (cl_s f (i + 3)), .inl (cl_s f (i + 4)), .inl (cl_s f (i + 5))] [] dL_law_612 cv_L_71 sh_0 rfl rfl (Nat.le_of_ble_eq_true rfl) (And.intro (cl_srng _ _) (And.intro (cl_srng _ _) (And.intro (cl_srng _ _) (And.intro (cl_srng _ _) (And.intro (cl_srng _ _) True.intro))))) (ck_mI h22 (fun v7 w6 q8 h9 => (cq_pop 616 rfl dL_law_615 rfl (cq_aload_n 617 rfl 2 dL_law_616 rfl rfl (cq_aload_n 618 rfl 0 dL_law_617 rfl rfl (cq_iload_n 619 rfl 3 dL_law_618 rfl rfl (cq_iconst 620 rfl dL_law_619 rfl (cq_iadd 621 rfl dL_law_620 (cl_sld 622 rfl dL_law_621 hn o1 (cq_aload_n 623 rfl 0 dL_law_622 rfl rfl (cq_iload_n 624 rfl 3 dL_law_623 rfl rfl (cq_iconst 625 rfl dL_law_624 rfl (cq_iadd 626 rfl dL_law_625 (cl_sld 627 rfl dL_law_626 hn o2 (cq_aload_n 628 rfl 0 dL_law_627 rfl rfl (cq_iload_n 629 rfl 3 dL_law_628 rfl rfl (cq_iconst 630 rfl dL_law_629 rfl (cq_iadd 631 rfl dL_law_630 (cl_sld 632 rfl dL_law_631 hn o3 (cq_aload_n 633 rfl 0 dL_law_632 rfl rfl (cq_iload_n 634 rfl 3 dL_law_633 rfl rfl (cq_iconst 635 rfl dL_law_634 rfl (cq_iadd 636 rfl dL_law_635 (cl_sld 637 rfl dL_law_636 hn o4 (cq_aload_n 638 rfl 0 dL_law_637 rfl rfl (cq_iload_n 639 rfl 3 dL_law_638 rfl rfl (cq_iconst 640 rfl dL_law_639 rfl (cq_iadd 641 rfl dL_law_640 (cl_sld 642 rfl dL_law_641 hn o5 (cq_callV 645 rfl [.inl (cl_s f (i + 1)), .inl (cl_s f (i + 2)), .inl (cl_s f (i + 3)), .inl (cl_s f (i + 4)), .inl (cl_s f (i + 5))] [] dL_law_642 cv_L_75 sh_76 rfl rfl (Nat.le_of_ble_eq_true rfl) (And.intro (cl_srng _ _) (And.intro (cl_srng _ _) (And.intro (cl_srng _ _) (And.intro (cl_srng _ _) (And.intro (cl_srng _ _) True.intro))))) (ck_mI h9 (fun v11 w10 q12 h13 => (cq_pop 646 rfl dL_law_645 rfl (cq_goto 1470 dL_law_646 rfl h13)))))))))))))))))))))))))))))))))))))))))))))))))))))))))))))))))))
set_option maxRecDepth 8000 in
theorem r_L_649 {g : ch_G} {A R : Nat} (hC : ck_Cx g A R) {n : Nat} {f : Nat → Int32} (hn : n < 2147483648) {w : ck_W} {i : Int} (h : (0 ≤ (i + 1) ∧ (i + 1) < (n : Int)) ∧ (ck_CI (ch_C g A R) 11 mX11_end [.inr (.inr 0), .inl (cl_s f (i + 1))] w (fun v3 w2 => ck_CI (ch_C g A R) 11 mX12_end [.inr (.inr 76), .inl (cl_s f (i + 1))] w2 (fun v7 w6 => cq_At (ch_C g A R) (cl_M (ch_C g A R) n f) mL_law 1470 [some (.inr (.inr 102)), some (.inr (.inr 0)), some (.inr (.inr 76)), some (.inl i)] [] w6)))) : cq_At (ch_C g A R) (cl_M (ch_C g A R) n f) mL_law 649 [some (.inr (.inr 102)), some (.inr (.inr 0)), some (.inr (.inr 76)), some (.inl i)] [] w :=
  cq_in (fun hl => (cq_aload_n 650 rfl 1 dL_law_649 rfl rfl (cq_aload_n 651 rfl 0 dL_law_650 rfl rfl (cq_iload_n 652 rfl 3 dL_law_651 rfl rfl (cq_iconst 653 rfl dL_law_652 rfl (cq_iadd 654 rfl dL_law_653 (have h11 := h; have o1 := h11.1; have h10 := h11.2; (cl_sld 655 rfl dL_law_654 hn o1 (cq_callV 658 rfl [.inl (cl_s f (i + 1))] [] dL_law_655 cv_L_76 sh_0 rfl rfl (Nat.le_of_ble_eq_true rfl) (And.intro (cl_srng _ _) True.intro) (ck_mI h10 (fun v3 w2 q4 h5 => (cq_pop 659 rfl dL_law_658 rfl (cq_aload_n 660 rfl 2 dL_law_659 rfl rfl (cq_aload_n 661 rfl 0 dL_law_660 rfl rfl (cq_iload_n 662 rfl 3 dL_law_661 rfl rfl (cq_iconst 663 rfl dL_law_662 rfl (cq_iadd 664 rfl dL_law_663 (cl_sld 665 rfl dL_law_664 hn o1 (cq_callV 668 rfl [.inl (cl_s f (i + 1))] [] dL_law_665 cv_L_79 sh_76 rfl rfl (Nat.le_of_ble_eq_true rfl) (And.intro (cl_srng _ _) True.intro) (ck_mI h5 (fun v7 w6 q8 h9 => (cq_pop 669 rfl dL_law_668 rfl (cq_goto 1470 dL_law_669 rfl h9)))))))))))))))))))))))
set_option maxRecDepth 8000 in
theorem r_L_672 {g : ch_G} {A R : Nat} (hC : ck_Cx g A R) {n : Nat} {f : Nat → Int32} (hn : n < 2147483648) {w : ck_W} {i : Int} (h : ck_CI (ch_C g A R) 11 mX11_reader [.inr (.inr 0)] w (fun v2 w1 => ck_CI (ch_C g A R) 11 mX12_reader [.inr (.inr 76)] w1 (fun v6 w5 => cq_At (ch_C g A R) (cl_M (ch_C g A R) n f) mL_law 1470 [some (.inr (.inr 102)), some (.inr (.inr 0)), some (.inr (.inr 76)), some (.inl i)] [] w5))) : cq_At (ch_C g A R) (cl_M (ch_C g A R) n f) mL_law 672 [some (.inr (.inr 102)), some (.inr (.inr 0)), some (.inr (.inr 76)), some (.inl i)] [] w :=
  cq_in (fun hl => (cq_aload_n 673 rfl 1 dL_law_672 rfl rfl (cq_callV 676 rfl [] [] dL_law_673 cv_L_80 sh_0 rfl rfl (Nat.le_of_ble_eq_true rfl) True.intro (ck_mI h (fun v2 w1 q3 h4 => (cq_pop 677 rfl dL_law_676 rfl (cq_aload_n 678 rfl 2 dL_law_677 rfl rfl (cq_callV 681 rfl [] [] dL_law_678 cv_L_83 sh_76 rfl rfl (Nat.le_of_ble_eq_true rfl) True.intro (ck_mI h4 (fun v6 w5 q7 h8 => (cq_pop 682 rfl dL_law_681 rfl (cq_goto 1470 dL_law_682 rfl h8))))))))))))
set_option maxRecDepth 8000 in
theorem r_L_685 {g : ch_G} {A R : Nat} (hC : ck_Cx g A R) {n : Nat} {f : Nat → Int32} (hn : n < 2147483648) {w : ck_W} {i : Int} (h : (0 ≤ (i + 1) ∧ (i + 1) < (n : Int)) ∧ (ck_CI (ch_C g A R) 11 mX11_fault [.inr (.inr 0), .inl (cl_s f (i + 1))] w (fun v3 w2 => ck_CI (ch_C g A R) 11 mX12_fault [.inr (.inr 76), .inl (cl_s f (i + 1))] w2 (fun v7 w6 => cq_At (ch_C g A R) (cl_M (ch_C g A R) n f) mL_law 1470 [some (.inr (.inr 102)), some (.inr (.inr 0)), some (.inr (.inr 76)), some (.inl i)] [] w6)))) : cq_At (ch_C g A R) (cl_M (ch_C g A R) n f) mL_law 685 [some (.inr (.inr 102)), some (.inr (.inr 0)), some (.inr (.inr 76)), some (.inl i)] [] w :=
  cq_in (fun hl => (cq_aload_n 686 rfl 1 dL_law_685 rfl rfl (cq_aload_n 687 rfl 0 dL_law_686 rfl rfl (cq_iload_n 688 rfl 3 dL_law_687 rfl rfl (cq_iconst 689 rfl dL_law_688 rfl (cq_iadd 690 rfl dL_law_689 (have h11 := h; have o1 := h11.1; have h10 := h11.2; (cl_sld 691 rfl dL_law_690 hn o1 (cq_callV 694 rfl [.inl (cl_s f (i + 1))] [] dL_law_691 cv_L_84 sh_0 rfl rfl (Nat.le_of_ble_eq_true rfl) (And.intro (cl_srng _ _) True.intro) (ck_mI h10 (fun v3 w2 q4 h5 => (cq_pop 695 rfl dL_law_694 rfl (cq_aload_n 696 rfl 2 dL_law_695 rfl rfl (cq_aload_n 697 rfl 0 dL_law_696 rfl rfl (cq_iload_n 698 rfl 3 dL_law_697 rfl rfl (cq_iconst 699 rfl dL_law_698 rfl (cq_iadd 700 rfl dL_law_699 (cl_sld 701 rfl dL_law_700 hn o1 (cq_callV 704 rfl [.inl (cl_s f (i + 1))] [] dL_law_701 cv_L_87 sh_76 rfl rfl (Nat.le_of_ble_eq_true rfl) (And.intro (cl_srng _ _) True.intro) (ck_mI h5 (fun v7 w6 q8 h9 => (cq_pop 705 rfl dL_law_704 rfl (cq_goto 1470 dL_law_705 rfl h9)))))))))))))))))))))))
set_option maxRecDepth 8000 in
theorem r_L_708 {g : ch_G} {A R : Nat} (hC : ck_Cx g A R) {n : Nat} {f : Nat → Int32} (hn : n < 2147483648) {w : ck_W} {i : Int} (h : (0 ≤ (i + 1) ∧ (i + 1) < (n : Int)) ∧ ((0 ≤ (i + 2) ∧ (i + 2) < (n : Int)) ∧ ((0 ≤ (i + 3) ∧ (i + 3) < (n : Int)) ∧ (ck_CI (ch_C g A R) 11 mX11_ink [.inr (.inr 0), .inl (cl_s f (i + 1)), .inl (cl_s f (i + 2)), .inl (cl_s f (i + 3))] w (fun v5 w4 => ck_CI (ch_C g A R) 11 mX12_ink [.inr (.inr 76), .inl (cl_s f (i + 1)), .inl (cl_s f (i + 2)), .inl (cl_s f (i + 3))] w4 (fun v9 w8 => cq_At (ch_C g A R) (cl_M (ch_C g A R) n f) mL_law 1470 [some (.inr (.inr 102)), some (.inr (.inr 0)), some (.inr (.inr 76)), some (.inl i)] [] w8)))))) : cq_At (ch_C g A R) (cl_M (ch_C g A R) n f) mL_law 708 [some (.inr (.inr 102)), some (.inr (.inr 0)), some (.inr (.inr 76)), some (.inl i)] [] w :=
  cq_in (fun hl => (cq_aload_n 709 rfl 1 dL_law_708 rfl rfl (cq_aload_n 710 rfl 0 dL_law_709 rfl rfl (cq_iload_n 711 rfl 3 dL_law_710 rfl rfl (cq_iconst 712 rfl dL_law_711 rfl (cq_iadd 713 rfl dL_law_712 (have h13 := h; have o1 := h13.1; have h12 := h13.2; (cl_sld 714 rfl dL_law_713 hn o1 (cq_aload_n 715 rfl 0 dL_law_714 rfl rfl (cq_iload_n 716 rfl 3 dL_law_715 rfl rfl (cq_iconst 717 rfl dL_law_716 rfl (cq_iadd 718 rfl dL_law_717 (have h15 := h12; have o2 := h15.1; have h14 := h15.2; (cl_sld 719 rfl dL_law_718 hn o2 (cq_aload_n 720 rfl 0 dL_law_719 rfl rfl (cq_iload_n 721 rfl 3 dL_law_720 rfl rfl (cq_iconst 722 rfl dL_law_721 rfl (cq_iadd 723 rfl dL_law_722 (have h17 := h14; have o3 := h17.1; have h16 := h17.2; (cl_sld 724 rfl dL_law_723 hn o3 (cq_callV 727 rfl [.inl (cl_s f (i + 1)), .inl (cl_s f (i + 2)), .inl (cl_s f (i + 3))] [] dL_law_724 cv_L_88 sh_0 rfl rfl (Nat.le_of_ble_eq_true rfl) (And.intro (cl_srng _ _) (And.intro (cl_srng _ _) (And.intro (cl_srng _ _) True.intro))) (ck_mI h16 (fun v5 w4 q6 h7 => (cq_pop 728 rfl dL_law_727 rfl (cq_aload_n 729 rfl 2 dL_law_728 rfl rfl (cq_aload_n 730 rfl 0 dL_law_729 rfl rfl (cq_iload_n 731 rfl 3 dL_law_730 rfl rfl (cq_iconst 732 rfl dL_law_731 rfl (cq_iadd 733 rfl dL_law_732 (cl_sld 734 rfl dL_law_733 hn o1 (cq_aload_n 735 rfl 0 dL_law_734 rfl rfl (cq_iload_n 736 rfl 3 dL_law_735 rfl rfl (cq_iconst 737 rfl dL_law_736 rfl (cq_iadd 738 rfl dL_law_737 (cl_sld 739 rfl dL_law_738 hn o2 (cq_aload_n 740 rfl 0 dL_law_739 rfl rfl (cq_iload_n 741 rfl 3 dL_law_740 rfl rfl (cq_iconst 742 rfl dL_law_741 rfl (cq_iadd 743 rfl dL_law_742 (cl_sld 744 rfl dL_law_743 hn o3 (cq_callV 747 rfl [.inl (cl_s f (i + 1)), .inl (cl_s f (i + 2)), .inl (cl_s f (i + 3))] [] dL_law_744 cv_L_91 sh_76 rfl rfl (Nat.le_of_ble_eq_true rfl) (And.intro (cl_srng _ _) (And.intro (cl_srng _ _) (And.intro (cl_srng _ _) True.intro))) (ck_mI h7 (fun v9 w8 q10 h11 => (cq_pop 748 rfl dL_law_747 rfl (cq_goto 1470 dL_law_748 rfl h11)))))))))))))))))))))))))))))))))))))))))))))
set_option maxRecDepth 8000 in
theorem r_L_751 {g : ch_G} {A R : Nat} (hC : ck_Cx g A R) {n : Nat} {f : Nat → Int32} (hn : n < 2147483648) {w : ck_W} {i : Int} (h : (0 ≤ (i + 1) ∧ (i + 1) < (n : Int)) ∧ ((0 ≤ (i + 2) ∧ (i + 2) < (n : Int)) ∧ ((0 ≤ (i + 3) ∧ (i + 3) < (n : Int)) ∧ (((cl_s f (i + 3)) = 0 → (0 ≤ (i + 4) ∧ (i + 4) < (n : Int)) ∧ (ck_CI (ch_C g A R) 11 mX11_bit [.inr (.inr 0), .inl (cl_s f (i + 1)), .inl (cl_s f (i + 2)), .inl 0, .inl (cl_s f (i + 4))] w (fun v6 w5 => ((cl_s f (i + 3)) = 0 → ck_CI (ch_C g A R) 11 mX12_bit [.inr (.inr 76), .inl (cl_s f (i + 1)), .inl (cl_s f (i + 2)), .inl 0, .inl (cl_s f (i + 4))] w5 (fun v10 w9 => cq_At (ch_C g A R) (cl_M (ch_C g A R) n f) mL_law 1470 [some (.inr (.inr 102)), some (.inr (.inr 0)), some (.inr (.inr 76)), some (.inl i)] [] w9)) ∧ (¬ (cl_s f (i + 3)) = 0 → ck_CI (ch_C g A R) 11 mX12_bit [.inr (.inr 76), .inl (cl_s f (i + 1)), .inl (cl_s f (i + 2)), .inl 1, .inl (cl_s f (i + 4))] w5 (fun v14 w13 => cq_At (ch_C g A R) (cl_M (ch_C g A R) n f) mL_law 1470 [some (.inr (.inr 102)), some (.inr (.inr 0)), some (.inr (.inr 76)), some (.inl i)] [] w13))))) ∧ (¬ (cl_s f (i + 3)) = 0 → (0 ≤ (i + 4) ∧ (i + 4) < (n : Int)) ∧ (ck_CI (ch_C g A R) 11 mX11_bit [.inr (.inr 0), .inl (cl_s f (i + 1)), .inl (cl_s f (i + 2)), .inl 1, .inl (cl_s f (i + 4))] w (fun v21 w20 => ((cl_s f (i + 3)) = 0 → ck_CI (ch_C g A R) 11 mX12_bit [.inr (.inr 76), .inl (cl_s f (i + 1)), .inl (cl_s f (i + 2)), .inl 0, .inl (cl_s f (i + 4))] w20 (fun v25 w24 => cq_At (ch_C g A R) (cl_M (ch_C g A R) n f) mL_law 1470 [some (.inr (.inr 102)), some (.inr (.inr 0)), some (.inr (.inr 76)), some (.inl i)] [] w24)) ∧ (¬ (cl_s f (i + 3)) = 0 → ck_CI (ch_C g A R) 11 mX12_bit [.inr (.inr 76), .inl (cl_s f (i + 1)), .inl (cl_s f (i + 2)), .inl 1, .inl (cl_s f (i + 4))] w20 (fun v29 w28 => cq_At (ch_C g A R) (cl_M (ch_C g A R) n f) mL_law 1470 [some (.inr (.inr 102)), some (.inr (.inr 0)), some (.inr (.inr 76)), some (.inl i)] [] w28))))))))) : cq_At (ch_C g A R) (cl_M (ch_C g A R) n f) mL_law 751 [some (.inr (.inr 102)), some (.inr (.inr 0)), some (.inr (.inr 76)), some (.inl i)] [] w :=
  cq_in (fun hl => (cq_aload_n 752 rfl 1 dL_law_751 rfl rfl (cq_aload_n 753 rfl 0 dL_law_752 rfl rfl (cq_iload_n 754 rfl 3 dL_law_753 rfl rfl (cq_iconst 755 rfl dL_law_754 rfl (cq_iadd 756 rfl dL_law_755 (have h37 := h; have o1 := h37.1; have h36 := h37.2; (cl_sld 757 rfl dL_law_756 hn o1 (cq_aload_n 758 rfl 0 dL_law_757 rfl rfl (cq_iload_n 759 rfl 3 dL_law_758 rfl rfl (cq_iconst 760 rfl dL_law_759 rfl (cq_iadd 761 rfl dL_law_760 (have h39 := h36; have o2 := h39.1; have h38 := h39.2; (cl_sld 762 rfl dL_law_761 hn o2 (cq_aload_n 763 rfl 0 dL_law_762 rfl rfl (cq_iload_n 764 rfl 3 dL_law_763 rfl rfl (cq_iconst 765 rfl dL_law_764 rfl (cq_iadd 766 rfl dL_law_765 (have h41 := h38; have o3 := h41.1; have h40 := h41.2; (cl_sld 767 rfl dL_law_766 hn o3 (cq_if_eq 770 rfl 774 dL_law_767 rfl (cl_srng _ _) (fun c34 => (cq_iconst 775 rfl dL_law_774 rfl (cq_aload_n 776 rfl 0 dL_law_775 rfl rfl (cq_iload_n 777 rfl 3 dL_law_776 rfl rfl (cq_iconst 778 rfl dL_law_777 rfl (cq_iadd 779 rfl dL_law_778 (have h43 := (h40.1 c34); have o4 := h43.1; have h42 := h43.2; (cl_sld 780 rfl dL_law_779 hn o4 (cq_callV 783 rfl [.inl (cl_s f (i + 1)), .inl (cl_s f (i + 2)), .inl 0, .inl (cl_s f (i + 4))] [] dL_law_780 cv_L_92 sh_0 rfl rfl (Nat.le_of_ble_eq_true rfl) (And.intro (cl_srng _ _) (And.intro (cl_srng _ _) (And.intro (show ck_i 0 by decide) (And.intro (cl_srng _ _) True.intro)))) (ck_mI h42 (fun v6 w5 q7 h8 => (cq_pop 784 rfl dL_law_783 rfl (cq_aload_n 785 rfl 2 dL_law_784 rfl rfl (cq_aload_n 786 rfl 0 dL_law_785 rfl rfl (cq_iload_n 787 rfl 3 dL_law_786 rfl rfl (cq_iconst 788 rfl dL_law_787 rfl (cq_iadd 789 rfl dL_law_788 (cl_sld 790 rfl dL_law_789 hn o1 (cq_aload_n 791 rfl 0 dL_law_790 rfl rfl (cq_iload_n 792 rfl 3 dL_law_791 rfl rfl (cq_iconst 793 rfl dL_law_792 rfl (cq_iadd 794 rfl dL_law_793 (cl_sld 795 rfl dL_law_794 hn o2 (cq_aload_n 796 rfl 0 dL_law_795 rfl rfl (cq_iload_n 797 rfl 3 dL_law_796 rfl rfl (cq_iconst 798 rfl dL_law_797 rfl (cq_iadd 799 rfl dL_law_798 (cl_sld 800 rfl dL_law_799 hn o3 (cq_if_eq 803 rfl 807 dL_law_800 rfl (cl_srng _ _) (fun c17 => (cq_iconst 808 rfl dL_law_807 rfl (cq_aload_n 809 rfl 0 dL_law_808 rfl rfl (cq_iload_n 810 rfl 3 dL_law_809 rfl rfl (cq_iconst 811 rfl dL_law_810 rfl (cq_iadd 812 rfl dL_law_811 (cl_sld 813 rfl dL_law_812 hn o4 (cq_callV 816 rfl [.inl (cl_s f (i + 1)), .inl (cl_s f (i + 2)), .inl 0, .inl (cl_s f (i + 4))] [] dL_law_813 cv_L_96 sh_76 rfl rfl (Nat.le_of_ble_eq_true rfl) (And.intro (cl_srng _ _) (And.intro (cl_srng _ _) (And.intro (show ck_i 0 by decide) (And.intro (cl_srng _ _) True.intro)))) (ck_mI (h8.1 c17) (fun v10 w9 q11 h12 => (cq_pop 817 rfl dL_law_816 rfl (cq_goto 1470 dL_law_817 rfl h12)))))))))))) (fun c18 => (cq_iconst 804 rfl dL_law_803 rfl (cq_goto 808 dL_law_804 rfl (cq_aload_n 809 rfl 0 dL_law_808 rfl rfl (cq_iload_n 810 rfl 3 dL_law_809 rfl rfl (cq_iconst 811 rfl dL_law_810 rfl (cq_iadd 812 rfl dL_law_811 (cl_sld 813 rfl dL_law_812 hn o4 (cq_callV 816 rfl [.inl (cl_s f (i + 1)), .inl (cl_s f (i + 2)), .inl 1, .inl (cl_s f (i + 4))] [] dL_law_813 cv_L_96 sh_76 rfl rfl (Nat.le_of_ble_eq_true rfl) (And.intro (cl_srng _ _) (And.intro (cl_srng _ _) (And.intro (show ck_i 1 by decide) (And.intro (cl_srng _ _) True.intro)))) (ck_mI (h8.2 c18) (fun v14 w13 q15 h16 => (cq_pop 817 rfl dL_law_816 rfl (cq_goto 1470 dL_law_817 rfl h16)))))))))))))))))))))))))))))))))))))))))) (fun c35 => (cq_iconst 771 rfl dL_law_770 rfl (cq_goto 775 dL_law_771 rfl (cq_aload_n 776 rfl 0 dL_law_775 rfl rfl (cq_iload_n 777 rfl 3 dL_law_776 rfl rfl (cq_iconst 778 rfl dL_law_777 rfl (cq_iadd 779 rfl dL_law_778 (have h45 := (h40.2 c35); have o19 := h45.1; have h44 := h45.2; (cl_sld 780 rfl dL_law_779 hn o19 (cq_callV 783 rfl [.inl (cl_s f (i + 1)), .inl (cl_s f (i + 2)), .inl 1, .inl (cl_s f (i + 4))] [] dL_law_780 cv_L_92 sh_0 rfl rfl (Nat.le_of_ble_eq_true rfl) (And.intro (cl_srng _ _) (And.intro (cl_srng _ _) (And.intro (show ck_i 1 by decide) (And.intro (cl_srng _ _) True.intro)))) (ck_mI h44 (fun v21 w20 q22 h23 => (cq_pop 784 rfl dL_law_783 rfl (cq_aload_n 785 rfl 2 dL_law_784 rfl rfl (cq_aload_n 786 rfl 0 dL_law_785 rfl rfl (cq_iload_n 787 rfl 3 dL_law_786 rfl rfl (cq_iconst 788 rfl dL_law_787 rfl (cq_iadd 789 rfl dL_law_788 (cl_sld 790 rfl dL_law_789 hn o1 (cq_aload_n 791 rfl 0 dL_law_790 rfl rfl (cq_iload_n 792 rfl 3 dL_law_791 rfl rfl (cq_iconst 793 rfl dL_law_792 rfl (cq_iadd 794 rfl dL_law_793 (cl_sld 795 rfl dL_law_794 hn o2 (cq_aload_n 796 rfl 0 dL_law_795 rfl rfl (cq_iload_n 797 rfl 3 dL_law_796 rfl rfl (cq_iconst 798 rfl dL_law_797 rfl (cq_iadd 799 rfl dL_law_798 (cl_sld 800 rfl dL_law_799 hn o3 (cq_if_eq 803 rfl 807 dL_law_800 rfl (cl_srng _ _) (fun c32 => (cq_iconst 808 rfl dL_law_807 rfl (cq_aload_n 809 rfl 0 dL_law_808 rfl rfl (cq_iload_n 810 rfl 3 dL_law_809 rfl rfl (cq_iconst 811 rfl dL_law_810 rfl (cq_iadd 812 rfl dL_law_811 (cl_sld 813 rfl dL_law_812 hn o19 (cq_callV 816 rfl [.inl (cl_s f (i + 1)), .inl (cl_s f (i + 2)), .inl 0, .inl (cl_s f (i + 4))] [] dL_law_813 cv_L_96 sh_76 rfl rfl (Nat.le_of_ble_eq_true rfl) (And.intro (cl_srng _ _) (And.intro (cl_srng _ _) (And.intro (show ck_i 0 by decide) (And.intro (cl_srng _ _) True.intro)))) (ck_mI (h23.1 c32) (fun v25 w24 q26 h27 => (cq_pop 817 rfl dL_law_816 rfl (cq_goto 1470 dL_law_817 rfl h27)))))))))))) (fun c33 => (cq_iconst 804 rfl dL_law_803 rfl (cq_goto 808 dL_law_804 rfl (cq_aload_n 809 rfl 0 dL_law_808 rfl rfl (cq_iload_n 810 rfl 3 dL_law_809 rfl rfl (cq_iconst 811 rfl dL_law_810 rfl (cq_iadd 812 rfl dL_law_811 (cl_sld 813 rfl dL_law_812 hn o19 (cq_callV 816 rfl [.inl (cl_s f (i + 1)), .inl (cl_s f (i + 2)), .inl 1, .inl (cl_s f (i + 4))] [] dL_law_813 cv_L_96 sh_76 rfl rfl (Nat.le_of_ble_eq_true rfl) (And.intro (cl_srng _ _) (And.intro (cl_srng _ _) (And.intro (show ck_i 1 by decide) (And.intro (cl_srng _ _) True.intro)))) (ck_mI (h23.2 c33) (fun v29 w28 q30 h31 => (cq_pop 817 rfl dL_law_816 rfl (cq_goto 1470 dL_law_817 rfl h31))))))))))))))))))))))))))))))))))))))))))))))))))))))))))))))))
set_option maxRecDepth 8000 in
theorem r_L_820 {g : ch_G} {A R : Nat} (hC : ck_Cx g A R) {n : Nat} {f : Nat → Int32} (hn : n < 2147483648) {w : ck_W} {i : Int} (h : (0 ≤ (i + 1) ∧ (i + 1) < (n : Int)) ∧ ((0 ≤ (i + 2) ∧ (i + 2) < (n : Int)) ∧ (ck_CI (ch_C g A R) 11 mX11_learnt [.inr (.inr 0), .inl (cl_s f (i + 1)), .inl (cl_s f (i + 2))] w (fun v4 w3 => ck_CI (ch_C g A R) 11 mX12_learnt [.inr (.inr 76), .inl (cl_s f (i + 1)), .inl (cl_s f (i + 2))] w3 (fun v8 w7 => cq_At (ch_C g A R) (cl_M (ch_C g A R) n f) mL_law 1470 [some (.inr (.inr 102)), some (.inr (.inr 0)), some (.inr (.inr 76)), some (.inl i)] [] w7))))) : cq_At (ch_C g A R) (cl_M (ch_C g A R) n f) mL_law 820 [some (.inr (.inr 102)), some (.inr (.inr 0)), some (.inr (.inr 76)), some (.inl i)] [] w :=
  cq_in (fun hl => (cq_aload_n 821 rfl 1 dL_law_820 rfl rfl (cq_aload_n 822 rfl 0 dL_law_821 rfl rfl (cq_iload_n 823 rfl 3 dL_law_822 rfl rfl (cq_iconst 824 rfl dL_law_823 rfl (cq_iadd 825 rfl dL_law_824 (have h12 := h; have o1 := h12.1; have h11 := h12.2; (cl_sld 826 rfl dL_law_825 hn o1 (cq_aload_n 827 rfl 0 dL_law_826 rfl rfl (cq_iload_n 828 rfl 3 dL_law_827 rfl rfl (cq_iconst 829 rfl dL_law_828 rfl (cq_iadd 830 rfl dL_law_829 (have h14 := h11; have o2 := h14.1; have h13 := h14.2; (cl_sld 831 rfl dL_law_830 hn o2 (cq_callV 834 rfl [.inl (cl_s f (i + 1)), .inl (cl_s f (i + 2))] [] dL_law_831 cv_L_97 sh_0 rfl rfl (Nat.le_of_ble_eq_true rfl) (And.intro (cl_srng _ _) (And.intro (cl_srng _ _) True.intro)) (ck_mI h13 (fun v4 w3 q5 h6 => (cq_pop 835 rfl dL_law_834 rfl (cq_aload_n 836 rfl 2 dL_law_835 rfl rfl (cq_aload_n 837 rfl 0 dL_law_836 rfl rfl (cq_iload_n 838 rfl 3 dL_law_837 rfl rfl (cq_iconst 839 rfl dL_law_838 rfl (cq_iadd 840 rfl dL_law_839 (cl_sld 841 rfl dL_law_840 hn o1 (cq_aload_n 842 rfl 0 dL_law_841 rfl rfl (cq_iload_n 843 rfl 3 dL_law_842 rfl rfl (cq_iconst 844 rfl dL_law_843 rfl (cq_iadd 845 rfl dL_law_844 (cl_sld 846 rfl dL_law_845 hn o2 (cq_callV 849 rfl [.inl (cl_s f (i + 1)), .inl (cl_s f (i + 2))] [] dL_law_846 cv_L_100 sh_76 rfl rfl (Nat.le_of_ble_eq_true rfl) (And.intro (cl_srng _ _) (And.intro (cl_srng _ _) True.intro)) (ck_mI h6 (fun v8 w7 q9 h10 => (cq_pop 850 rfl dL_law_849 rfl (cq_goto 1470 dL_law_850 rfl h10))))))))))))))))))))))))))))))))))
set_option maxRecDepth 8000 in
theorem r_L_853 {g : ch_G} {A R : Nat} (hC : ck_Cx g A R) {n : Nat} {f : Nat → Int32} (hn : n < 2147483648) {w : ck_W} {i : Int} (h : (0 ≤ (i + 1) ∧ (i + 1) < (n : Int)) ∧ ((0 ≤ (i + 2) ∧ (i + 2) < (n : Int)) ∧ (((cl_s f (i + 2)) = 0 → (0 ≤ (i + 3) ∧ (i + 3) < (n : Int)) ∧ (ck_CI (ch_C g A R) 11 mX11_right [.inr (.inr 0), .inl (cl_s f (i + 1)), .inl 0, .inl (cl_s f (i + 3))] w (fun v5 w4 => ((cl_s f (i + 2)) = 0 → ck_CI (ch_C g A R) 11 mX12_right [.inr (.inr 76), .inl (cl_s f (i + 1)), .inl 0, .inl (cl_s f (i + 3))] w4 (fun v9 w8 => cq_At (ch_C g A R) (cl_M (ch_C g A R) n f) mL_law 1470 [some (.inr (.inr 102)), some (.inr (.inr 0)), some (.inr (.inr 76)), some (.inl i)] [] w8)) ∧ (¬ (cl_s f (i + 2)) = 0 → ck_CI (ch_C g A R) 11 mX12_right [.inr (.inr 76), .inl (cl_s f (i + 1)), .inl 1, .inl (cl_s f (i + 3))] w4 (fun v13 w12 => cq_At (ch_C g A R) (cl_M (ch_C g A R) n f) mL_law 1470 [some (.inr (.inr 102)), some (.inr (.inr 0)), some (.inr (.inr 76)), some (.inl i)] [] w12))))) ∧ (¬ (cl_s f (i + 2)) = 0 → (0 ≤ (i + 3) ∧ (i + 3) < (n : Int)) ∧ (ck_CI (ch_C g A R) 11 mX11_right [.inr (.inr 0), .inl (cl_s f (i + 1)), .inl 1, .inl (cl_s f (i + 3))] w (fun v20 w19 => ((cl_s f (i + 2)) = 0 → ck_CI (ch_C g A R) 11 mX12_right [.inr (.inr 76), .inl (cl_s f (i + 1)), .inl 0, .inl (cl_s f (i + 3))] w19 (fun v24 w23 => cq_At (ch_C g A R) (cl_M (ch_C g A R) n f) mL_law 1470 [some (.inr (.inr 102)), some (.inr (.inr 0)), some (.inr (.inr 76)), some (.inl i)] [] w23)) ∧ (¬ (cl_s f (i + 2)) = 0 → ck_CI (ch_C g A R) 11 mX12_right [.inr (.inr 76), .inl (cl_s f (i + 1)), .inl 1, .inl (cl_s f (i + 3))] w19 (fun v28 w27 => cq_At (ch_C g A R) (cl_M (ch_C g A R) n f) mL_law 1470 [some (.inr (.inr 102)), some (.inr (.inr 0)), some (.inr (.inr 76)), some (.inl i)] [] w27)))))))) : cq_At (ch_C g A R) (cl_M (ch_C g A R) n f) mL_law 853 [some (.inr (.inr 102)), some (.inr (.inr 0)), some (.inr (.inr 76)), some (.inl i)] [] w :=
  cq_in (fun hl => (cq_aload_n 854 rfl 1 dL_law_853 rfl rfl (cq_aload_n 855 rfl 0 dL_law_854 rfl rfl (cq_iload_n 856 rfl 3 dL_law_855 rfl rfl (cq_iconst 857 rfl dL_law_856 rfl (cq_iadd 858 rfl dL_law_857 (have h36 := h; have o1 := h36.1; have h35 := h36.2; (cl_sld 859 rfl dL_law_858 hn o1 (cq_aload_n 860 rfl 0 dL_law_859 rfl rfl (cq_iload_n 861 rfl 3 dL_law_860 rfl rfl (cq_iconst 862 rfl dL_law_861 rfl (cq_iadd 863 rfl dL_law_862 (have h38 := h35; have o2 := h38.1; have h37 := h38.2; (cl_sld 864 rfl dL_law_863 hn o2 (cq_if_eq 867 rfl 871 dL_law_864 rfl (cl_srng _ _) (fun c33 => (cq_iconst 872 rfl dL_law_871 rfl (cq_aload_n 873 rfl 0 dL_law_872 rfl rfl (cq_iload_n 874 rfl 3 dL_law_873 rfl rfl (cq_iconst 875 rfl dL_law_874 rfl (cq_iadd 876 rfl dL_law_875 (have h40 := (h37.1 c33); have o3 := h40.1; have h39 := h40.2; (cl_sld 877 rfl dL_law_876 hn o3 (cq_callV 880 rfl [.inl (cl_s f (i + 1)), .inl 0, .inl (cl_s f (i + 3))] [] dL_law_877 cv_L_101 sh_0 rfl rfl (Nat.le_of_ble_eq_true rfl) (And.intro (cl_srng _ _) (And.intro (show ck_i 0 by decide) (And.intro (cl_srng _ _) True.intro))) (ck_mI h39 (fun v5 w4 q6 h7 => (cq_pop 881 rfl dL_law_880 rfl (cq_aload_n 882 rfl 2 dL_law_881 rfl rfl (cq_aload_n 883 rfl 0 dL_law_882 rfl rfl (cq_iload_n 884 rfl 3 dL_law_883 rfl rfl (cq_iconst 885 rfl dL_law_884 rfl (cq_iadd 886 rfl dL_law_885 (cl_sld 887 rfl dL_law_886 hn o1 (cq_aload_n 888 rfl 0 dL_law_887 rfl rfl (cq_iload_n 889 rfl 3 dL_law_888 rfl rfl (cq_iconst 890 rfl dL_law_889 rfl (cq_iadd 891 rfl dL_law_890 (cl_sld 892 rfl dL_law_891 hn o2 (cq_if_eq 895 rfl 899 dL_law_892 rfl (cl_srng _ _) (fun c16 => (cq_iconst 900 rfl dL_law_899 rfl (cq_aload_n 901 rfl 0 dL_law_900 rfl rfl (cq_iload_n 902 rfl 3 dL_law_901 rfl rfl (cq_iconst 903 rfl dL_law_902 rfl (cq_iadd 904 rfl dL_law_903 (cl_sld 905 rfl dL_law_904 hn o3 (cq_callV 908 rfl [.inl (cl_s f (i + 1)), .inl 0, .inl (cl_s f (i + 3))] [] dL_law_905 cv_L_105 sh_76 rfl rfl (Nat.le_of_ble_eq_true rfl) (And.intro (cl_srng _ _) (And.intro (show ck_i 0 by decide) (And.intro (cl_srng _ _) True.intro))) (ck_mI (h7.1 c16) (fun v9 w8 q10 h11 => (cq_pop 909 rfl dL_law_908 rfl (cq_goto 1470 dL_law_909 rfl h11)))))))))))) (fun c17 => (cq_iconst 896 rfl dL_law_895 rfl (cq_goto 900 dL_law_896 rfl (cq_aload_n 901 rfl 0 dL_law_900 rfl rfl (cq_iload_n 902 rfl 3 dL_law_901 rfl rfl (cq_iconst 903 rfl dL_law_902 rfl (cq_iadd 904 rfl dL_law_903 (cl_sld 905 rfl dL_law_904 hn o3 (cq_callV 908 rfl [.inl (cl_s f (i + 1)), .inl 1, .inl (cl_s f (i + 3))] [] dL_law_905 cv_L_105 sh_76 rfl rfl (Nat.le_of_ble_eq_true rfl) (And.intro (cl_srng _ _) (And.intro (show ck_i 1 by decide) (And.intro (cl_srng _ _) True.intro))) (ck_mI (h7.2 c17) (fun v13 w12 q14 h15 => (cq_pop 909 rfl dL_law_908 rfl (cq_goto 1470 dL_law_909 rfl h15))))))))))))))))))))))))))))))))))))) (fun c34 => (cq_iconst 868 rfl dL_law_867 rfl (cq_goto 872 dL_law_868 rfl (cq_aload_n 873 rfl 0 dL_law_872 rfl rfl (cq_iload_n 874 rfl 3 dL_law_873 rfl rfl (cq_iconst 875 rfl dL_law_874 rfl (cq_iadd 876 rfl dL_law_875 (have h42 := (h37.2 c34); have o18 := h42.1; have h41 := h42.2; (cl_sld 877 rfl dL_law_876 hn o18 (cq_callV 880 rfl [.inl (cl_s f (i + 1)), .inl 1, .inl (cl_s f (i + 3))] [] dL_law_877 cv_L_101 sh_0 rfl rfl (Nat.le_of_ble_eq_true rfl) (And.intro (cl_srng _ _) (And.intro (show ck_i 1 by decide) (And.intro (cl_srng _ _) True.intro))) (ck_mI h41 (fun v20 w19 q21 h22 => (cq_pop 881 rfl dL_law_880 rfl (cq_aload_n 882 rfl 2 dL_law_881 rfl rfl (cq_aload_n 883 rfl 0 dL_law_882 rfl rfl (cq_iload_n 884 rfl 3 dL_law_883 rfl rfl (cq_iconst 885 rfl dL_law_884 rfl (cq_iadd 886 rfl dL_law_885 (cl_sld 887 rfl dL_law_886 hn o1 (cq_aload_n 888 rfl 0 dL_law_887 rfl rfl (cq_iload_n 889 rfl 3 dL_law_888 rfl rfl (cq_iconst 890 rfl dL_law_889 rfl (cq_iadd 891 rfl dL_law_890 (cl_sld 892 rfl dL_law_891 hn o2 (cq_if_eq 895 rfl 899 dL_law_892 rfl (cl_srng _ _) (fun c31 => (cq_iconst 900 rfl dL_law_899 rfl (cq_aload_n 901 rfl 0 dL_law_900 rfl rfl (cq_iload_n 902 rfl 3 dL_law_901 rfl rfl (cq_iconst 903 rfl dL_law_902 rfl (cq_iadd 904 rfl dL_law_903 (cl_sld 905 rfl dL_law_904 hn o18 (cq_callV 908 rfl [.inl (cl_s f (i + 1)), .inl 0, .inl (cl_s f (i + 3))] [] dL_law_905 cv_L_105 sh_76 rfl rfl (Nat.le_of_ble_eq_true rfl) (And.intro (cl_srng _ _) (And.intro (show ck_i 0 by decide) (And.intro (cl_srng _ _) True.intro))) (ck_mI (h22.1 c31) (fun v24 w23 q25 h26 => (cq_pop 909 rfl dL_law_908 rfl (cq_goto 1470 dL_law_909 rfl h26)))))))))))) (fun c32 => (cq_iconst 896 rfl dL_law_895 rfl (cq_goto 900 dL_law_896 rfl (cq_aload_n 901 rfl 0 dL_law_900 rfl rfl (cq_iload_n 902 rfl 3 dL_law_901 rfl rfl (cq_iconst 903 rfl dL_law_902 rfl (cq_iadd 904 rfl dL_law_903 (cl_sld 905 rfl dL_law_904 hn o18 (cq_callV 908 rfl [.inl (cl_s f (i + 1)), .inl 1, .inl (cl_s f (i + 3))] [] dL_law_905 cv_L_105 sh_76 rfl rfl (Nat.le_of_ble_eq_true rfl) (And.intro (cl_srng _ _) (And.intro (show ck_i 1 by decide) (And.intro (cl_srng _ _) True.intro))) (ck_mI (h22.2 c32) (fun v28 w27 q29 h30 => (cq_pop 909 rfl dL_law_908 rfl (cq_goto 1470 dL_law_909 rfl h30)))))))))))))))))))))))))))))))))))))))))))))))))))))
set_option maxRecDepth 8000 in
theorem r_L_912 {g : ch_G} {A R : Nat} (hC : ck_Cx g A R) {n : Nat} {f : Nat → Int32} (hn : n < 2147483648) {w : ck_W} {i : Int} (h : (0 ≤ (i + 1) ∧ (i + 1) < (n : Int)) ∧ ((0 ≤ (i + 2) ∧ (i + 2) < (n : Int)) ∧ (ck_CI (ch_C g A R) 11 mX11_letter [.inr (.inr 0), .inl (cl_s f (i + 1)), .inl (cl_s f (i + 2))] w (fun v4 w3 => ck_CI (ch_C g A R) 11 mX12_letter [.inr (.inr 76), .inl (cl_s f (i + 1)), .inl (cl_s f (i + 2))] w3 (fun v8 w7 => cq_At (ch_C g A R) (cl_M (ch_C g A R) n f) mL_law 1470 [some (.inr (.inr 102)), some (.inr (.inr 0)), some (.inr (.inr 76)), some (.inl i)] [] w7))))) : cq_At (ch_C g A R) (cl_M (ch_C g A R) n f) mL_law 912 [some (.inr (.inr 102)), some (.inr (.inr 0)), some (.inr (.inr 76)), some (.inl i)] [] w :=
  cq_in (fun hl => (cq_aload_n 913 rfl 1 dL_law_912 rfl rfl (cq_aload_n 914 rfl 0 dL_law_913 rfl rfl (cq_iload_n 915 rfl 3 dL_law_914 rfl rfl (cq_iconst 916 rfl dL_law_915 rfl (cq_iadd 917 rfl dL_law_916 (have h12 := h; have o1 := h12.1; have h11 := h12.2; (cl_sld 918 rfl dL_law_917 hn o1 (cq_aload_n 919 rfl 0 dL_law_918 rfl rfl (cq_iload_n 920 rfl 3 dL_law_919 rfl rfl (cq_iconst 921 rfl dL_law_920 rfl (cq_iadd 922 rfl dL_law_921 (have h14 := h11; have o2 := h14.1; have h13 := h14.2; (cl_sld 923 rfl dL_law_922 hn o2 (cq_callV 926 rfl [.inl (cl_s f (i + 1)), .inl (cl_s f (i + 2))] [] dL_law_923 cv_L_106 sh_0 rfl rfl (Nat.le_of_ble_eq_true rfl) (And.intro (cl_srng _ _) (And.intro (cl_srng _ _) True.intro)) (ck_mI h13 (fun v4 w3 q5 h6 => (cq_pop 927 rfl dL_law_926 rfl (cq_aload_n 928 rfl 2 dL_law_927 rfl rfl (cq_aload_n 929 rfl 0 dL_law_928 rfl rfl (cq_iload_n 930 rfl 3 dL_law_929 rfl rfl (cq_iconst 931 rfl dL_law_930 rfl (cq_iadd 932 rfl dL_law_931 (cl_sld 933 rfl dL_law_932 hn o1 (cq_aload_n 934 rfl 0 dL_law_933 rfl rfl (cq_iload_n 935 rfl 3 dL_law_934 rfl rfl (cq_iconst 936 rfl dL_law_935 rfl (cq_iadd 937 rfl dL_law_936 (cl_sld 938 rfl dL_law_937 hn o2 (cq_callV 941 rfl [.inl (cl_s f (i + 1)), .inl (cl_s f (i + 2))] [] dL_law_938 cv_L_109 sh_76 rfl rfl (Nat.le_of_ble_eq_true rfl) (And.intro (cl_srng _ _) (And.intro (cl_srng _ _) True.intro)) (ck_mI h6 (fun v8 w7 q9 h10 => (cq_pop 942 rfl dL_law_941 rfl (cq_goto 1470 dL_law_942 rfl h10))))))))))))))))))))))))))))))))))
set_option maxRecDepth 8000 in
theorem r_L_945 {g : ch_G} {A R : Nat} (hC : ck_Cx g A R) {n : Nat} {f : Nat → Int32} (hn : n < 2147483648) {w : ck_W} {i : Int} (h : (0 ≤ (i + 1) ∧ (i + 1) < (n : Int)) ∧ ((0 ≤ (i + 2) ∧ (i + 2) < (n : Int)) ∧ ((0 ≤ (i + 3) ∧ (i + 3) < (n : Int)) ∧ ((0 ≤ (i + 4) ∧ (i + 4) < (n : Int)) ∧ (ck_CI (ch_C g A R) 11 mX11_word [.inr (.inr 0), .inl (cl_s f (i + 1)), .inl (cl_s f (i + 2)), .inl (cl_s f (i + 3)), .inl (cl_s f (i + 4))] w (fun v6 w5 => ck_CI (ch_C g A R) 11 mX12_word [.inr (.inr 76), .inl (cl_s f (i + 1)), .inl (cl_s f (i + 2)), .inl (cl_s f (i + 3)), .inl (cl_s f (i + 4))] w5 (fun v10 w9 => cq_At (ch_C g A R) (cl_M (ch_C g A R) n f) mL_law 1470 [some (.inr (.inr 102)), some (.inr (.inr 0)), some (.inr (.inr 76)), some (.inl i)] [] w9))))))) : cq_At (ch_C g A R) (cl_M (ch_C g A R) n f) mL_law 945 [some (.inr (.inr 102)), some (.inr (.inr 0)), some (.inr (.inr 76)), some (.inl i)] [] w :=
  cq_in (fun hl => (cq_aload_n 946 rfl 1 dL_law_945 rfl rfl (cq_aload_n 947 rfl 0 dL_law_946 rfl rfl (cq_iload_n 948 rfl 3 dL_law_947 rfl rfl (cq_iconst 949 rfl dL_law_948 rfl (cq_iadd 950 rfl dL_law_949 (have h14 := h; have o1 := h14.1; have h13 := h14.2; (cl_sld 951 rfl dL_law_950 hn o1 (cq_aload_n 952 rfl 0 dL_law_951 rfl rfl (cq_iload_n 953 rfl 3 dL_law_952 rfl rfl (cq_iconst 954 rfl dL_law_953 rfl (cq_iadd 955 rfl dL_law_954 (have h16 := h13; have o2 := h16.1; have h15 := h16.2; (cl_sld 956 rfl dL_law_955 hn o2 (cq_aload_n 957 rfl 0 dL_law_956 rfl rfl (cq_iload_n 958 rfl 3 dL_law_957 rfl rfl (cq_iconst 959 rfl dL_law_958 rfl (cq_iadd 960 rfl dL_law_959 (have h18 := h15; have o3 := h18.1; have h17 := h18.2; (cl_sld 961 rfl dL_law_960 hn o3 (cq_aload_n 962 rfl 0 dL_law_961 rfl rfl (cq_iload_n 963 rfl 3 dL_law_962 rfl rfl (cq_iconst 964 rfl dL_law_963 rfl (cq_iadd 965 rfl dL_law_964 (have h20 := h17; have o4 := h20.1; have h19 := h20.2; (cl_sld 966 rfl dL_law_965 hn o4 (cq_callV 969 rfl [.inl (cl_s f (i + 1)), .inl (cl_s f (i + 2)), .inl (cl_s f (i + 3)), .inl (cl_s f (i + 4))] [] dL_law_966 cv_L_110 sh_0 rfl rfl (Nat.le_of_ble_eq_true rfl) (And.intro (cl_srng _ _) (And.intro (cl_srng _ _) (And.intro (cl_srng _ _) (And.intro (cl_srng _ _) True.intro)))) (ck_mI h19 (fun v6 w5 q7 h8 => (cq_pop 970 rfl dL_law_969 rfl (cq_aload_n 971 rfl 2 dL_law_970 rfl rfl (cq_aload_n 972 rfl 0 dL_law_971 rfl rfl (cq_iload_n 973 rfl 3 dL_law_972 rfl rfl (cq_iconst 974 rfl dL_law_973 rfl (cq_iadd 975 rfl dL_law_974 (cl_sld 976 rfl dL_law_975 hn o1 (cq_aload_n 977 rfl 0 dL_law_976 rfl rfl (cq_iload_n 978 rfl 3 dL_law_977 rfl rfl (cq_iconst 979 rfl dL_law_978 rfl (cq_iadd 980 rfl dL_law_979 (cl_sld 981 rfl dL_law_980 hn o2 (cq_aload_n 982 rfl 0 dL_law_981 rfl rfl (cq_iload_n 983 rfl 3 dL_law_982 rfl rfl (cq_iconst 984 rfl dL_law_983 rfl (cq_iadd 985 rfl dL_law_984 (cl_sld 986 rfl dL_law_985 hn o3 (cq_aload_n 987 rfl 0 dL_law_986 rfl rfl (cq_iload_n 988 rfl 3 dL_law_987 rfl rfl (cq_iconst 989 rfl dL_law_988 rfl (cq_iadd 990 rfl dL_law_989 (cl_sld 991 rfl dL_law_990 hn o4 (cq_callV 994 rfl [.inl (cl_s f (i + 1)), .inl (cl_s f (i + 2)), .inl (cl_s f (i + 3)), .inl (cl_s f (i + 4))] [] dL_law_991 cv_L_114 sh_76 rfl rfl (Nat.le_of_ble_eq_true rfl) (And.intro (cl_srng _ _) (And.intro (cl_srng _ _) (And.intro (cl_srng _ _) (And.intro (cl_srng _ _) True.intro)))) (ck_mI h8 (fun v10 w9 q11 h12 => (cq_pop 995 rfl dL_law_994 rfl (cq_goto 1470 dL_law_995 rfl h12))))))))))))))))))))))))))))))))))))))))))))))))))))))))
set_option maxRecDepth 8000 in
theorem r_L_998 {g : ch_G} {A R : Nat} (hC : ck_Cx g A R) {n : Nat} {f : Nat → Int32} (hn : n < 2147483648) {w : ck_W} {i : Int} (h : (0 ≤ (i + 1) ∧ (i + 1) < (n : Int)) ∧ ((0 ≤ (i + 2) ∧ (i + 2) < (n : Int)) ∧ (ck_CI (ch_C g A R) 11 mX11_chances [.inr (.inr 0), .inl (cl_s f (i + 1)), .inl (cl_s f (i + 2))] w (fun v4 w3 => ck_CI (ch_C g A R) 11 mX12_chances [.inr (.inr 76), .inl (cl_s f (i + 1)), .inl (cl_s f (i + 2))] w3 (fun v8 w7 => cq_At (ch_C g A R) (cl_M (ch_C g A R) n f) mL_law 1470 [some (.inr (.inr 102)), some (.inr (.inr 0)), some (.inr (.inr 76)), some (.inl i)] [] w7))))) : cq_At (ch_C g A R) (cl_M (ch_C g A R) n f) mL_law 998 [some (.inr (.inr 102)), some (.inr (.inr 0)), some (.inr (.inr 76)), some (.inl i)] [] w :=
  cq_in (fun hl => (cq_aload_n 999 rfl 1 dL_law_998 rfl rfl (cq_aload_n 1000 rfl 0 dL_law_999 rfl rfl (cq_iload_n 1001 rfl 3 dL_law_1000 rfl rfl (cq_iconst 1002 rfl dL_law_1001 rfl (cq_iadd 1003 rfl dL_law_1002 (have h12 := h; have o1 := h12.1; have h11 := h12.2; (cl_sld 1004 rfl dL_law_1003 hn o1 (cq_aload_n 1005 rfl 0 dL_law_1004 rfl rfl (cq_iload_n 1006 rfl 3 dL_law_1005 rfl rfl (cq_iconst 1007 rfl dL_law_1006 rfl (cq_iadd 1008 rfl dL_law_1007 (have h14 := h11; have o2 := h14.1; have h13 := h14.2; (cl_sld 1009 rfl dL_law_1008 hn o2 (cq_callV 1012 rfl [.inl (cl_s f (i + 1)), .inl (cl_s f (i + 2))] [] dL_law_1009 cv_L_115 sh_0 rfl rfl (Nat.le_of_ble_eq_true rfl) (And.intro (cl_srng _ _) (And.intro (cl_srng _ _) True.intro)) (ck_mI h13 (fun v4 w3 q5 h6 => (cq_pop 1013 rfl dL_law_1012 rfl (cq_aload_n 1014 rfl 2 dL_law_1013 rfl rfl (cq_aload_n 1015 rfl 0 dL_law_1014 rfl rfl (cq_iload_n 1016 rfl 3 dL_law_1015 rfl rfl (cq_iconst 1017 rfl dL_law_1016 rfl (cq_iadd 1018 rfl dL_law_1017 (cl_sld 1019 rfl dL_law_1018 hn o1 (cq_aload_n 1020 rfl 0 dL_law_1019 rfl rfl (cq_iload_n 1021 rfl 3 dL_law_1020 rfl rfl (cq_iconst 1022 rfl dL_law_1021 rfl (cq_iadd 1023 rfl dL_law_1022 (cl_sld 1024 rfl dL_law_1023 hn o2 (cq_callV 1027 rfl [.inl (cl_s f (i + 1)), .inl (cl_s f (i + 2))] [] dL_law_1024 cv_L_118 sh_76 rfl rfl (Nat.le_of_ble_eq_true rfl) (And.intro (cl_srng _ _) (And.intro (cl_srng _ _) True.intro)) (ck_mI h6 (fun v8 w7 q9 h10 => (cq_pop 1028 rfl dL_law_1027 rfl (cq_goto 1470 dL_law_1028 rfl h10))))))))))))))))))))))))))))))))))
set_option maxRecDepth 8000 in
theorem r_L_1031 {g : ch_G} {A R : Nat} (hC : ck_Cx g A R) {n : Nat} {f : Nat → Int32} (hn : n < 2147483648) {w : ck_W} {i : Int} (h : (0 ≤ (i + 1) ∧ (i + 1) < (n : Int)) ∧ ((0 ≤ (i + 2) ∧ (i + 2) < (n : Int)) ∧ ((0 ≤ (i + 3) ∧ (i + 3) < (n : Int)) ∧ ((0 ≤ (i + 4) ∧ (i + 4) < (n : Int)) ∧ (ck_CI (ch_C g A R) 11 mX11_box [.inr (.inr 0), .inl (cl_s f (i + 1)), .inl (cl_s f (i + 2)), .inl (cl_s f (i + 3)), .inl (cl_s f (i + 4))] w (fun v6 w5 => ck_CI (ch_C g A R) 11 mX12_box [.inr (.inr 76), .inl (cl_s f (i + 1)), .inl (cl_s f (i + 2)), .inl (cl_s f (i + 3)), .inl (cl_s f (i + 4))] w5 (fun v10 w9 => cq_At (ch_C g A R) (cl_M (ch_C g A R) n f) mL_law 1470 [some (.inr (.inr 102)), some (.inr (.inr 0)), some (.inr (.inr 76)), some (.inl i)] [] w9))))))) : cq_At (ch_C g A R) (cl_M (ch_C g A R) n f) mL_law 1031 [some (.inr (.inr 102)), some (.inr (.inr 0)), some (.inr (.inr 76)), some (.inl i)] [] w :=
  cq_in (fun hl => (cq_aload_n 1032 rfl 1 dL_law_1031 rfl rfl (cq_aload_n 1033 rfl 0 dL_law_1032 rfl rfl (cq_iload_n 1034 rfl 3 dL_law_1033 rfl rfl (cq_iconst 1035 rfl dL_law_1034 rfl (cq_iadd 1036 rfl dL_law_1035 (have h14 := h; have o1 := h14.1; have h13 := h14.2; (cl_sld 1037 rfl dL_law_1036 hn o1 (cq_aload_n 1038 rfl 0 dL_law_1037 rfl rfl (cq_iload_n 1039 rfl 3 dL_law_1038 rfl rfl (cq_iconst 1040 rfl dL_law_1039 rfl (cq_iadd 1041 rfl dL_law_1040 (have h16 := h13; have o2 := h16.1; have h15 := h16.2; (cl_sld 1042 rfl dL_law_1041 hn o2 (cq_aload_n 1043 rfl 0 dL_law_1042 rfl rfl (cq_iload_n 1044 rfl 3 dL_law_1043 rfl rfl (cq_iconst 1045 rfl dL_law_1044 rfl (cq_iadd 1046 rfl dL_law_1045 (have h18 := h15; have o3 := h18.1; have h17 := h18.2; (cl_sld 1047 rfl dL_law_1046 hn o3 (cq_aload_n 1048 rfl 0 dL_law_1047 rfl rfl (cq_iload_n 1049 rfl 3 dL_law_1048 rfl rfl (cq_iconst 1050 rfl dL_law_1049 rfl (cq_iadd 1051 rfl dL_law_1050 (have h20 := h17; have o4 := h20.1; have h19 := h20.2; (cl_sld 1052 rfl dL_law_1051 hn o4 (cq_callV 1055 rfl [.inl (cl_s f (i + 1)), .inl (cl_s f (i + 2)), .inl (cl_s f (i + 3)), .inl (cl_s f (i + 4))] [] dL_law_1052 cv_L_119 sh_0 rfl rfl (Nat.le_of_ble_eq_true rfl) (And.intro (cl_srng _ _) (And.intro (cl_srng _ _) (And.intro (cl_srng _ _) (And.intro (cl_srng _ _) True.intro)))) (ck_mI h19 (fun v6 w5 q7 h8 => (cq_pop 1056 rfl dL_law_1055 rfl (cq_aload_n 1057 rfl 2 dL_law_1056 rfl rfl (cq_aload_n 1058 rfl 0 dL_law_1057 rfl rfl (cq_iload_n 1059 rfl 3 dL_law_1058 rfl rfl (cq_iconst 1060 rfl dL_law_1059 rfl (cq_iadd 1061 rfl dL_law_1060 (cl_sld 1062 rfl dL_law_1061 hn o1 (cq_aload_n 1063 rfl 0 dL_law_1062 rfl rfl (cq_iload_n 1064 rfl 3 dL_law_1063 rfl rfl (cq_iconst 1065 rfl dL_law_1064 rfl (cq_iadd 1066 rfl dL_law_1065 (cl_sld 1067 rfl dL_law_1066 hn o2 (cq_aload_n 1068 rfl 0 dL_law_1067 rfl rfl (cq_iload_n 1069 rfl 3 dL_law_1068 rfl rfl (cq_iconst 1070 rfl dL_law_1069 rfl (cq_iadd 1071 rfl dL_law_1070 (cl_sld 1072 rfl dL_law_1071 hn o3 (cq_aload_n 1073 rfl 0 dL_law_1072 rfl rfl (cq_iload_n 1074 rfl 3 dL_law_1073 rfl rfl (cq_iconst 1075 rfl dL_law_1074 rfl (cq_iadd 1076 rfl dL_law_1075 (cl_sld 1077 rfl dL_law_1076 hn o4 (cq_callV 1080 rfl [.inl (cl_s f (i + 1)), .inl (cl_s f (i + 2)), .inl (cl_s f (i + 3)), .inl (cl_s f (i + 4))] [] dL_law_1077 cv_L_122 sh_76 rfl rfl (Nat.le_of_ble_eq_true rfl) (And.intro (cl_srng _ _) (And.intro (cl_srng _ _) (And.intro (cl_srng _ _) (And.intro (cl_srng _ _) True.intro)))) (ck_mI h8 (fun v10 w9 q11 h12 => (cq_pop 1081 rfl dL_law_1080 rfl (cq_goto 1470 dL_law_1081 rfl h12))))))))))))))))))))))))))))))))))))))))))))))))))))))))
set_option maxRecDepth 8000 in
theorem r_L_1084 {g : ch_G} {A R : Nat} (hC : ck_Cx g A R) {n : Nat} {f : Nat → Int32} (hn : n < 2147483648) {w : ck_W} {i : Int} (h : (0 ≤ (i + 1) ∧ (i + 1) < (n : Int)) ∧ ((0 ≤ (i + 2) ∧ (i + 2) < (n : Int)) ∧ ((0 ≤ (i + 3) ∧ (i + 3) < (n : Int)) ∧ ((0 ≤ (i + 4) ∧ (i + 4) < (n : Int)) ∧ (ck_CI (ch_C g A R) 11 mX11_joined [.inr (.inr 0), .inl (cl_s f (i + 1)), .inl (cl_s f (i + 2)), .inl (cl_s f (i + 3)), .inl (cl_s f (i + 4))] w (fun v6 w5 => ck_CI (ch_C g A R) 11 mX12_joined [.inr (.inr 76), .inl (cl_s f (i + 1)), .inl (cl_s f (i + 2)), .inl (cl_s f (i + 3)), .inl (cl_s f (i + 4))] w5 (fun v10 w9 => cq_At (ch_C g A R) (cl_M (ch_C g A R) n f) mL_law 1470 [some (.inr (.inr 102)), some (.inr (.inr 0)), some (.inr (.inr 76)), some (.inl i)] [] w9))))))) : cq_At (ch_C g A R) (cl_M (ch_C g A R) n f) mL_law 1084 [some (.inr (.inr 102)), some (.inr (.inr 0)), some (.inr (.inr 76)), some (.inl i)] [] w :=
  cq_in (fun hl => (cq_aload_n 1085 rfl 1 dL_law_1084 rfl rfl (cq_aload_n 1086 rfl 0 dL_law_1085 rfl rfl (cq_iload_n 1087 rfl 3 dL_law_1086 rfl rfl (cq_iconst 1088 rfl dL_law_1087 rfl (cq_iadd 1089 rfl dL_law_1088 (have h14 := h; have o1 := h14.1; have h13 := h14.2; (cl_sld 1090 rfl dL_law_1089 hn o1 (cq_aload_n 1091 rfl 0 dL_law_1090 rfl rfl (cq_iload_n 1092 rfl 3 dL_law_1091 rfl rfl (cq_iconst 1093 rfl dL_law_1092 rfl (cq_iadd 1094 rfl dL_law_1093 (have h16 := h13; have o2 := h16.1; have h15 := h16.2; (cl_sld 1095 rfl dL_law_1094 hn o2 (cq_aload_n 1096 rfl 0 dL_law_1095 rfl rfl (cq_iload_n 1097 rfl 3 dL_law_1096 rfl rfl (cq_iconst 1098 rfl dL_law_1097 rfl (cq_iadd 1099 rfl dL_law_1098 (have h18 := h15; have o3 := h18.1; have h17 := h18.2; (cl_sld 1100 rfl dL_law_1099 hn o3 (cq_aload_n 1101 rfl 0 dL_law_1100 rfl rfl (cq_iload_n 1102 rfl 3 dL_law_1101 rfl rfl (cq_iconst 1103 rfl dL_law_1102 rfl (cq_iadd 1104 rfl dL_law_1103 (have h20 := h17; have o4 := h20.1; have h19 := h20.2; (cl_sld 1105 rfl dL_law_1104 hn o4 (cq_callV 1108 rfl [.inl (cl_s f (i + 1)), .inl (cl_s f (i + 2)), .inl (cl_s f (i + 3)), .inl (cl_s f (i + 4))] [] dL_law_1105 cv_L_123 sh_0 rfl rfl (Nat.le_of_ble_eq_true rfl) (And.intro (cl_srng _ _) (And.intro (cl_srng _ _) (And.intro (cl_srng _ _) (And.intro (cl_srng _ _) True.intro)))) (ck_mI h19 (fun v6 w5 q7 h8 => (cq_pop 1109 rfl dL_law_1108 rfl (cq_aload_n 1110 rfl 2 dL_law_1109 rfl rfl (cq_aload_n 1111 rfl 0 dL_law_1110 rfl rfl (cq_iload_n 1112 rfl 3 dL_law_1111 rfl rfl (cq_iconst 1113 rfl dL_law_1112 rfl (cq_iadd 1114 rfl dL_law_1113 (cl_sld 1115 rfl dL_law_1114 hn o1 (cq_aload_n 1116 rfl 0 dL_law_1115 rfl rfl (cq_iload_n 1117 rfl 3 dL_law_1116 rfl rfl (cq_iconst 1118 rfl dL_law_1117 rfl (cq_iadd 1119 rfl dL_law_1118 (cl_sld 1120 rfl dL_law_1119 hn o2 (cq_aload_n 1121 rfl 0 dL_law_1120 rfl rfl (cq_iload_n 1122 rfl 3 dL_law_1121 rfl rfl (cq_iconst 1123 rfl dL_law_1122 rfl (cq_iadd 1124 rfl dL_law_1123 (cl_sld 1125 rfl dL_law_1124 hn o3 (cq_aload_n 1126 rfl 0 dL_law_1125 rfl rfl (cq_iload_n 1127 rfl 3 dL_law_1126 rfl rfl (cq_iconst 1128 rfl dL_law_1127 rfl (cq_iadd 1129 rfl dL_law_1128 (cl_sld 1130 rfl dL_law_1129 hn o4 (cq_callV 1133 rfl [.inl (cl_s f (i + 1)), .inl (cl_s f (i + 2)), .inl (cl_s f (i + 3)), .inl (cl_s f (i + 4))] [] dL_law_1130 cv_L_126 sh_76 rfl rfl (Nat.le_of_ble_eq_true rfl) (And.intro (cl_srng _ _) (And.intro (cl_srng _ _) (And.intro (cl_srng _ _) (And.intro (cl_srng _ _) True.intro)))) (ck_mI h8 (fun v10 w9 q11 h12 => (cq_pop 1134 rfl dL_law_1133 rfl (cq_goto 1470 dL_law_1134 rfl h12))))))))))))))))))))))))))))))))))))))))))))))))))))))))
set_option maxRecDepth 8000 in
theorem r_L_1137 {g : ch_G} {A R : Nat} (hC : ck_Cx g A R) {n : Nat} {f : Nat → Int32} (hn : n < 2147483648) {w : ck_W} {i : Int} (h : (0 ≤ (i + 1) ∧ (i + 1) < (n : Int)) ∧ ((0 ≤ (i + 2) ∧ (i + 2) < (n : Int)) ∧ (ck_CI (ch_C g A R) 11 mX11_seen [.inr (.inr 0), .inl (cl_s f (i + 1)), .inl (cl_s f (i + 2))] w (fun v4 w3 => ck_CI (ch_C g A R) 11 mX12_seen [.inr (.inr 76), .inl (cl_s f (i + 1)), .inl (cl_s f (i + 2))] w3 (fun v8 w7 => cq_At (ch_C g A R) (cl_M (ch_C g A R) n f) mL_law 1470 [some (.inr (.inr 102)), some (.inr (.inr 0)), some (.inr (.inr 76)), some (.inl i)] [] w7))))) : cq_At (ch_C g A R) (cl_M (ch_C g A R) n f) mL_law 1137 [some (.inr (.inr 102)), some (.inr (.inr 0)), some (.inr (.inr 76)), some (.inl i)] [] w :=
  cq_in (fun hl => (cq_aload_n 1138 rfl 1 dL_law_1137 rfl rfl (cq_aload_n 1139 rfl 0 dL_law_1138 rfl rfl (cq_iload_n 1140 rfl 3 dL_law_1139 rfl rfl (cq_iconst 1141 rfl dL_law_1140 rfl (cq_iadd 1142 rfl dL_law_1141 (have h12 := h; have o1 := h12.1; have h11 := h12.2; (cl_sld 1143 rfl dL_law_1142 hn o1 (cq_aload_n 1144 rfl 0 dL_law_1143 rfl rfl (cq_iload_n 1145 rfl 3 dL_law_1144 rfl rfl (cq_iconst 1146 rfl dL_law_1145 rfl (cq_iadd 1147 rfl dL_law_1146 (have h14 := h11; have o2 := h14.1; have h13 := h14.2; (cl_sld 1148 rfl dL_law_1147 hn o2 (cq_callV 1151 rfl [.inl (cl_s f (i + 1)), .inl (cl_s f (i + 2))] [] dL_law_1148 cv_L_127 sh_0 rfl rfl (Nat.le_of_ble_eq_true rfl) (And.intro (cl_srng _ _) (And.intro (cl_srng _ _) True.intro)) (ck_mI h13 (fun v4 w3 q5 h6 => (cq_pop 1152 rfl dL_law_1151 rfl (cq_aload_n 1153 rfl 2 dL_law_1152 rfl rfl (cq_aload_n 1154 rfl 0 dL_law_1153 rfl rfl (cq_iload_n 1155 rfl 3 dL_law_1154 rfl rfl (cq_iconst 1156 rfl dL_law_1155 rfl (cq_iadd 1157 rfl dL_law_1156 (cl_sld 1158 rfl dL_law_1157 hn o1 (cq_aload_n 1159 rfl 0 dL_law_1158 rfl rfl (cq_iload_n 1160 rfl 3 dL_law_1159 rfl rfl (cq_iconst 1161 rfl dL_law_1160 rfl (cq_iadd 1162 rfl dL_law_1161 (cl_sld 1163 rfl dL_law_1162 hn o2 (cq_callV 1166 rfl [.inl (cl_s f (i + 1)), .inl (cl_s f (i + 2))] [] dL_law_1163 cv_L_130 sh_76 rfl rfl (Nat.le_of_ble_eq_true rfl) (And.intro (cl_srng _ _) (And.intro (cl_srng _ _) True.intro)) (ck_mI h6 (fun v8 w7 q9 h10 => (cq_pop 1167 rfl dL_law_1166 rfl (cq_goto 1470 dL_law_1167 rfl h10))))))))))))))))))))))))))))))))))
set_option maxRecDepth 8000 in
theorem r_L_1170 {g : ch_G} {A R : Nat} (hC : ck_Cx g A R) {n : Nat} {f : Nat → Int32} (hn : n < 2147483648) {w : ck_W} {i : Int} (h : (0 ≤ (i + 1) ∧ (i + 1) < (n : Int)) ∧ ((0 ≤ (i + 2) ∧ (i + 2) < (n : Int)) ∧ ((0 ≤ (i + 3) ∧ (i + 3) < (n : Int)) ∧ ((0 ≤ (i + 4) ∧ (i + 4) < (n : Int)) ∧ ((0 ≤ (i + 5) ∧ (i + 5) < (n : Int)) ∧ (ck_CI (ch_C g A R) 11 mX11_printed [.inr (.inr 0), .inl (cl_s f (i + 1)), .inl (cl_s f (i + 2)), .inl (cl_s f (i + 3)), .inl (cl_s f (i + 4)), .inl (cl_s f (i + 5))] w (fun v7 w6 => ck_CI (ch_C g A R) 11 mX12_printed [.inr (.inr 76), .inl (cl_s f (i + 1)), .inl (cl_s f (i + 2)), .inl (cl_s f (i + 3)), .inl (cl_s f (i + 4)), .inl (cl_s f (i + 5))] w6 (fun v11 w10 => cq_At (ch_C g A R) (cl_M (ch_C g A R) n f) mL_law 1470 [some (.inr (.inr 102)), some (.inr (.inr 0)), some (.inr (.inr 76)), some (.inl i)] [] w10)))))))) : cq_At (ch_C g A R) (cl_M (ch_C g A R) n f) mL_law 1170 [some (.inr (.inr 102)), some (.inr (.inr 0)), some (.inr (.inr 76)), some (.inl i)] [] w :=
  cq_in (fun hl => (cq_aload_n 1171 rfl 1 dL_law_1170 rfl rfl (cq_aload_n 1172 rfl 0 dL_law_1171 rfl rfl (cq_iload_n 1173 rfl 3 dL_law_1172 rfl rfl (cq_iconst 1174 rfl dL_law_1173 rfl (cq_iadd 1175 rfl dL_law_1174 (have h15 := h; have o1 := h15.1; have h14 := h15.2; (cl_sld 1176 rfl dL_law_1175 hn o1 (cq_aload_n 1177 rfl 0 dL_law_1176 rfl rfl (cq_iload_n 1178 rfl 3 dL_law_1177 rfl rfl (cq_iconst 1179 rfl dL_law_1178 rfl (cq_iadd 1180 rfl dL_law_1179 (have h17 := h14; have o2 := h17.1; have h16 := h17.2; (cl_sld 1181 rfl dL_law_1180 hn o2 (cq_aload_n 1182 rfl 0 dL_law_1181 rfl rfl (cq_iload_n 1183 rfl 3 dL_law_1182 rfl rfl (cq_iconst 1184 rfl dL_law_1183 rfl (cq_iadd 1185 rfl dL_law_1184 (have h19 := h16; have o3 := h19.1; have h18 := h19.2; (cl_sld 1186 rfl dL_law_1185 hn o3 (cq_aload_n 1187 rfl 0 dL_law_1186 rfl rfl (cq_iload_n 1188 rfl 3 dL_law_1187 rfl rfl (cq_iconst 1189 rfl dL_law_1188 rfl (cq_iadd 1190 rfl dL_law_1189 (have h21 := h18; have o4 := h21.1; have h20 := h21.2; (cl_sld 1191 rfl dL_law_1190 hn o4 (cq_aload_n 1192 rfl 0 dL_law_1191 rfl rfl (cq_iload_n 1193 rfl 3 dL_law_1192 rfl rfl (cq_iconst 1194 rfl dL_law_1193 rfl (cq_iadd 1195 rfl dL_law_1194 (have h23 := h20; have o5 := h23.1; have h22 := h23.2; (cl_sld 1196 rfl dL_law_1195 hn o5 (cq_callV 1199 rfl [.inl (cl_s f (i + 1)), .inl (cl_s f (i + 2)), .inl (cl_s f (i + 3)), .inl (cl_s f (i + 4)), .inl (cl_s f (i + 5))] [] dL_law_1196 cv_L_131 sh_0 rfl rfl (Nat.le_of_ble_eq_true rfl) (And.intro (cl_srng _ _) (And.intro (cl_srng _ _) (And.intro (cl_srng _ _) (And.intro (cl_srng _ _) (And.intro (cl_srng _ _) True.intro))))) (ck_mI h22 (fun v7 w6 q8 h9 => (cq_pop 1200 rfl dL_law_1199 rfl (cq_aload_n 1201 rfl 2 dL_law_1200 rfl rfl (cq_aload_n 1202 rfl 0 dL_law_1201 rfl rfl (cq_iload_n 1203 rfl 3 dL_law_1202 rfl rfl (cq_iconst 1204 rfl dL_law_1203 rfl (cq_iadd 1205 rfl dL_law_1204 (cl_sld 1206 rfl dL_law_1205 hn o1 (cq_aload_n 1207 rfl 0 dL_law_1206 rfl rfl (cq_iload_n 1208 rfl 3 dL_law_1207 rfl rfl (cq_iconst 1209 rfl dL_law_1208 rfl (cq_iadd 1210 rfl dL_law_1209 (cl_sld 1211 rfl dL_law_1210 hn o2 (cq_aload_n 1212 rfl 0 dL_law_1211 rfl rfl (cq_iload_n 1213 rfl 3 dL_law_1212 rfl rfl (cq_iconst 1214 rfl dL_law_1213 rfl (cq_iadd 1215 rfl dL_law_1214 (cl_sld 1216 rfl dL_law_1215 hn o3 (cq_aload_n 1217 rfl 0 dL_law_1216 rfl rfl (cq_iload_n 1218 rfl 3 dL_law_1217 rfl rfl (cq_iconst 1219 rfl dL_law_1218 rfl (cq_iadd 1220 rfl dL_law_1219 (cl_sld 1221 rfl dL_law_1220 hn o4 (cq_aload_n 1222 rfl 0 dL_law_1221 rfl rfl (cq_iload_n 1223 rfl 3 dL_law_1222 rfl rfl (cq_iconst 1224 rfl dL_law_1223 rfl (cq_iadd 1225 rfl dL_law_1224 (cl_sld 1226 rfl dL_law_1225 hn o5 (cq_callV 1229 rfl [.inl (cl_s f (i + 1)), .inl (cl_s f (i + 2)), .inl (cl_s f (i + 3)), .inl (cl_s f (i + 4)), .inl (cl_s f (i + 5))] [] dL_law_1226 cv_L_134 sh_76 rfl rfl (Nat.le_of_ble_eq_true rfl) (And.intro (cl_srng _ _) (And.intro (cl_srng _ _) (And.intro (cl_srng _ _) (And.intro (cl_srng _ _) (And.intro (cl_srng _ _) True.intro))))) (ck_mI h9 (fun v11 w10 q12 h13 => (cq_pop 1230 rfl dL_law_1229 rfl (cq_goto 1470 dL_law_1230 rfl h13)))))))))))))))))))))))))))))))))))))))))))))))))))))))))))))))))))
set_option maxRecDepth 8000 in
theorem r_L_1233 {g : ch_G} {A R : Nat} (hC : ck_Cx g A R) {n : Nat} {f : Nat → Int32} (hn : n < 2147483648) {w : ck_W} {i : Int} (h : (0 ≤ (i + 1) ∧ (i + 1) < (n : Int)) ∧ ((0 ≤ (i + 2) ∧ (i + 2) < (n : Int)) ∧ ((0 ≤ (i + 3) ∧ (i + 3) < (n : Int)) ∧ ((0 ≤ (i + 4) ∧ (i + 4) < (n : Int)) ∧ ((0 ≤ (i + 5) ∧ (i + 5) < (n : Int)) ∧ (((cl_s f (i + 5)) = 0 → ck_CI (ch_C g A R) 11 mX11_length [.inr (.inr 0), .inl (cl_s f (i + 1)), .inl (cl_s f (i + 2)), .inl (cl_s f (i + 3)), .inl (cl_s f (i + 4)), .inl 0] w (fun v7 w6 => ((cl_s f (i + 5)) = 0 → ck_CI (ch_C g A R) 11 mX12_length [.inr (.inr 76), .inl (cl_s f (i + 1)), .inl (cl_s f (i + 2)), .inl (cl_s f (i + 3)), .inl (cl_s f (i + 4)), .inl 0] w6 (fun v11 w10 => cq_At (ch_C g A R) (cl_M (ch_C g A R) n f) mL_law 1470 [some (.inr (.inr 102)), some (.inr (.inr 0)), some (.inr (.inr 76)), some (.inl i)] [] w10)) ∧ (¬ (cl_s f (i + 5)) = 0 → ck_CI (ch_C g A R) 11 mX12_length [.inr (.inr 76), .inl (cl_s f (i + 1)), .inl (cl_s f (i + 2)), .inl (cl_s f (i + 3)), .inl (cl_s f (i + 4)), .inl 1] w6 (fun v15 w14 => cq_At (ch_C g A R) (cl_M (ch_C g A R) n f) mL_law 1470 [some (.inr (.inr 102)), some (.inr (.inr 0)), some (.inr (.inr 76)), some (.inl i)] [] w14)))) ∧ (¬ (cl_s f (i + 5)) = 0 → ck_CI (ch_C g A R) 11 mX11_length [.inr (.inr 0), .inl (cl_s f (i + 1)), .inl (cl_s f (i + 2)), .inl (cl_s f (i + 3)), .inl (cl_s f (i + 4)), .inl 1] w (fun v21 w20 => ((cl_s f (i + 5)) = 0 → ck_CI (ch_C g A R) 11 mX12_length [.inr (.inr 76), .inl (cl_s f (i + 1)), .inl (cl_s f (i + 2)), .inl (cl_s f (i + 3)), .inl (cl_s f (i + 4)), .inl 0] w20 (fun v25 w24 => cq_At (ch_C g A R) (cl_M (ch_C g A R) n f) mL_law 1470 [some (.inr (.inr 102)), some (.inr (.inr 0)), some (.inr (.inr 76)), some (.inl i)] [] w24)) ∧ (¬ (cl_s f (i + 5)) = 0 → ck_CI (ch_C g A R) 11 mX12_length [.inr (.inr 76), .inl (cl_s f (i + 1)), .inl (cl_s f (i + 2)), .inl (cl_s f (i + 3)), .inl (cl_s f (i + 4)), .inl 1] w20 (fun v29 w28 => cq_At (ch_C g A R) (cl_M (ch_C g A R) n f) mL_law 1470 [some (.inr (.inr 102)), some (.inr (.inr 0)), some (.inr (.inr 76)), some (.inl i)] [] w28)))))))))) : cq_At (ch_C g A R) (cl_M (ch_C g A R) n f) mL_law 1233 [some (.inr (.inr 102)), some (.inr (.inr 0)), some (.inr (.inr 76)), some (.inl i)] [] w :=
  cq_in (fun hl => (cq_aload_n 1234 rfl 1 dL_law_1233 rfl rfl (cq_aload_n 1235 rfl 0 dL_law_1234 rfl rfl (cq_iload_n 1236 rfl 3 dL_law_1235 rfl rfl (cq_iconst 1237 rfl dL_law_1236 rfl (cq_iadd 1238 rfl dL_law_1237 (have h37 := h; have o1 := h37.1; have h36 := h37.2; (cl_sld 1239 rfl dL_law_1238 hn o1 (cq_aload_n 1240 rfl 0 dL_law_1239 rfl rfl (cq_iload_n 1241 rfl 3 dL_law_1240 rfl rfl (cq_iconst 1242 rfl dL_law_1241 rfl (cq_iadd 1243 rfl dL_law_1242 (have h39 := h36; have o2 := h39.1; have h38 := h39.2; (cl_sld 1244 rfl dL_law_1243 hn o2 (cq_aload_n 1245 rfl 0 dL_law_1244 rfl rfl (cq_iload_n 1246 rfl 3 dL_law_1245 rfl rfl (cq_iconst 1247 rfl dL_law_1246 rfl (cq_iadd 1248 rfl dL_law_1247 (have h41 := h38; have o3 := h41.1; have h40 := h41.2; (cl_sld 1249 rfl dL_law_1248 hn o3 (cq_aload_n 1250 rfl 0 dL_law_1249 rfl rfl (cq_iload_n 1251 rfl 3 dL_law_1250 rfl rfl (cq_iconst 1252 rfl dL_law_1251 rfl (cq_iadd 1253 rfl dL_law_1252 (have h43 := h40; have o4 := h43.1; have h42 := h43.2; (cl_sld 1254 rfl dL_law_1253 hn o4 (cq_aload_n 1255 rfl 0 dL_law_1254 rfl rfl (cq_iload_n 1256 rfl 3 dL_law_1255 rfl rfl (cq_iconst 1257 rfl dL_law_1256 rfl (cq_iadd 1258 rfl dL_law_1257 (have h45 := h42; have o5 := h45.1; have h44 := h45.2; (cl_sld 1259 rfl dL_law_1258 hn o5 (cq_if_eq 1262 rfl 1266 dL_law_1259 rfl (cl_srng _ _) (fun c34 => (cq_iconst 1267 rfl dL_law_1266 rfl (cq_callV 1270 rfl [.inl (cl_s f (i + 1)), .inl (cl_s f (i + 2)), .inl (cl_s f (i + 3)), .inl (cl_s f (i + 4)), .inl 0] [] dL_law_1267 cv_L_135 sh_0 rfl rfl (Nat.le_of_ble_eq_true rfl) (And.intro (cl_srng _ _) (And.intro (cl_srng _ _) (And.intro (cl_srng _ _) (And.intro (cl_srng _ _) (And.intro (show ck_i 0 by decide) True.intro))))) (ck_mI (h44.1 c34) (fun v7 w6 q8 h9 => (cq_pop 1271 rfl dL_law_1270 rfl (cq_aload_n 1272 rfl 2 dL_law_1271 rfl rfl (cq_aload_n 1273 rfl 0 dL_law_1272 rfl rfl (cq_iload_n 1274 rfl 3 dL_law_1273 rfl rfl (cq_iconst 1275 rfl dL_law_1274 rfl (cq_iadd 1276 rfl dL_law_1275 (cl_sld 1277 rfl dL_law_1276 hn o1 (cq_aload_n 1278 rfl 0 dL_law_1277 rfl rfl (cq_iload_n 1279 rfl 3 dL_law_1278 rfl rfl (cq_iconst 1280 rfl dL_law_1279 rfl (cq_iadd 1281 rfl dL_law_1280 (cl_sld 1282 rfl dL_law_1281 hn o2 (cq_aload_n 1283 rfl 0 dL_law_1282 rfl rfl (cq_iload_n 1284 rfl 3 dL_law_1283 rfl rfl (cq_iconst 1285 rfl dL_law_1284 rfl (cq_iadd 1286 rfl dL_law_1285 (cl_sld 1287 rfl dL_law_1286 hn o3 (cq_aload_n 1288 rfl 0 dL_law_1287 rfl rfl (cq_iload_n 1289 rfl 3 dL_law_1288 rfl rfl (cq_iconst 1290 rfl dL_law_1289 rfl (cq_iadd 1291 rfl dL_law_1290 (cl_sld 1292 rfl dL_law_1291 hn o4 (cq_aload_n 1293 rfl 0 dL_law_1292 rfl rfl (cq_iload_n 1294 rfl 3 dL_law_1293 rfl rfl (cq_iconst 1295 rfl dL_law_1294 rfl (cq_iadd 1296 rfl dL_law_1295 (cl_sld 1297 rfl dL_law_1296 hn o5 (cq_if_eq 1300 rfl 1304 dL_law_1297 rfl (cl_srng _ _) (fun c18 => (cq_iconst 1305 rfl dL_law_1304 rfl (cq_callV 1308 rfl [.inl (cl_s f (i + 1)), .inl (cl_s f (i + 2)), .inl (cl_s f (i + 3)), .inl (cl_s f (i + 4)), .inl 0] [] dL_law_1305 cv_L_139 sh_76 rfl rfl (Nat.le_of_ble_eq_true rfl) (And.intro (cl_srng _ _) (And.intro (cl_srng _ _) (And.intro (cl_srng _ _) (And.intro (cl_srng _ _) (And.intro (show ck_i 0 by decide) True.intro))))) (ck_mI (h9.1 c18) (fun v11 w10 q12 h13 => (cq_pop 1309 rfl dL_law_1308 rfl (cq_goto 1470 dL_law_1309 rfl h13))))))) (fun c19 => (cq_iconst 1301 rfl dL_law_1300 rfl (cq_goto 1305 dL_law_1301 rfl (cq_callV 1308 rfl [.inl (cl_s f (i + 1)), .inl (cl_s f (i + 2)), .inl (cl_s f (i + 3)), .inl (cl_s f (i + 4)), .inl 1] [] dL_law_1305 cv_L_139 sh_76 rfl rfl (Nat.le_of_ble_eq_true rfl) (And.intro (cl_srng _ _) (And.intro (cl_srng _ _) (And.intro (cl_srng _ _) (And.intro (cl_srng _ _) (And.intro (show ck_i 1 by decide) True.intro))))) (ck_mI (h9.2 c19) (fun v15 w14 q16 h17 => (cq_pop 1309 rfl dL_law_1308 rfl (cq_goto 1470 dL_law_1309 rfl h17))))))))))))))))))))))))))))))))))))))))) (fun c35 => (cq_iconst 1263 rfl dL_law_1262 rfl (cq_goto 1267 dL_law_1263 rfl (cq_callV 1270 rfl [.inl (cl_s f (i + 1)), .inl (cl_s f (i + 2)), .inl (cl_s f (i + 3)), .inl (cl_s f (i + 4)), .inl 1] [] dL_law_1267 cv_L_135 sh_0 rfl rfl (Nat.le_of_ble_eq_true rfl) (And.intro (cl_srng _ _) (And.intro (cl_srng _ _) (And.intro (cl_srng _ _) (And.intro (cl_srng _ _) (And.intro (show ck_i 1 by decide) True.intro))))) (ck_mI (h44.2 c35) (fun v21 w20 q22 h23 => (cq_pop 1271 rfl dL_law_1270 rfl (cq_aload_n 1272 rfl 2 dL_law_1271 rfl rfl (cq_aload_n 1273 rfl 0 dL_law_1272 rfl rfl (cq_iload_n 1274 rfl 3 dL_law_1273 rfl rfl (cq_iconst 1275 rfl dL_law_1274 rfl (cq_iadd 1276 rfl dL_law_1275 (cl_sld 1277 rfl dL_law_1276 hn o1 (cq_aload_n 1278 rfl 0 dL_law_1277 rfl rfl (cq_iload_n 1279 rfl 3 dL_law_1278 rfl rfl (cq_iconst 1280 rfl dL_law_1279 rfl (cq_iadd 1281 rfl dL_law_1280 (cl_sld 1282 rfl dL_law_1281 hn o2 (cq_aload_n 1283 rfl 0 dL_law_1282 rfl rfl (cq_iload_n 1284 rfl 3 dL_law_1283 rfl rfl (cq_iconst 1285 rfl dL_law_1284 rfl (cq_iadd 1286 rfl dL_law_1285 (cl_sld 1287 rfl dL_law_1286 hn o3 (cq_aload_n 1288 rfl 0 dL_law_1287 rfl rfl (cq_iload_n 1289 rfl 3 dL_law_1288 rfl rfl (cq_iconst 1290 rfl dL_law_1289 rfl (cq_iadd 1291 rfl dL_law_1290 (cl_sld 1292 rfl dL_law_1291 hn o4 (cq_aload_n 1293 rfl 0 dL_law_1292 rfl rfl (cq_iload_n 1294 rfl 3 dL_law_1293 rfl rfl (cq_iconst 1295 rfl dL_law_1294 rfl (cq_iadd 1296 rfl dL_law_1295 (cl_sld 1297 rfl dL_law_1296 hn o5 (cq_if_eq 1300 rfl 1304 dL_law_1297 rfl (cl_srng _ _) (fun c32 => (cq_iconst 1305 rfl dL_law_1304 rfl (cq_callV 1308 rfl [.inl (cl_s f (i + 1)), .inl (cl_s f (i + 2)), .inl (cl_s f (i + 3)), .inl (cl_s f (i + 4)), .inl 0] [] dL_law_1305 cv_L_139 sh_76 rfl rfl (Nat.le_of_ble_eq_true rfl) (And.intro (cl_srng _ _) (And.intro (cl_srng _ _) (And.intro (cl_srng _ _) (And.intro (cl_srng _ _) (And.intro (show ck_i 0 by decide) True.intro))))) (ck_mI (h23.1 c32) (fun v25 w24 q26 h27 => (cq_pop 1309 rfl dL_law_1308 rfl (cq_goto 1470 dL_law_1309 rfl h27))))))) (fun c33 => (cq_iconst 1301 rfl dL_law_1300 rfl (cq_goto 1305 dL_law_1301 rfl (cq_callV 1308 rfl [.inl (cl_s f (i + 1)), .inl (cl_s f (i + 2)), .inl (cl_s f (i + 3)), .inl (cl_s f (i + 4)), .inl 1] [] dL_law_1305 cv_L_139 sh_76 rfl rfl (Nat.le_of_ble_eq_true rfl) (And.intro (cl_srng _ _) (And.intro (cl_srng _ _) (And.intro (cl_srng _ _) (And.intro (cl_srng _ _) (And.intro (show ck_i 1 by decide) True.intro))))) (ck_mI (h23.2 c33) (fun v29 w28 q30 h31 => (cq_pop 1309 rfl dL_law_1308 rfl (cq_goto 1470 dL_law_1309 rfl h31)))))))))))))))))))))))))))))))))))))))))))))))))))))))))))))))))))))))))))
set_option maxRecDepth 8000 in
theorem r_L_1312 {g : ch_G} {A R : Nat} (hC : ck_Cx g A R) {n : Nat} {f : Nat → Int32} (hn : n < 2147483648) {w : ck_W} {i : Int} (h : (0 ≤ (i + 1) ∧ (i + 1) < (n : Int)) ∧ ((0 ≤ (i + 2) ∧ (i + 2) < (n : Int)) ∧ ((0 ≤ (i + 3) ∧ (i + 3) < (n : Int)) ∧ (ck_CI (ch_C g A R) 11 mX11_part [.inr (.inr 0), .inl (cl_s f (i + 1)), .inl (cl_s f (i + 2)), .inl (cl_s f (i + 3))] w (fun v5 w4 => ck_CI (ch_C g A R) 11 mX12_part [.inr (.inr 76), .inl (cl_s f (i + 1)), .inl (cl_s f (i + 2)), .inl (cl_s f (i + 3))] w4 (fun v9 w8 => cq_At (ch_C g A R) (cl_M (ch_C g A R) n f) mL_law 1470 [some (.inr (.inr 102)), some (.inr (.inr 0)), some (.inr (.inr 76)), some (.inl i)] [] w8)))))) : cq_At (ch_C g A R) (cl_M (ch_C g A R) n f) mL_law 1312 [some (.inr (.inr 102)), some (.inr (.inr 0)), some (.inr (.inr 76)), some (.inl i)] [] w :=
  cq_in (fun hl => (cq_aload_n 1313 rfl 1 dL_law_1312 rfl rfl (cq_aload_n 1314 rfl 0 dL_law_1313 rfl rfl (cq_iload_n 1315 rfl 3 dL_law_1314 rfl rfl (cq_iconst 1316 rfl dL_law_1315 rfl (cq_iadd 1317 rfl dL_law_1316 (have h13 := h; have o1 := h13.1; have h12 := h13.2; (cl_sld 1318 rfl dL_law_1317 hn o1 (cq_aload_n 1319 rfl 0 dL_law_1318 rfl rfl (cq_iload_n 1320 rfl 3 dL_law_1319 rfl rfl (cq_iconst 1321 rfl dL_law_1320 rfl (cq_iadd 1322 rfl dL_law_1321 (have h15 := h12; have o2 := h15.1; have h14 := h15.2; (cl_sld 1323 rfl dL_law_1322 hn o2 (cq_aload_n 1324 rfl 0 dL_law_1323 rfl rfl (cq_iload_n 1325 rfl 3 dL_law_1324 rfl rfl (cq_iconst 1326 rfl dL_law_1325 rfl (cq_iadd 1327 rfl dL_law_1326 (have h17 := h14; have o3 := h17.1; have h16 := h17.2; (cl_sld 1328 rfl dL_law_1327 hn o3 (cq_callV 1331 rfl [.inl (cl_s f (i + 1)), .inl (cl_s f (i + 2)), .inl (cl_s f (i + 3))] [] dL_law_1328 cv_L_140 sh_0 rfl rfl (Nat.le_of_ble_eq_true rfl) (And.intro (cl_srng _ _) (And.intro (cl_srng _ _) (And.intro (cl_srng _ _) True.intro))) (ck_mI h16 (fun v5 w4 q6 h7 => (cq_pop 1332 rfl dL_law_1331 rfl (cq_aload_n 1333 rfl 2 dL_law_1332 rfl rfl (cq_aload_n 1334 rfl 0 dL_law_1333 rfl rfl (cq_iload_n 1335 rfl 3 dL_law_1334 rfl rfl (cq_iconst 1336 rfl dL_law_1335 rfl (cq_iadd 1337 rfl dL_law_1336 (cl_sld 1338 rfl dL_law_1337 hn o1 (cq_aload_n 1339 rfl 0 dL_law_1338 rfl rfl (cq_iload_n 1340 rfl 3 dL_law_1339 rfl rfl (cq_iconst 1341 rfl dL_law_1340 rfl (cq_iadd 1342 rfl dL_law_1341 (cl_sld 1343 rfl dL_law_1342 hn o2 (cq_aload_n 1344 rfl 0 dL_law_1343 rfl rfl (cq_iload_n 1345 rfl 3 dL_law_1344 rfl rfl (cq_iconst 1346 rfl dL_law_1345 rfl (cq_iadd 1347 rfl dL_law_1346 (cl_sld 1348 rfl dL_law_1347 hn o3 (cq_callV 1351 rfl [.inl (cl_s f (i + 1)), .inl (cl_s f (i + 2)), .inl (cl_s f (i + 3))] [] dL_law_1348 cv_L_143 sh_76 rfl rfl (Nat.le_of_ble_eq_true rfl) (And.intro (cl_srng _ _) (And.intro (cl_srng _ _) (And.intro (cl_srng _ _) True.intro))) (ck_mI h7 (fun v9 w8 q10 h11 => (cq_pop 1352 rfl dL_law_1351 rfl (cq_goto 1470 dL_law_1352 rfl h11)))))))))))))))))))))))))))))))))))))))))))))
set_option maxRecDepth 8000 in
theorem r_L_1355 {g : ch_G} {A R : Nat} (hC : ck_Cx g A R) {n : Nat} {f : Nat → Int32} (hn : n < 2147483648) {w : ck_W} {i : Int} (h : (0 ≤ (i + 1) ∧ (i + 1) < (n : Int)) ∧ ((0 ≤ (i + 2) ∧ (i + 2) < (n : Int)) ∧ (ck_CI (ch_C g A R) 11 mX11_fetch [.inr (.inr 0), .inl (cl_s f (i + 1)), .inl (cl_s f (i + 2))] w (fun v4 w3 => ck_CI (ch_C g A R) 11 mX12_fetch [.inr (.inr 76), .inl (cl_s f (i + 1)), .inl (cl_s f (i + 2))] w3 (fun v8 w7 => cq_At (ch_C g A R) (cl_M (ch_C g A R) n f) mL_law 1470 [some (.inr (.inr 102)), some (.inr (.inr 0)), some (.inr (.inr 76)), some (.inl i)] [] w7))))) : cq_At (ch_C g A R) (cl_M (ch_C g A R) n f) mL_law 1355 [some (.inr (.inr 102)), some (.inr (.inr 0)), some (.inr (.inr 76)), some (.inl i)] [] w :=
  cq_in (fun hl => (cq_aload_n 1356 rfl 1 dL_law_1355 rfl rfl (cq_aload_n 1357 rfl 0 dL_law_1356 rfl rfl (cq_iload_n 1358 rfl 3 dL_law_1357 rfl rfl (cq_iconst 1359 rfl dL_law_1358 rfl (cq_iadd 1360 rfl dL_law_1359 (have h12 := h; have o1 := h12.1; have h11 := h12.2; (cl_sld 1361 rfl dL_law_1360 hn o1 (cq_aload_n 1362 rfl 0 dL_law_1361 rfl rfl (cq_iload_n 1363 rfl 3 dL_law_1362 rfl rfl (cq_iconst 1364 rfl dL_law_1363 rfl (cq_iadd 1365 rfl dL_law_1364 (have h14 := h11; have o2 := h14.1; have h13 := h14.2; (cl_sld 1366 rfl dL_law_1365 hn o2 (cq_callV 1369 rfl [.inl (cl_s f (i + 1)), .inl (cl_s f (i + 2))] [] dL_law_1366 cv_L_144 sh_0 rfl rfl (Nat.le_of_ble_eq_true rfl) (And.intro (cl_srng _ _) (And.intro (cl_srng _ _) True.intro)) (ck_mI h13 (fun v4 w3 q5 h6 => (cq_pop 1370 rfl dL_law_1369 rfl (cq_aload_n 1371 rfl 2 dL_law_1370 rfl rfl (cq_aload_n 1372 rfl 0 dL_law_1371 rfl rfl (cq_iload_n 1373 rfl 3 dL_law_1372 rfl rfl (cq_iconst 1374 rfl dL_law_1373 rfl (cq_iadd 1375 rfl dL_law_1374 (cl_sld 1376 rfl dL_law_1375 hn o1 (cq_aload_n 1377 rfl 0 dL_law_1376 rfl rfl (cq_iload_n 1378 rfl 3 dL_law_1377 rfl rfl (cq_iconst 1379 rfl dL_law_1378 rfl (cq_iadd 1380 rfl dL_law_1379 (cl_sld 1381 rfl dL_law_1380 hn o2 (cq_callV 1384 rfl [.inl (cl_s f (i + 1)), .inl (cl_s f (i + 2))] [] dL_law_1381 cv_L_147 sh_76 rfl rfl (Nat.le_of_ble_eq_true rfl) (And.intro (cl_srng _ _) (And.intro (cl_srng _ _) True.intro)) (ck_mI h6 (fun v8 w7 q9 h10 => (cq_pop 1385 rfl dL_law_1384 rfl (cq_goto 1470 dL_law_1385 rfl h10))))))))))))))))))))))))))))))))))
set_option maxRecDepth 8000 in
theorem r_L_1388 {g : ch_G} {A R : Nat} (hC : ck_Cx g A R) {n : Nat} {f : Nat → Int32} (hn : n < 2147483648) {w : ck_W} {i : Int} (h : (0 ≤ (i + 1) ∧ (i + 1) < (n : Int)) ∧ ((0 ≤ (i + 2) ∧ (i + 2) < (n : Int)) ∧ (ck_CI (ch_C g A R) 11 mX11_plan [.inr (.inr 0), .inl (cl_s f (i + 1)), .inl (cl_s f (i + 2))] w (fun v4 w3 => ck_CI (ch_C g A R) 11 mX12_plan [.inr (.inr 76), .inl (cl_s f (i + 1)), .inl (cl_s f (i + 2))] w3 (fun v8 w7 => cq_At (ch_C g A R) (cl_M (ch_C g A R) n f) mL_law 1470 [some (.inr (.inr 102)), some (.inr (.inr 0)), some (.inr (.inr 76)), some (.inl i)] [] w7))))) : cq_At (ch_C g A R) (cl_M (ch_C g A R) n f) mL_law 1388 [some (.inr (.inr 102)), some (.inr (.inr 0)), some (.inr (.inr 76)), some (.inl i)] [] w :=
  cq_in (fun hl => (cq_aload_n 1389 rfl 1 dL_law_1388 rfl rfl (cq_aload_n 1390 rfl 0 dL_law_1389 rfl rfl (cq_iload_n 1391 rfl 3 dL_law_1390 rfl rfl (cq_iconst 1392 rfl dL_law_1391 rfl (cq_iadd 1393 rfl dL_law_1392 (have h12 := h; have o1 := h12.1; have h11 := h12.2; (cl_sld 1394 rfl dL_law_1393 hn o1 (cq_aload_n 1395 rfl 0 dL_law_1394 rfl rfl (cq_iload_n 1396 rfl 3 dL_law_1395 rfl rfl (cq_iconst 1397 rfl dL_law_1396 rfl (cq_iadd 1398 rfl dL_law_1397 (have h14 := h11; have o2 := h14.1; have h13 := h14.2; (cl_sld 1399 rfl dL_law_1398 hn o2 (cq_callV 1402 rfl [.inl (cl_s f (i + 1)), .inl (cl_s f (i + 2))] [] dL_law_1399 cv_L_148 sh_0 rfl rfl (Nat.le_of_ble_eq_true rfl) (And.intro (cl_srng _ _) (And.intro (cl_srng _ _) True.intro)) (ck_mI h13 (fun v4 w3 q5 h6 => (cq_pop 1403 rfl dL_law_1402 rfl (cq_aload_n 1404 rfl 2 dL_law_1403 rfl rfl (cq_aload_n 1405 rfl 0 dL_law_1404 rfl rfl (cq_iload_n 1406 rfl 3 dL_law_1405 rfl rfl (cq_iconst 1407 rfl dL_law_1406 rfl (cq_iadd 1408 rfl dL_law_1407 (cl_sld 1409 rfl dL_law_1408 hn o1 (cq_aload_n 1410 rfl 0 dL_law_1409 rfl rfl (cq_iload_n 1411 rfl 3 dL_law_1410 rfl rfl (cq_iconst 1412 rfl dL_law_1411 rfl (cq_iadd 1413 rfl dL_law_1412 (cl_sld 1414 rfl dL_law_1413 hn o2 (cq_callV 1417 rfl [.inl (cl_s f (i + 1)), .inl (cl_s f (i + 2))] [] dL_law_1414 cv_L_151 sh_76 rfl rfl (Nat.le_of_ble_eq_true rfl) (And.intro (cl_srng _ _) (And.intro (cl_srng _ _) True.intro)) (ck_mI h6 (fun v8 w7 q9 h10 => (cq_pop 1418 rfl dL_law_1417 rfl (cq_goto 1470 dL_law_1418 rfl h10))))))))))))))))))))))))))))))))))
set_option maxRecDepth 8000 in
theorem r_L_1421 {g : ch_G} {A R : Nat} (hC : ck_Cx g A R) {n : Nat} {f : Nat → Int32} (hn : n < 2147483648) {w : ck_W} {i : Int} (h : ck_CI (ch_C g A R) 11 mX11_image [.inr (.inr 0)] w (fun v2 w1 => ck_CI (ch_C g A R) 11 mX12_image [.inr (.inr 76)] w1 (fun v6 w5 => cq_At (ch_C g A R) (cl_M (ch_C g A R) n f) mL_law 1470 [some (.inr (.inr 102)), some (.inr (.inr 0)), some (.inr (.inr 76)), some (.inl i)] [] w5))) : cq_At (ch_C g A R) (cl_M (ch_C g A R) n f) mL_law 1421 [some (.inr (.inr 102)), some (.inr (.inr 0)), some (.inr (.inr 76)), some (.inl i)] [] w :=
  cq_in (fun hl => (cq_aload_n 1422 rfl 1 dL_law_1421 rfl rfl (cq_callV 1425 rfl [] [] dL_law_1422 cv_L_152 sh_0 rfl rfl (Nat.le_of_ble_eq_true rfl) True.intro (ck_mI h (fun v2 w1 q3 h4 => (cq_pop 1426 rfl dL_law_1425 rfl (cq_aload_n 1427 rfl 2 dL_law_1426 rfl rfl (cq_callV 1430 rfl [] [] dL_law_1427 cv_L_155 sh_76 rfl rfl (Nat.le_of_ble_eq_true rfl) True.intro (ck_mI h4 (fun v6 w5 q7 h8 => (cq_pop 1431 rfl dL_law_1430 rfl (cq_goto 1470 dL_law_1431 rfl h8))))))))))))
set_option maxRecDepth 8000 in
theorem r_L_1434 {g : ch_G} {A R : Nat} (hC : ck_Cx g A R) {n : Nat} {f : Nat → Int32} (hn : n < 2147483648) {w : ck_W} {i : Int} (h : ck_CI (ch_C g A R) 11 mX11_back [.inr (.inr 0)] w (fun v2 w1 => ck_CI (ch_C g A R) 11 mX12_back [.inr (.inr 76)] w1 (fun v6 w5 => cq_At (ch_C g A R) (cl_M (ch_C g A R) n f) mL_law 1470 [some (.inr (.inr 102)), some (.inr (.inr 0)), some (.inr (.inr 76)), some (.inl i)] [] w5))) : cq_At (ch_C g A R) (cl_M (ch_C g A R) n f) mL_law 1434 [some (.inr (.inr 102)), some (.inr (.inr 0)), some (.inr (.inr 76)), some (.inl i)] [] w :=
  cq_in (fun hl => (cq_aload_n 1435 rfl 1 dL_law_1434 rfl rfl (cq_callV 1438 rfl [] [] dL_law_1435 cv_L_156 sh_0 rfl rfl (Nat.le_of_ble_eq_true rfl) True.intro (ck_mI h (fun v2 w1 q3 h4 => (cq_pop 1439 rfl dL_law_1438 rfl (cq_aload_n 1440 rfl 2 dL_law_1439 rfl rfl (cq_callV 1443 rfl [] [] dL_law_1440 cv_L_159 sh_76 rfl rfl (Nat.le_of_ble_eq_true rfl) True.intro (ck_mI h4 (fun v6 w5 q7 h8 => (cq_pop 1444 rfl dL_law_1443 rfl (cq_goto 1470 dL_law_1444 rfl h8))))))))))))
set_option maxRecDepth 8000 in
theorem r_L_1447 {g : ch_G} {A R : Nat} (hC : ck_Cx g A R) {n : Nat} {f : Nat → Int32} (hn : n < 2147483648) {w : ck_W} {i : Int} (h : (0 ≤ (i + 1) ∧ (i + 1) < (n : Int)) ∧ (ck_CI (ch_C g A R) 11 mX11_about [.inr (.inr 0), .inl (cl_s f (i + 1))] w (fun v3 w2 => ck_CI (ch_C g A R) 11 mX12_about [.inr (.inr 76), .inl (cl_s f (i + 1))] w2 (fun v7 w6 => cq_At (ch_C g A R) (cl_M (ch_C g A R) n f) mL_law 1470 [some (.inr (.inr 102)), some (.inr (.inr 0)), some (.inr (.inr 76)), some (.inl i)] [] w6)))) : cq_At (ch_C g A R) (cl_M (ch_C g A R) n f) mL_law 1447 [some (.inr (.inr 102)), some (.inr (.inr 0)), some (.inr (.inr 76)), some (.inl i)] [] w :=
  cq_in (fun hl => (cq_aload_n 1448 rfl 1 dL_law_1447 rfl rfl (cq_aload_n 1449 rfl 0 dL_law_1448 rfl rfl (cq_iload_n 1450 rfl 3 dL_law_1449 rfl rfl (cq_iconst 1451 rfl dL_law_1450 rfl (cq_iadd 1452 rfl dL_law_1451 (have h11 := h; have o1 := h11.1; have h10 := h11.2; (cl_sld 1453 rfl dL_law_1452 hn o1 (cq_callV 1456 rfl [.inl (cl_s f (i + 1))] [] dL_law_1453 cv_L_160 sh_0 rfl rfl (Nat.le_of_ble_eq_true rfl) (And.intro (cl_srng _ _) True.intro) (ck_mI h10 (fun v3 w2 q4 h5 => (cq_pop 1457 rfl dL_law_1456 rfl (cq_aload_n 1458 rfl 2 dL_law_1457 rfl rfl (cq_aload_n 1459 rfl 0 dL_law_1458 rfl rfl (cq_iload_n 1460 rfl 3 dL_law_1459 rfl rfl (cq_iconst 1461 rfl dL_law_1460 rfl (cq_iadd 1462 rfl dL_law_1461 (cl_sld 1463 rfl dL_law_1462 hn o1 (cq_callV 1466 rfl [.inl (cl_s f (i + 1))] [] dL_law_1463 cv_L_163 sh_76 rfl rfl (Nat.le_of_ble_eq_true rfl) (And.intro (cl_srng _ _) True.intro) (ck_mI h5 (fun v7 w6 q8 h9 => (cq_pop 1467 rfl dL_law_1466 rfl (cq_goto 1470 dL_law_1467 rfl h9)))))))))))))))))))))))
set_option maxRecDepth 8000 in
theorem r_L_1470 {g : ch_G} {A R : Nat} (hC : ck_Cx g A R) {n : Nat} {f : Nat → Int32} (hn : n < 2147483648) {w : ck_W} {i : Int} (h : ck_i (i + 6) ∧ (cq_At (ch_C g A R) (cl_M (ch_C g A R) n f) mL_law 38 [some (.inr (.inr 102)), some (.inr (.inr 0)), some (.inr (.inr 76)), some (.inl (i + 6))] [] w)) : cq_At (ch_C g A R) (cl_M (ch_C g A R) n f) mL_law 1470 [some (.inr (.inr 102)), some (.inr (.inr 0)), some (.inr (.inr 76)), some (.inl i)] [] w :=
  cq_in (fun hl => (have h3 := h; have o1 := h3.1; have h2 := h3.2; (cq_iinc 1473 rfl [some (.inr (.inr 102)), some (.inr (.inr 0)), some (.inr (.inr 76)), some (.inl (i + 6))] dL_law_1470 rfl (Nat.le_of_ble_eq_true rfl) rfl rfl o1 (cq_goto 38 dL_law_1473 rfl h2))))
