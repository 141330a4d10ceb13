theorem dL_build_236 : decode cL_build 236 = .ok (.iastore, 1) := by decide +kernel
theorem dL_build_237 : decode cL_build 237 = .ok (.dup, 1) := by decide +kernel
theorem dL_build_238 : decode cL_build 238 = .ok (.iconst 1, 1) := by decide +kernel
theorem dL_build_239 : decode cL_build 239 = .ok (.iload 8, 2) := by decide +kernel
theorem dL_build_241 : decode cL_build 241 = .ok (.iconst 5, 1) := by decide +kernel
theorem dL_build_242 : decode cL_build 242 = .ok (.ishr, 1) := by decide +kernel
theorem dL_build_243 : decode cL_build 243 = .ok (.bipush 24, 2) := by decide +kernel
theorem dL_build_245 : decode cL_build 245 = .ok (.invokestatic 18, 3) := by decide +kernel
theorem dL_build_248 : decode cL_build 248 = .ok (.iastore, 1) := by decide +kernel
theorem dL_build_249 : decode cL_build 249 = .ok (.dup, 1) := by decide +kernel
theorem dL_build_250 : decode cL_build 250 = .ok (.iconst 2, 1) := by decide +kernel
theorem dL_build_251 : decode cL_build 251 = .ok (.iconst 2, 1) := by decide +kernel
theorem dL_build_252 : decode cL_build 252 = .ok (.iload 9, 2) := by decide +kernel
theorem dL_build_254 : decode cL_build 254 = .ok (.invokestatic 38, 3) := by decide +kernel
theorem dL_build_257 : decode cL_build 257 = .ok (.iastore, 1) := by decide +kernel
theorem dL_build_258 : decode cL_build 258 = .ok (.dup, 1) := by decide +kernel
theorem dL_build_259 : decode cL_build 259 = .ok (.iconst 3, 1) := by decide +kernel
theorem dL_build_260 : decode cL_build 260 = .ok (.iload 8, 2) := by decide +kernel
theorem dL_build_262 : decode cL_build 262 = .ok (.bipush 7, 2) := by decide +kernel
theorem dL_build_264 : decode cL_build 264 = .ok (.ishr, 1) := by decide +kernel
theorem dL_build_265 : decode cL_build 265 = .ok (.iconst 4, 1) := by decide +kernel
theorem dL_build_266 : decode cL_build 266 = .ok (.invokestatic 18, 3) := by decide +kernel
theorem dL_build_269 : decode cL_build 269 = .ok (.iastore, 1) := by decide +kernel
theorem dL_build_270 : decode cL_build 270 = .ok (.dup, 1) := by decide +kernel
theorem dL_build_271 : decode cL_build 271 = .ok (.iconst 4, 1) := by decide +kernel
theorem dL_build_272 : decode cL_build 272 = .ok (.iload 8, 2) := by decide +kernel
theorem dL_build_274 : decode cL_build 274 = .ok (.iconst 4, 1) := by decide +kernel
theorem dL_build_275 : decode cL_build 275 = .ok (.ishr, 1) := by decide +kernel
theorem dL_build_276 : decode cL_build 276 = .ok (.bipush 6, 2) := by decide +kernel
theorem dL_build_278 : decode cL_build 278 = .ok (.invokestatic 18, 3) := by decide +kernel
theorem dL_build_281 : decode cL_build 281 = .ok (.iastore, 1) := by decide +kernel
theorem dL_build_282 : decode cL_build 282 = .ok (.dup, 1) := by decide +kernel
theorem dL_build_283 : decode cL_build 283 = .ok (.iconst 5, 1) := by decide +kernel
theorem dL_build_284 : decode cL_build 284 = .ok (.iload 8, 2) := by decide +kernel
theorem dL_build_286 : decode cL_build 286 = .ok (.bipush 8, 2) := by decide +kernel
theorem dL_build_288 : decode cL_build 288 = .ok (.ishr, 1) := by decide +kernel
theorem dL_build_289 : decode cL_build 289 = .ok (.iload 4, 2) := by decide +kernel
theorem dL_build_291 : decode cL_build 291 = .ok (.invokestatic 18, 3) := by decide +kernel
theorem dL_build_294 : decode cL_build 294 = .ok (.iastore, 1) := by decide +kernel
theorem dL_build_295 : decode cL_build 295 = .ok (.dup, 1) := by decide +kernel
theorem dL_build_296 : decode cL_build 296 = .ok (.bipush 6, 2) := by decide +kernel
theorem dL_build_298 : decode cL_build 298 = .ok (.iconst 1, 1) := by decide +kernel
theorem dL_build_299 : decode cL_build 299 = .ok (.iload 8, 2) := by decide +kernel
theorem dL_build_301 : decode cL_build 301 = .ok (.bipush 6, 2) := by decide +kernel
theorem dL_build_303 : decode cL_build 303 = .ok (.ishr, 1) := by decide +kernel
theorem dL_build_304 : decode cL_build 304 = .ok (.bipush 9, 2) := by decide +kernel
theorem dL_build_306 : decode cL_build 306 = .ok (.invokestatic 18, 3) := by decide +kernel
theorem dL_build_309 : decode cL_build 309 = .ok (.iadd, 1) := by decide +kernel
theorem dL_build_310 : decode cL_build 310 = .ok (.iastore, 1) := by decide +kernel
theorem dL_build_311 : decode cL_build 311 = .ok (.dup, 1) := by decide +kernel
theorem dL_build_312 : decode cL_build 312 = .ok (.bipush 7, 2) := by decide +kernel
theorem dL_build_314 : decode cL_build 314 = .ok (.iload 8, 2) := by decide +kernel
theorem dL_build_316 : decode cL_build 316 = .ok (.bipush 9, 2) := by decide +kernel
theorem dL_build_318 : decode cL_build 318 = .ok (.ishr, 1) := by decide +kernel
theorem dL_build_319 : decode cL_build 319 = .ok (.bipush 25, 2) := by decide +kernel
theorem dL_build_321 : decode cL_build 321 = .ok (.invokestatic 18, 3) := by decide +kernel
theorem dL_build_324 : decode cL_build 324 = .ok (.bipush 12, 2) := by decide +kernel
theorem dL_build_326 : decode cL_build 326 = .ok (.isub, 1) := by decide +kernel
theorem dL_build_327 : decode cL_build 327 = .ok (.iastore, 1) := by decide +kernel
theorem dL_build_328 : decode cL_build 328 = .ok (.dup, 1) := by decide +kernel
theorem dL_build_329 : decode cL_build 329 = .ok (.bipush 8, 2) := by decide +kernel
theorem dL_build_331 : decode cL_build 331 = .ok (.iconst 0, 1) := by decide +kernel
theorem dL_build_332 : decode cL_build 332 = .ok (.iastore, 1) := by decide +kernel
theorem dL_build_333 : decode cL_build 333 = .ok (.astore 10, 2) := by decide +kernel
theorem dL_build_335 : decode cL_build 335 = .ok (.iload 8, 2) := by decide +kernel
theorem dL_build_337 : decode cL_build 337 = .ok (.bipush 10, 2) := by decide +kernel
theorem dL_build_339 : decode cL_build 339 = .ok (.ishr, 1) := by decide +kernel
theorem dL_build_340 : decode cL_build 340 = .ok (.iconst 3, 1) := by decide +kernel
theorem dL_build_341 : decode cL_build 341 = .ok (.invokestatic 18, 3) := by decide +kernel
theorem dL_build_344 : decode cL_build 344 = .ok (.ifCond .le 14, 3) := by decide +kernel
theorem dL_build_347 : decode cL_build 347 = .ok (.aload 10, 2) := by decide +kernel
theorem dL_build_349 : decode cL_build 349 = .ok (.iconst 0, 1) := by decide +kernel
theorem dL_build_350 : decode cL_build 350 = .ok (.iconst 0, 1) := by decide +kernel
theorem dL_build_351 : decode cL_build 351 = .ok (.iastore, 1) := by decide +kernel
theorem dL_build_352 : decode cL_build 352 = .ok (.aload 10, 2) := by decide +kernel
theorem dL_build_354 : decode cL_build 354 = .ok (.iconst 1, 1) := by decide +kernel
theorem dL_build_355 : decode cL_build 355 = .ok (.bipush 23, 2) := by decide +kernel
theorem dL_build_357 : decode cL_build 357 = .ok (.iastore, 1) := by decide +kernel
theorem dL_build_358 : decode cL_build 358 = .ok (.aload_n 0, 1) := by decide +kernel
theorem dL_build_359 : decode cL_build 359 = .ok (.iload 5, 2) := by decide +kernel
theorem dL_build_361 : decode cL_build 361 = .ok (.invokevirtual 43, 3) := by decide +kernel
theorem dL_build_364 : decode cL_build 364 = .ok (.iload 7, 2) := by decide +kernel
theorem dL_build_366 : decode cL_build 366 = .ok (.iconst 1, 1) := by decide +kernel
theorem dL_build_367 : decode cL_build 367 = .ok (.iadd, 1) := by decide +kernel
theorem dL_build_368 : decode cL_build 368 = .ok (.if_icmp .ne 61, 3) := by decide +kernel
theorem dL_build_371 : decode cL_build 371 = .ok (.aload_n 0, 1) := by decide +kernel
theorem dL_build_372 : decode cL_build 372 = .ok (.iload 5, 2) := by decide +kernel
theorem dL_build_374 : decode cL_build 374 = .ok (.iload 7, 2) := by decide +kernel
theorem dL_build_376 : decode cL_build 376 = .ok (.aload 10, 2) := by decide +kernel
theorem dL_build_378 : decode cL_build 378 = .ok (.iconst 0, 1) := by decide +kernel
theorem dL_build_379 : decode cL_build 379 = .ok (.iaload, 1) := by decide +kernel
theorem dL_build_380 : decode cL_build 380 = .ok (.aload 10, 2) := by decide +kernel
theorem dL_build_382 : decode cL_build 382 = .ok (.iconst 1, 1) := by decide +kernel
theorem dL_build_383 : decode cL_build 383 = .ok (.iaload, 1) := by decide +kernel
theorem dL_build_384 : decode cL_build 384 = .ok (.aload 10, 2) := by decide +kernel
theorem dL_build_386 : decode cL_build 386 = .ok (.iconst 2, 1) := by decide +kernel
theorem dL_build_387 : decode cL_build 387 = .ok (.iaload, 1) := by decide +kernel
theorem dL_build_388 : decode cL_build 388 = .ok (.aload 10, 2) := by decide +kernel
theorem dL_build_390 : decode cL_build 390 = .ok (.iconst 3, 1) := by decide +kernel
theorem dL_build_391 : decode cL_build 391 = .ok (.iaload, 1) := by decide +kernel
theorem dL_build_392 : decode cL_build 392 = .ok (.invokevirtual 46, 3) := by decide +kernel
theorem dL_build_395 : decode cL_build 395 = .ok (.iconst 2, 1) := by decide +kernel
theorem dL_build_396 : decode cL_build 396 = .ok (.if_icmp .ne 33, 3) := by decide +kernel
theorem dL_build_399 : decode cL_build 399 = .ok (.aload_n 0, 1) := by decide +kernel
theorem dL_build_400 : decode cL_build 400 = .ok (.iload 5, 2) := by decide +kernel
theorem dL_build_402 : decode cL_build 402 = .ok (.iload 7, 2) := by decide +kernel
theorem dL_build_404 : decode cL_build 404 = .ok (.aload 10, 2) := by decide +kernel
theorem dL_build_406 : decode cL_build 406 = .ok (.iconst 4, 1) := by decide +kernel
theorem dL_build_407 : decode cL_build 407 = .ok (.iaload, 1) := by decide +kernel
theorem dL_build_408 : decode cL_build 408 = .ok (.aload 10, 2) := by decide +kernel
theorem dL_build_410 : decode cL_build 410 = .ok (.iconst 5, 1) := by decide +kernel
theorem dL_build_411 : decode cL_build 411 = .ok (.iaload, 1) := by decide +kernel
theorem dL_build_412 : decode cL_build 412 = .ok (.aload 10, 2) := by decide +kernel
theorem dL_build_414 : decode cL_build 414 = .ok (.bipush 6, 2) := by decide +kernel
theorem dL_build_416 : decode cL_build 416 = .ok (.iaload, 1) := by decide +kernel
theorem dL_build_417 : decode cL_build 417 = .ok (.aload 10, 2) := by decide +kernel
theorem dL_build_419 : decode cL_build 419 = .ok (.bipush 7, 2) := by decide +kernel
theorem dL_build_421 : decode cL_build 421 = .ok (.iaload, 1) := by decide +kernel
theorem dL_build_422 : decode cL_build 422 = .ok (.invokevirtual 50, 3) := by decide +kernel
theorem dL_build_425 : decode cL_build 425 = .ok (.iconst 1, 1) := by decide +kernel
theorem dL_build_426 : decode cL_build 426 = .ok (.if_icmp .eq 5, 3) := by decide +kernel
theorem dL_build_429 : decode cL_build 429 = .ok (.aconst_null, 1) := by decide +kernel
theorem dL_build_430 : decode cL_build 430 = .ok (.areturn, 1) := by decide +kernel
theorem dL_build_431 : decode cL_build 431 = .ok (.aload_n 3, 1) := by decide +kernel
theorem dL_build_432 : decode cL_build 432 = .ok (.getfield 53, 3) := by decide +kernel
theorem dL_build_435 : decode cL_build 435 = .ok (.iload 5, 2) := by decide +kernel
theorem dL_build_437 : decode cL_build 437 = .ok (.aaload, 1) := by decide +kernel
theorem dL_build_438 : decode cL_build 438 = .ok (.aload_n 3, 1) := by decide +kernel
theorem dL_build_439 : decode cL_build 439 = .ok (.getfield 53, 3) := by decide +kernel
theorem dL_build_442 : decode cL_build 442 = .ok (.iload 5, 2) := by decide +kernel
theorem dL_build_444 : decode cL_build 444 = .ok (.aaload, 1) := by decide +kernel
theorem dL_build_445 : decode cL_build 445 = .ok (.getfield 57, 3) := by decide +kernel
theorem dL_build_448 : decode cL_build 448 = .ok (.iload 7, 2) := by decide +kernel
theorem dL_build_450 : decode cL_build 450 = .ok (.aload 10, 2) := by decide +kernel
theorem dL_build_452 : decode cL_build 452 = .ok (.invokestatic 63, 3) := by decide +kernel
theorem dL_build_455 : decode cL_build 455 = .ok (.putfield 57, 3) := by decide +kernel
theorem dL_build_458 : decode cL_build 458 = .ok (.iinc 7 1, 3) := by decide +kernel
theorem dL_build_461 : decode cL_build 461 = .ok (.goto (-292), 3) := by decide +kernel
theorem dL_build_464 : decode cL_build 464 = .ok (.iinc 5 1, 3) := by decide +kernel
theorem dL_build_467 : decode cL_build 467 = .ok (.goto (-325), 3) := by decide +kernel
theorem dL_build_470 : decode cL_build 470 = .ok (.aload_n 3, 1) := by decide +kernel
theorem dL_build_471 : decode cL_build 471 = .ok (.areturn, 1) := by decide +kernel
set_option maxRecDepth 20000 in
theorem ggL_build_X7_init : GoodIn wsL_build wsX7_init := goodIn_r _ [13, 14, 15, 16, 17, 18, 19, 20, 21, 22, 217, 218, 219, 220, 221, 222, 223, 224, 225] (by decide +kernel) (by decide +kernel)
set_option maxRecDepth 20000 in
theorem ggL_build_L_cell : GoodIn wsL_build wsL_cell := goodIn_r _ [26, 27] (by decide +kernel) (by decide +kernel)
set_option maxRecDepth 20000 in
theorem ggL_build_L_below : GoodIn wsL_build wsL_below := goodIn_r _ [30, 31] (by decide +kernel) (by decide +kernel)
set_option maxRecDepth 20000 in
theorem ggL_build_X6_setHour : GoodIn wsL_build wsX6_setHour := goodIn_ca (goodIn_r _ [36, 37, 38, 39, 40, 41, 35, 42, 233, 234, 235, 236, 237, 238, 239, 240, 241] (by decide +kernel) (by decide +kernel)) (goodIn_sub (fun _ h => List.mem_cons_of_mem _ (List.mem_append_left _ (List.mem_append_left _ (List.mem_append_left _ (List.mem_append_right _ h))))) (by decide +kernel))
set_option maxRecDepth 20000 in
theorem ggL_build_X6_moveIn : GoodIn wsL_build wsX6_moveIn := goodIn_ca (goodIn_ca (goodIn_r _ [46, 37, 38, 47, 48, 49, 50, 51, 52, 40, 41, 35, 42, 53, 54, 55, 56, 57, 58, 59, 60, 61, 62, 15, 16, 63, 64, 65, 66, 67, 68, 69, 70, 71, 72, 73, 74, 75, 76, 77, 78, 79, 80, 81, 82, 83, 84, 85, 86, 87, 88, 89, 90, 91, 92, 93, 94, 95, 96, 97, 98, 99, 100, 101, 102, 103, 104, 105, 8, 106, 107, 108, 109, 110, 111, 112, 113, 114, 115, 116, 117, 118, 119, 120, 121, 122, 123, 124, 125, 126, 127, 128, 129, 130, 7, 9, 131, 132, 133, 134, 233, 234, 235, 236, 237, 238, 239, 240, 241, 242, 243, 244, 245, 246, 247, 248, 249, 250, 251, 252] (by decide +kernel) (by decide +kernel)) (goodIn_sub (fun _ h => List.mem_cons_of_mem _ (List.mem_append_left _ (List.mem_append_left _ (List.mem_append_left _ (List.mem_append_right _ h))))) (by decide +kernel))) (goodIn_sub (fun _ h => List.mem_cons_of_mem _ (List.mem_append_left _ (List.mem_append_left _ (List.mem_append_right _ h)))) (by decide +kernel))
set_option maxRecDepth 20000 in
theorem ggL_build_X7_moveIn : GoodIn wsL_build wsX7_moveIn := goodIn_r _ [138, 18, 139, 140, 141, 142, 143, 19, 144, 145, 146, 15, 16, 147, 148, 149, 226, 227, 228, 229, 230, 231, 232, 217, 218, 219, 220, 221, 222, 223, 224, 225] (by decide +kernel) (by decide +kernel)
set_option maxRecDepth 20000 in
theorem ggL_build_X6_addHabit : GoodIn wsL_build wsX6_addHabit := goodIn_ca (goodIn_ca (goodIn_r _ [153, 47, 48, 154, 155, 156, 157, 158, 159, 160, 35, 161, 162, 163, 49, 164, 53, 54, 55, 56, 57, 58, 40, 41, 42, 165, 166, 167, 168, 169, 170, 171, 172, 173, 174, 175, 176, 177, 178, 179, 180, 75, 181, 182, 183, 184, 15, 16, 185, 186, 187, 188, 189, 86, 87, 88, 89, 90, 91, 92, 93, 94, 95, 96, 97, 98, 99, 100, 101, 102, 103, 74, 104, 105, 8, 106, 107, 108, 109, 110, 111, 112, 113, 114, 115, 116, 117, 118, 119, 120, 121, 122, 123, 124, 125, 126, 127, 128, 129, 130, 7, 9, 131, 132, 133, 134, 242, 243, 244, 245, 246, 247, 248, 249, 253, 254, 255, 256, 257, 258, 259, 260, 261, 233, 234, 235, 236, 237, 238, 239, 240, 241, 250, 251, 252] (by decide +kernel) (by decide +kernel)) (goodIn_sub (fun _ h => List.mem_cons_of_mem _ (List.mem_append_left _ (List.mem_append_left _ (List.mem_append_right _ h)))) (by decide +kernel))) (goodIn_sub (fun _ h => List.mem_cons_of_mem _ (List.mem_append_left _ (List.mem_append_right _ h))) (by decide +kernel))
set_option maxRecDepth 20000 in
theorem ggL_build_X6_setWhen : GoodIn wsL_build wsX6_setWhen := goodIn_ca (goodIn_ca (goodIn_ca (goodIn_r _ [193, 37, 38, 194, 195, 196, 197, 158, 159, 160, 35, 161, 162, 163, 49, 164, 53, 54, 55, 56, 57, 58, 40, 41, 42, 165, 166, 167, 168, 169, 170, 171, 172, 173, 174, 175, 176, 177, 178, 179, 180, 75, 198, 199, 200, 52, 201, 202, 65, 203, 204, 205, 253, 254, 255, 256, 257, 258, 259, 260, 261, 233, 234, 235, 236, 237, 238, 239, 240, 241, 250, 251, 252, 242, 243, 244, 245, 246, 247, 248, 249] (by decide +kernel) (by decide +kernel)) (goodIn_sub (fun _ h => List.mem_cons_of_mem _ (List.mem_append_left _ (List.mem_append_left _ (List.mem_append_left _ (List.mem_append_right _ h))))) (by decide +kernel))) (goodIn_sub (fun _ h => List.mem_cons_of_mem _ (List.mem_append_left _ (List.mem_append_right _ h))) (by decide +kernel))) (goodIn_sub (fun _ h => List.mem_cons_of_mem _ (List.mem_append_right _ h)) (by decide +kernel))
set_option maxRecDepth 20000 in
theorem ggL_build_X6_setWhat : GoodIn wsL_build wsX6_setWhat := goodIn_ca (goodIn_ca (goodIn_ca (goodIn_r _ [209, 162, 163, 37, 38, 49, 210, 211, 212, 213, 158, 159, 160, 35, 161, 164, 53, 54, 55, 56, 57, 58, 40, 41, 42, 165, 166, 167, 168, 169, 170, 171, 172, 173, 174, 175, 176, 177, 178, 179, 180, 75, 198, 199, 200, 52, 201, 202, 65, 203, 204, 205, 233, 234, 235, 236, 237, 238, 239, 240, 241, 253, 254, 255, 256, 257, 258, 259, 260, 261, 250, 251, 252, 242, 243, 244, 245, 246, 247, 248, 249] (by decide +kernel) (by decide +kernel)) (goodIn_sub (fun _ h => List.mem_cons_of_mem _ (List.mem_append_left _ (List.mem_append_right _ h))) (by decide +kernel))) (goodIn_sub (fun _ h => List.mem_cons_of_mem _ (List.mem_append_left _ (List.mem_append_left _ (List.mem_append_left _ (List.mem_append_right _ h))))) (by decide +kernel))) (goodIn_sub (fun _ h => List.mem_cons_of_mem _ (List.mem_append_right _ h)) (by decide +kernel))
set_option maxRecDepth 20000 in
theorem ggL_build_X7_more : GoodIn wsL_build wsX7_more := goodIn_r _ [216, 20] (by decide +kernel) (by decide +kernel)
