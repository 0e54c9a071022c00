/-! ===== the law: its instructions, 1 (by program, wip/whole/p107.py) ===== -/
theorem dl_0 : decode code 0 = .ok ((.new 8), 3) := by decide +kernel
theorem dl_3 : decode code 3 = .ok (.dup, 1) := by decide +kernel
theorem dl_4 : decode code 4 = .ok ((.invokespecial 15), 3) := by decide +kernel
theorem dl_7 : decode code 7 = .ok ((.astore_n 1), 1) := by decide +kernel
theorem dl_8 : decode code 8 = .ok ((.new 16), 3) := by decide +kernel
theorem dl_11 : decode code 11 = .ok (.dup, 1) := by decide +kernel
theorem dl_12 : decode code 12 = .ok ((.invokespecial 18), 3) := by decide +kernel
theorem dl_15 : decode code 15 = .ok ((.astore_n 2), 1) := by decide +kernel
theorem dl_16 : decode code 16 = .ok ((.iconst 1), 1) := by decide +kernel
theorem dl_17 : decode code 17 = .ok ((.newarray .long), 2) := by decide +kernel
theorem dl_19 : decode code 19 = .ok ((.astore_n 3), 1) := by decide +kernel
theorem dl_20 : decode code 20 = .ok ((.iconst 0), 1) := by decide +kernel
theorem dl_21 : decode code 21 = .ok ((.istore 4), 2) := by decide +kernel
theorem dl_23 : decode code 23 = .ok ((.iload 4), 2) := by decide +kernel
theorem dl_25 : decode code 25 = .ok ((.aload_n 0), 1) := by decide +kernel
theorem dl_26 : decode code 26 = .ok (.arraylength, 1) := by decide +kernel
theorem dl_27 : decode code 27 = .ok ((.bipush 6), 2) := by decide +kernel
theorem dl_29 : decode code 29 = .ok (.isub, 1) := by decide +kernel
theorem dl_30 : decode code 30 = .ok ((.if_icmp .gt 1419), 3) := by decide +kernel
theorem dl_33 : decode code 33 = .ok ((.aload_n 0), 1) := by decide +kernel
theorem dl_34 : decode code 34 = .ok ((.iload 4), 2) := by decide +kernel
theorem dl_36 : decode code 36 = .ok (.iaload, 1) := by decide +kernel
theorem dl_37 : decode code 37 = .ok ((.bipush 63), 2) := by decide +kernel
theorem dl_39 : decode code 39 = .ok (.iand, 1) := by decide +kernel
theorem dl_40 : decode code 40 = .ok ((.tableswitch 1403 0 39 #[176, 249, 274, 299, 324, 392, 417, 454, 479, 516, 553, 578, 603, 672, 685, 722, 759, 796, 833, 870, 883, 908, 933, 958, 983, 1008, 1033, 1058, 1095, 1120, 1133, 1182, 1207, 1220, 1245, 1258, 1327, 1352, 1365, 1378]), 176) := by decide +kernel
theorem dl_216 : decode code 216 = .ok ((.aload_n 1), 1) := by decide +kernel
theorem dl_217 : decode code 217 = .ok ((.aload_n 0), 1) := by decide +kernel
theorem dl_218 : decode code 218 = .ok ((.iload 4), 2) := by decide +kernel
theorem dl_220 : decode code 220 = .ok ((.iconst 1), 1) := by decide +kernel
theorem dl_221 : decode code 221 = .ok (.iadd, 1) := by decide +kernel
theorem dl_222 : decode code 222 = .ok (.iaload, 1) := by decide +kernel
theorem dl_223 : decode code 223 = .ok ((.aload_n 0), 1) := by decide +kernel
theorem dl_224 : decode code 224 = .ok ((.iload 4), 2) := by decide +kernel
theorem dl_226 : decode code 226 = .ok ((.iconst 2), 1) := by decide +kernel
theorem dl_227 : decode code 227 = .ok (.iadd, 1) := by decide +kernel
theorem dl_228 : decode code 228 = .ok (.iaload, 1) := by decide +kernel
theorem dl_229 : decode code 229 = .ok ((.aload_n 0), 1) := by decide +kernel
theorem dl_230 : decode code 230 = .ok ((.iload 4), 2) := by decide +kernel
theorem dl_232 : decode code 232 = .ok ((.iconst 3), 1) := by decide +kernel
theorem dl_233 : decode code 233 = .ok (.iadd, 1) := by decide +kernel
theorem dl_234 : decode code 234 = .ok (.iaload, 1) := by decide +kernel
theorem dl_235 : decode code 235 = .ok ((.aload_n 0), 1) := by decide +kernel
theorem dl_236 : decode code 236 = .ok ((.iload 4), 2) := by decide +kernel
theorem dl_238 : decode code 238 = .ok ((.iconst 4), 1) := by decide +kernel
theorem dl_239 : decode code 239 = .ok (.iadd, 1) := by decide +kernel
theorem dl_240 : decode code 240 = .ok (.iaload, 1) := by decide +kernel
theorem dl_241 : decode code 241 = .ok ((.aload_n 0), 1) := by decide +kernel
theorem dl_242 : decode code 242 = .ok ((.iload 4), 2) := by decide +kernel
theorem dl_244 : decode code 244 = .ok ((.iconst 5), 1) := by decide +kernel
theorem dl_245 : decode code 245 = .ok (.iadd, 1) := by decide +kernel
theorem dl_246 : decode code 246 = .ok (.iaload, 1) := by decide +kernel
theorem dl_247 : decode code 247 = .ok ((.invokevirtual 19), 3) := by decide +kernel
theorem dl_250 : decode code 250 = .ok ((.aload_n 2), 1) := by decide +kernel
theorem dl_251 : decode code 251 = .ok ((.aload_n 0), 1) := by decide +kernel
theorem dl_252 : decode code 252 = .ok ((.iload 4), 2) := by decide +kernel
theorem dl_254 : decode code 254 = .ok ((.iconst 1), 1) := by decide +kernel
theorem dl_255 : decode code 255 = .ok (.iadd, 1) := by decide +kernel
theorem dl_256 : decode code 256 = .ok (.iaload, 1) := by decide +kernel
theorem dl_257 : decode code 257 = .ok ((.aload_n 0), 1) := by decide +kernel
theorem dl_258 : decode code 258 = .ok ((.iload 4), 2) := by decide +kernel
theorem dl_260 : decode code 260 = .ok ((.iconst 2), 1) := by decide +kernel
theorem dl_261 : decode code 261 = .ok (.iadd, 1) := by decide +kernel
theorem dl_262 : decode code 262 = .ok (.iaload, 1) := by decide +kernel
theorem dl_263 : decode code 263 = .ok ((.aload_n 0), 1) := by decide +kernel
theorem dl_264 : decode code 264 = .ok ((.iload 4), 2) := by decide +kernel
theorem dl_266 : decode code 266 = .ok ((.iconst 3), 1) := by decide +kernel
theorem dl_267 : decode code 267 = .ok (.iadd, 1) := by decide +kernel
theorem dl_268 : decode code 268 = .ok (.iaload, 1) := by decide +kernel
theorem dl_269 : decode code 269 = .ok ((.aload_n 0), 1) := by decide +kernel
theorem dl_270 : decode code 270 = .ok ((.iload 4), 2) := by decide +kernel
theorem dl_272 : decode code 272 = .ok ((.iconst 4), 1) := by decide +kernel
theorem dl_273 : decode code 273 = .ok (.iadd, 1) := by decide +kernel
theorem dl_274 : decode code 274 = .ok (.iaload, 1) := by decide +kernel
theorem dl_275 : decode code 275 = .ok ((.aload_n 0), 1) := by decide +kernel
theorem dl_276 : decode code 276 = .ok ((.iload 4), 2) := by decide +kernel
theorem dl_278 : decode code 278 = .ok ((.iconst 5), 1) := by decide +kernel
theorem dl_279 : decode code 279 = .ok (.iadd, 1) := by decide +kernel
theorem dl_280 : decode code 280 = .ok (.iaload, 1) := by decide +kernel
theorem dl_281 : decode code 281 = .ok ((.invokevirtual 23), 3) := by decide +kernel
theorem dl_284 : decode code 284 = .ok ((.if_icmp .eq 1159), 3) := by decide +kernel
theorem dl_287 : decode code 287 = .ok ((.iconst 0), 1) := by decide +kernel
theorem dl_288 : decode code 288 = .ok (.ireturn, 1) := by decide +kernel
theorem dl_289 : decode code 289 = .ok ((.aload_n 1), 1) := by decide +kernel
theorem dl_290 : decode code 290 = .ok ((.aload_n 0), 1) := by decide +kernel
theorem dl_291 : decode code 291 = .ok ((.iload 4), 2) := by decide +kernel
theorem dl_293 : decode code 293 = .ok ((.iconst 1), 1) := by decide +kernel
theorem dl_294 : decode code 294 = .ok (.iadd, 1) := by decide +kernel
theorem dl_295 : decode code 295 = .ok (.iaload, 1) := by decide +kernel
theorem dl_296 : decode code 296 = .ok ((.invokevirtual 24), 3) := by decide +kernel
theorem dl_299 : decode code 299 = .ok ((.aload_n 2), 1) := by decide +kernel
theorem dl_300 : decode code 300 = .ok ((.aload_n 0), 1) := by decide +kernel
theorem dl_301 : decode code 301 = .ok ((.iload 4), 2) := by decide +kernel
theorem dl_303 : decode code 303 = .ok ((.iconst 1), 1) := by decide +kernel
theorem dl_304 : decode code 304 = .ok (.iadd, 1) := by decide +kernel
theorem dl_305 : decode code 305 = .ok (.iaload, 1) := by decide +kernel
theorem dl_306 : decode code 306 = .ok ((.invokevirtual 28), 3) := by decide +kernel
theorem dl_309 : decode code 309 = .ok ((.if_icmp .eq 1134), 3) := by decide +kernel
theorem dl_312 : decode code 312 = .ok ((.iconst 0), 1) := by decide +kernel
theorem dl_313 : decode code 313 = .ok (.ireturn, 1) := by decide +kernel
theorem dl_314 : decode code 314 = .ok ((.aload_n 1), 1) := by decide +kernel
theorem dl_315 : decode code 315 = .ok ((.aload_n 0), 1) := by decide +kernel
theorem dl_316 : decode code 316 = .ok ((.iload 4), 2) := by decide +kernel
theorem dl_318 : decode code 318 = .ok ((.iconst 1), 1) := by decide +kernel
theorem dl_319 : decode code 319 = .ok (.iadd, 1) := by decide +kernel
theorem dl_320 : decode code 320 = .ok (.iaload, 1) := by decide +kernel
theorem dl_321 : decode code 321 = .ok ((.invokevirtual 29), 3) := by decide +kernel
theorem dl_324 : decode code 324 = .ok ((.aload_n 2), 1) := by decide +kernel
theorem dl_325 : decode code 325 = .ok ((.aload_n 0), 1) := by decide +kernel
theorem dl_326 : decode code 326 = .ok ((.iload 4), 2) := by decide +kernel
theorem dl_328 : decode code 328 = .ok ((.iconst 1), 1) := by decide +kernel
theorem dl_329 : decode code 329 = .ok (.iadd, 1) := by decide +kernel
theorem dl_330 : decode code 330 = .ok (.iaload, 1) := by decide +kernel
theorem dl_331 : decode code 331 = .ok ((.invokevirtual 33), 3) := by decide +kernel
theorem dl_334 : decode code 334 = .ok ((.if_icmp .eq 1109), 3) := by decide +kernel
theorem dl_337 : decode code 337 = .ok ((.iconst 0), 1) := by decide +kernel
theorem dl_338 : decode code 338 = .ok (.ireturn, 1) := by decide +kernel
theorem dl_339 : decode code 339 = .ok ((.aload_n 1), 1) := by decide +kernel
theorem dl_340 : decode code 340 = .ok ((.aload_n 0), 1) := by decide +kernel
theorem dl_341 : decode code 341 = .ok ((.iload 4), 2) := by decide +kernel
theorem dl_343 : decode code 343 = .ok ((.iconst 1), 1) := by decide +kernel
theorem dl_344 : decode code 344 = .ok (.iadd, 1) := by decide +kernel
theorem dl_345 : decode code 345 = .ok (.iaload, 1) := by decide +kernel
theorem dl_346 : decode code 346 = .ok ((.invokevirtual 34), 3) := by decide +kernel
theorem dl_349 : decode code 349 = .ok ((.aload_n 2), 1) := by decide +kernel
theorem dl_350 : decode code 350 = .ok ((.aload_n 0), 1) := by decide +kernel
theorem dl_351 : decode code 351 = .ok ((.iload 4), 2) := by decide +kernel
theorem dl_353 : decode code 353 = .ok ((.iconst 1), 1) := by decide +kernel
theorem dl_354 : decode code 354 = .ok (.iadd, 1) := by decide +kernel
theorem dl_355 : decode code 355 = .ok (.iaload, 1) := by decide +kernel
theorem dl_356 : decode code 356 = .ok ((.invokevirtual 37), 3) := by decide +kernel
theorem dl_359 : decode code 359 = .ok ((.if_icmp .eq 1084), 3) := by decide +kernel
theorem dl_362 : decode code 362 = .ok ((.iconst 0), 1) := by decide +kernel
theorem dl_363 : decode code 363 = .ok (.ireturn, 1) := by decide +kernel
theorem dl_364 : decode code 364 = .ok ((.aload_n 1), 1) := by decide +kernel
theorem dl_365 : decode code 365 = .ok ((.aload_n 0), 1) := by decide +kernel
theorem dl_366 : decode code 366 = .ok ((.iload 4), 2) := by decide +kernel
theorem dl_368 : decode code 368 = .ok ((.iconst 1), 1) := by decide +kernel
theorem dl_369 : decode code 369 = .ok (.iadd, 1) := by decide +kernel
theorem dl_370 : decode code 370 = .ok (.iaload, 1) := by decide +kernel
theorem dl_371 : decode code 371 = .ok ((.aload_n 0), 1) := by decide +kernel
theorem dl_372 : decode code 372 = .ok ((.iload 4), 2) := by decide +kernel
theorem dl_374 : decode code 374 = .ok ((.iconst 2), 1) := by decide +kernel
theorem dl_375 : decode code 375 = .ok (.iadd, 1) := by decide +kernel
theorem dl_376 : decode code 376 = .ok (.iaload, 1) := by decide +kernel
theorem dl_377 : decode code 377 = .ok ((.aload_n 3), 1) := by decide +kernel
theorem dl_378 : decode code 378 = .ok ((.invokestatic 38), 3) := by decide +kernel
theorem dl_381 : decode code 381 = .ok ((.istore 5), 2) := by decide +kernel
theorem dl_383 : decode code 383 = .ok ((.aload_n 2), 1) := by decide +kernel
theorem dl_384 : decode code 384 = .ok ((.aload_n 0), 1) := by decide +kernel
theorem dl_385 : decode code 385 = .ok ((.iload 4), 2) := by decide +kernel
theorem dl_387 : decode code 387 = .ok ((.iconst 1), 1) := by decide +kernel
theorem dl_388 : decode code 388 = .ok (.iadd, 1) := by decide +kernel
theorem dl_389 : decode code 389 = .ok (.iaload, 1) := by decide +kernel
theorem dl_390 : decode code 390 = .ok ((.aload_n 0), 1) := by decide +kernel
theorem dl_391 : decode code 391 = .ok ((.iload 4), 2) := by decide +kernel
theorem dl_393 : decode code 393 = .ok ((.iconst 2), 1) := by decide +kernel
theorem dl_394 : decode code 394 = .ok (.iadd, 1) := by decide +kernel
theorem dl_395 : decode code 395 = .ok (.iaload, 1) := by decide +kernel
theorem dl_396 : decode code 396 = .ok ((.invokevirtual 43), 3) := by decide +kernel
theorem dl_399 : decode code 399 = .ok ((.istore 6), 2) := by decide +kernel
theorem dl_401 : decode code 401 = .ok ((.aload_n 2), 1) := by decide +kernel
theorem dl_402 : decode code 402 = .ok ((.invokevirtual 44), 3) := by decide +kernel
theorem dl_405 : decode code 405 = .ok ((.iload 5), 2) := by decide +kernel
theorem dl_407 : decode code 407 = .ok ((.if_icmp .eq 5), 3) := by decide +kernel
theorem dl_410 : decode code 410 = .ok ((.iconst 0), 1) := by decide +kernel
theorem dl_411 : decode code 411 = .ok (.ireturn, 1) := by decide +kernel
theorem dl_412 : decode code 412 = .ok ((.iload 5), 2) := by decide +kernel
theorem dl_414 : decode code 414 = .ok ((.ifCond .ne 15), 3) := by decide +kernel
theorem dl_417 : decode code 417 = .ok ((.aload_n 3), 1) := by decide +kernel
theorem dl_418 : decode code 418 = .ok ((.iconst 0), 1) := by decide +kernel
theorem dl_419 : decode code 419 = .ok (.laload, 1) := by decide +kernel
theorem dl_420 : decode code 420 = .ok ((.iload 6), 2) := by decide +kernel
theorem dl_422 : decode code 422 = .ok (.i2l, 1) := by decide +kernel
theorem dl_423 : decode code 423 = .ok (.lcmp, 1) := by decide +kernel
theorem dl_424 : decode code 424 = .ok ((.ifCond .eq 5), 3) := by decide +kernel
theorem dl_427 : decode code 427 = .ok ((.iconst 0), 1) := by decide +kernel
theorem dl_428 : decode code 428 = .ok (.ireturn, 1) := by decide +kernel
