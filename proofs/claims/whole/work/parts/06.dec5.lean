set_option maxRecDepth 20000 in
theorem dlaw_0 : D1 code 0 (.new 7) 3 3 := ⟨by decide +kernel, rfl⟩
set_option maxRecDepth 20000 in
theorem dlaw_3 : D1 code 3 (.dup) 1 4 := ⟨by decide +kernel, rfl⟩
set_option maxRecDepth 20000 in
theorem dlaw_4 : D1 code 4 (.invokespecial 9) 3 7 := ⟨by decide +kernel, rfl⟩
set_option maxRecDepth 20000 in
theorem dlaw_7 : D1 code 7 (.astore_n 1) 1 8 := ⟨by decide +kernel, rfl⟩
set_option maxRecDepth 20000 in
theorem dlaw_8 : D1 code 8 (.new 10) 3 11 := ⟨by decide +kernel, rfl⟩
set_option maxRecDepth 20000 in
theorem dlaw_11 : D1 code 11 (.dup) 1 12 := ⟨by decide +kernel, rfl⟩
set_option maxRecDepth 20000 in
theorem dlaw_12 : D1 code 12 (.invokespecial 12) 3 15 := ⟨by decide +kernel, rfl⟩
set_option maxRecDepth 20000 in
theorem dlaw_15 : D1 code 15 (.astore_n 2) 1 16 := ⟨by decide +kernel, rfl⟩
set_option maxRecDepth 20000 in
theorem dlaw_16 : D1 code 16 (.iconst 0) 1 17 := ⟨by decide +kernel, rfl⟩
set_option maxRecDepth 20000 in
theorem dlaw_17 : D1 code 17 (.istore_n 3) 1 18 := ⟨by decide +kernel, rfl⟩
set_option maxRecDepth 20000 in
theorem dlaw_18 : D1 code 18 (.iload_n 3) 1 19 := ⟨by decide +kernel, rfl⟩
set_option maxRecDepth 20000 in
theorem dlaw_19 : D1 code 19 (.aload_n 0) 1 20 := ⟨by decide +kernel, rfl⟩
set_option maxRecDepth 20000 in
theorem dlaw_20 : D1 code 20 (.arraylength) 1 21 := ⟨by decide +kernel, rfl⟩
set_option maxRecDepth 20000 in
theorem dlaw_21 : D1 code 21 (.bipush 6) 2 23 := ⟨by decide +kernel, rfl⟩
set_option maxRecDepth 20000 in
theorem dlaw_23 : D1 code 23 (.isub) 1 24 := ⟨by decide +kernel, rfl⟩
set_option maxRecDepth 20000 in
theorem dlaw_24 : DJ code 24 (.if_icmp .gt) 27 1496 := ⟨1472, by decide +kernel, rfl, by decide⟩
set_option maxRecDepth 20000 in
theorem dlaw_27 : D1 code 27 (.aload_n 0) 1 28 := ⟨by decide +kernel, rfl⟩
set_option maxRecDepth 20000 in
theorem dlaw_28 : D1 code 28 (.iload_n 3) 1 29 := ⟨by decide +kernel, rfl⟩
set_option maxRecDepth 20000 in
theorem dlaw_29 : D1 code 29 (.iaload) 1 30 := ⟨by decide +kernel, rfl⟩
set_option maxRecDepth 20000 in
theorem dlaw_30 : D1 code 30 (.bipush 63) 2 32 := ⟨by decide +kernel, rfl⟩
set_option maxRecDepth 20000 in
theorem dlaw_32 : D1 code 32 (.iand) 1 33 := ⟨by decide +kernel, rfl⟩
set_option maxRecDepth 20000 in
theorem dlaw_33 : decode code 33 = .ok (.tableswitch 1457 0 45 #[199, 222, 255, 298, 331, 364, 407, 440, 463, 486, 509, 542, 565, 588, 611, 634, 667, 700, 733, 756, 789, 812, 835, 858, 881, 894, 917, 930, 953, 976, 1009, 1022, 1035, 1068, 1101, 1144, 1187, 1250, 1273, 1306, 1339, 1372, 1385, 1398, 1411, 1434], 199) := by decide +kernel
set_option maxRecDepth 20000 in
theorem dlaw_232 : D1 code 232 (.aload_n 1) 1 233 := ⟨by decide +kernel, rfl⟩
set_option maxRecDepth 20000 in
theorem dlaw_233 : D1 code 233 (.aload_n 0) 1 234 := ⟨by decide +kernel, rfl⟩
set_option maxRecDepth 20000 in
theorem dlaw_234 : D1 code 234 (.iload_n 3) 1 235 := ⟨by decide +kernel, rfl⟩
set_option maxRecDepth 20000 in
theorem dlaw_235 : D1 code 235 (.iconst 1) 1 236 := ⟨by decide +kernel, rfl⟩
set_option maxRecDepth 20000 in
theorem dlaw_236 : D1 code 236 (.iadd) 1 237 := ⟨by decide +kernel, rfl⟩
set_option maxRecDepth 20000 in
theorem dlaw_237 : D1 code 237 (.iaload) 1 238 := ⟨by decide +kernel, rfl⟩
set_option maxRecDepth 20000 in
theorem dlaw_238 : D1 code 238 (.invokevirtual 13) 3 241 := ⟨by decide +kernel, rfl⟩
set_option maxRecDepth 20000 in
theorem dlaw_241 : D1 code 241 (.aload_n 2) 1 242 := ⟨by decide +kernel, rfl⟩
set_option maxRecDepth 20000 in
theorem dlaw_242 : D1 code 242 (.aload_n 0) 1 243 := ⟨by decide +kernel, rfl⟩
set_option maxRecDepth 20000 in
theorem dlaw_243 : D1 code 243 (.iload_n 3) 1 244 := ⟨by decide +kernel, rfl⟩
set_option maxRecDepth 20000 in
theorem dlaw_244 : D1 code 244 (.iconst 1) 1 245 := ⟨by decide +kernel, rfl⟩
set_option maxRecDepth 20000 in
theorem dlaw_245 : D1 code 245 (.iadd) 1 246 := ⟨by decide +kernel, rfl⟩
set_option maxRecDepth 20000 in
theorem dlaw_246 : D1 code 246 (.iaload) 1 247 := ⟨by decide +kernel, rfl⟩
set_option maxRecDepth 20000 in
theorem dlaw_247 : D1 code 247 (.invokevirtual 17) 3 250 := ⟨by decide +kernel, rfl⟩
set_option maxRecDepth 20000 in
theorem dlaw_250 : DJ code 250 (.if_icmp .eq) 253 1490 := ⟨1240, by decide +kernel, rfl, by decide⟩
set_option maxRecDepth 20000 in
theorem dlaw_253 : D1 code 253 (.iconst 0) 1 254 := ⟨by decide +kernel, rfl⟩
set_option maxRecDepth 20000 in
theorem dlaw_254 : D1 code 254 (.ireturn) 1 255 := ⟨by decide +kernel, rfl⟩
set_option maxRecDepth 20000 in
theorem dlaw_255 : D1 code 255 (.aload_n 1) 1 256 := ⟨by decide +kernel, rfl⟩
set_option maxRecDepth 20000 in
theorem dlaw_256 : D1 code 256 (.aload_n 0) 1 257 := ⟨by decide +kernel, rfl⟩
set_option maxRecDepth 20000 in
theorem dlaw_257 : D1 code 257 (.iload_n 3) 1 258 := ⟨by decide +kernel, rfl⟩
set_option maxRecDepth 20000 in
theorem dlaw_258 : D1 code 258 (.iconst 1) 1 259 := ⟨by decide +kernel, rfl⟩
set_option maxRecDepth 20000 in
theorem dlaw_259 : D1 code 259 (.iadd) 1 260 := ⟨by decide +kernel, rfl⟩
set_option maxRecDepth 20000 in
theorem dlaw_260 : D1 code 260 (.iaload) 1 261 := ⟨by decide +kernel, rfl⟩
set_option maxRecDepth 20000 in
theorem dlaw_261 : D1 code 261 (.aload_n 0) 1 262 := ⟨by decide +kernel, rfl⟩
set_option maxRecDepth 20000 in
theorem dlaw_262 : D1 code 262 (.iload_n 3) 1 263 := ⟨by decide +kernel, rfl⟩
set_option maxRecDepth 20000 in
theorem dlaw_263 : D1 code 263 (.iconst 2) 1 264 := ⟨by decide +kernel, rfl⟩
set_option maxRecDepth 20000 in
theorem dlaw_264 : D1 code 264 (.iadd) 1 265 := ⟨by decide +kernel, rfl⟩
set_option maxRecDepth 20000 in
theorem dlaw_265 : D1 code 265 (.iaload) 1 266 := ⟨by decide +kernel, rfl⟩
set_option maxRecDepth 20000 in
theorem dlaw_266 : D1 code 266 (.invokevirtual 18) 3 269 := ⟨by decide +kernel, rfl⟩
set_option maxRecDepth 20000 in
theorem dlaw_269 : D1 code 269 (.aload_n 2) 1 270 := ⟨by decide +kernel, rfl⟩
set_option maxRecDepth 20000 in
theorem dlaw_270 : D1 code 270 (.aload_n 0) 1 271 := ⟨by decide +kernel, rfl⟩
set_option maxRecDepth 20000 in
theorem dlaw_271 : D1 code 271 (.iload_n 3) 1 272 := ⟨by decide +kernel, rfl⟩
set_option maxRecDepth 20000 in
theorem dlaw_272 : D1 code 272 (.iconst 1) 1 273 := ⟨by decide +kernel, rfl⟩
set_option maxRecDepth 20000 in
theorem dlaw_273 : D1 code 273 (.iadd) 1 274 := ⟨by decide +kernel, rfl⟩
set_option maxRecDepth 20000 in
theorem dlaw_274 : D1 code 274 (.iaload) 1 275 := ⟨by decide +kernel, rfl⟩
set_option maxRecDepth 20000 in
theorem dlaw_275 : D1 code 275 (.aload_n 0) 1 276 := ⟨by decide +kernel, rfl⟩
set_option maxRecDepth 20000 in
theorem dlaw_276 : D1 code 276 (.iload_n 3) 1 277 := ⟨by decide +kernel, rfl⟩
set_option maxRecDepth 20000 in
theorem dlaw_277 : D1 code 277 (.iconst 2) 1 278 := ⟨by decide +kernel, rfl⟩
set_option maxRecDepth 20000 in
theorem dlaw_278 : D1 code 278 (.iadd) 1 279 := ⟨by decide +kernel, rfl⟩
set_option maxRecDepth 20000 in
theorem dlaw_279 : D1 code 279 (.iaload) 1 280 := ⟨by decide +kernel, rfl⟩
set_option maxRecDepth 20000 in
theorem dlaw_280 : D1 code 280 (.invokevirtual 22) 3 283 := ⟨by decide +kernel, rfl⟩
set_option maxRecDepth 20000 in
theorem dlaw_283 : DJ code 283 (.if_icmp .eq) 286 1490 := ⟨1207, by decide +kernel, rfl, by decide⟩
set_option maxRecDepth 20000 in
theorem dlaw_286 : D1 code 286 (.iconst 0) 1 287 := ⟨by decide +kernel, rfl⟩
set_option maxRecDepth 20000 in
theorem dlaw_287 : D1 code 287 (.ireturn) 1 288 := ⟨by decide +kernel, rfl⟩
set_option maxRecDepth 20000 in
theorem dlaw_288 : D1 code 288 (.aload_n 1) 1 289 := ⟨by decide +kernel, rfl⟩
set_option maxRecDepth 20000 in
theorem dlaw_289 : D1 code 289 (.aload_n 0) 1 290 := ⟨by decide +kernel, rfl⟩
set_option maxRecDepth 20000 in
theorem dlaw_290 : D1 code 290 (.iload_n 3) 1 291 := ⟨by decide +kernel, rfl⟩
set_option maxRecDepth 20000 in
theorem dlaw_291 : D1 code 291 (.iconst 1) 1 292 := ⟨by decide +kernel, rfl⟩
set_option maxRecDepth 20000 in
theorem dlaw_292 : D1 code 292 (.iadd) 1 293 := ⟨by decide +kernel, rfl⟩
set_option maxRecDepth 20000 in
theorem dlaw_293 : D1 code 293 (.iaload) 1 294 := ⟨by decide +kernel, rfl⟩
set_option maxRecDepth 20000 in
theorem dlaw_294 : D1 code 294 (.aload_n 0) 1 295 := ⟨by decide +kernel, rfl⟩
set_option maxRecDepth 20000 in
theorem dlaw_295 : D1 code 295 (.iload_n 3) 1 296 := ⟨by decide +kernel, rfl⟩
set_option maxRecDepth 20000 in
theorem dlaw_296 : D1 code 296 (.iconst 2) 1 297 := ⟨by decide +kernel, rfl⟩
set_option maxRecDepth 20000 in
theorem dlaw_297 : D1 code 297 (.iadd) 1 298 := ⟨by decide +kernel, rfl⟩
set_option maxRecDepth 20000 in
theorem dlaw_298 : D1 code 298 (.iaload) 1 299 := ⟨by decide +kernel, rfl⟩
set_option maxRecDepth 20000 in
theorem dlaw_299 : D1 code 299 (.aload_n 0) 1 300 := ⟨by decide +kernel, rfl⟩
set_option maxRecDepth 20000 in
theorem dlaw_300 : D1 code 300 (.iload_n 3) 1 301 := ⟨by decide +kernel, rfl⟩
set_option maxRecDepth 20000 in
theorem dlaw_301 : D1 code 301 (.iconst 3) 1 302 := ⟨by decide +kernel, rfl⟩
set_option maxRecDepth 20000 in
theorem dlaw_302 : D1 code 302 (.iadd) 1 303 := ⟨by decide +kernel, rfl⟩
set_option maxRecDepth 20000 in
theorem dlaw_303 : D1 code 303 (.iaload) 1 304 := ⟨by decide +kernel, rfl⟩
set_option maxRecDepth 20000 in
theorem dlaw_304 : D1 code 304 (.invokevirtual 23) 3 307 := ⟨by decide +kernel, rfl⟩
set_option maxRecDepth 20000 in
theorem dlaw_307 : D1 code 307 (.aload_n 2) 1 308 := ⟨by decide +kernel, rfl⟩
set_option maxRecDepth 20000 in
theorem dlaw_308 : D1 code 308 (.aload_n 0) 1 309 := ⟨by decide +kernel, rfl⟩
set_option maxRecDepth 20000 in
theorem dlaw_309 : D1 code 309 (.iload_n 3) 1 310 := ⟨by decide +kernel, rfl⟩
set_option maxRecDepth 20000 in
theorem dlaw_310 : D1 code 310 (.iconst 1) 1 311 := ⟨by decide +kernel, rfl⟩
set_option maxRecDepth 20000 in
theorem dlaw_311 : D1 code 311 (.iadd) 1 312 := ⟨by decide +kernel, rfl⟩
set_option maxRecDepth 20000 in
theorem dlaw_312 : D1 code 312 (.iaload) 1 313 := ⟨by decide +kernel, rfl⟩
set_option maxRecDepth 20000 in
theorem dlaw_313 : D1 code 313 (.aload_n 0) 1 314 := ⟨by decide +kernel, rfl⟩
set_option maxRecDepth 20000 in
theorem dlaw_314 : D1 code 314 (.iload_n 3) 1 315 := ⟨by decide +kernel, rfl⟩
set_option maxRecDepth 20000 in
theorem dlaw_315 : D1 code 315 (.iconst 2) 1 316 := ⟨by decide +kernel, rfl⟩
set_option maxRecDepth 20000 in
theorem dlaw_316 : D1 code 316 (.iadd) 1 317 := ⟨by decide +kernel, rfl⟩
set_option maxRecDepth 20000 in
theorem dlaw_317 : D1 code 317 (.iaload) 1 318 := ⟨by decide +kernel, rfl⟩
set_option maxRecDepth 20000 in
theorem dlaw_318 : D1 code 318 (.aload_n 0) 1 319 := ⟨by decide +kernel, rfl⟩
set_option maxRecDepth 20000 in
theorem dlaw_319 : D1 code 319 (.iload_n 3) 1 320 := ⟨by decide +kernel, rfl⟩
set_option maxRecDepth 20000 in
theorem dlaw_320 : D1 code 320 (.iconst 3) 1 321 := ⟨by decide +kernel, rfl⟩
set_option maxRecDepth 20000 in
theorem dlaw_321 : D1 code 321 (.iadd) 1 322 := ⟨by decide +kernel, rfl⟩
set_option maxRecDepth 20000 in
theorem dlaw_322 : D1 code 322 (.iaload) 1 323 := ⟨by decide +kernel, rfl⟩
set_option maxRecDepth 20000 in
theorem dlaw_323 : D1 code 323 (.invokevirtual 27) 3 326 := ⟨by decide +kernel, rfl⟩
set_option maxRecDepth 20000 in
theorem dlaw_326 : DJ code 326 (.if_icmp .eq) 329 1490 := ⟨1164, by decide +kernel, rfl, by decide⟩
set_option maxRecDepth 20000 in
theorem dlaw_329 : D1 code 329 (.iconst 0) 1 330 := ⟨by decide +kernel, rfl⟩
set_option maxRecDepth 20000 in
theorem dlaw_330 : D1 code 330 (.ireturn) 1 331 := ⟨by decide +kernel, rfl⟩
set_option maxRecDepth 20000 in
theorem dlaw_331 : D1 code 331 (.aload_n 1) 1 332 := ⟨by decide +kernel, rfl⟩
set_option maxRecDepth 20000 in
theorem dlaw_332 : D1 code 332 (.aload_n 0) 1 333 := ⟨by decide +kernel, rfl⟩
set_option maxRecDepth 20000 in
theorem dlaw_333 : D1 code 333 (.iload_n 3) 1 334 := ⟨by decide +kernel, rfl⟩
set_option maxRecDepth 20000 in
theorem dlaw_334 : D1 code 334 (.iconst 1) 1 335 := ⟨by decide +kernel, rfl⟩
set_option maxRecDepth 20000 in
theorem dlaw_335 : D1 code 335 (.iadd) 1 336 := ⟨by decide +kernel, rfl⟩
set_option maxRecDepth 20000 in
theorem dlaw_336 : D1 code 336 (.iaload) 1 337 := ⟨by decide +kernel, rfl⟩
set_option maxRecDepth 20000 in
theorem dlaw_337 : D1 code 337 (.aload_n 0) 1 338 := ⟨by decide +kernel, rfl⟩
set_option maxRecDepth 20000 in
theorem dlaw_338 : D1 code 338 (.iload_n 3) 1 339 := ⟨by decide +kernel, rfl⟩
set_option maxRecDepth 20000 in
theorem dlaw_339 : D1 code 339 (.iconst 2) 1 340 := ⟨by decide +kernel, rfl⟩
set_option maxRecDepth 20000 in
theorem dlaw_340 : D1 code 340 (.iadd) 1 341 := ⟨by decide +kernel, rfl⟩
set_option maxRecDepth 20000 in
theorem dlaw_341 : D1 code 341 (.iaload) 1 342 := ⟨by decide +kernel, rfl⟩
set_option maxRecDepth 20000 in
theorem dlaw_342 : D1 code 342 (.invokevirtual 28) 3 345 := ⟨by decide +kernel, rfl⟩
set_option maxRecDepth 20000 in
theorem dlaw_345 : D1 code 345 (.aload_n 2) 1 346 := ⟨by decide +kernel, rfl⟩
set_option maxRecDepth 20000 in
theorem dlaw_346 : D1 code 346 (.aload_n 0) 1 347 := ⟨by decide +kernel, rfl⟩
set_option maxRecDepth 20000 in
theorem dlaw_347 : D1 code 347 (.iload_n 3) 1 348 := ⟨by decide +kernel, rfl⟩
set_option maxRecDepth 20000 in
theorem dlaw_348 : D1 code 348 (.iconst 1) 1 349 := ⟨by decide +kernel, rfl⟩
set_option maxRecDepth 20000 in
theorem dlaw_349 : D1 code 349 (.iadd) 1 350 := ⟨by decide +kernel, rfl⟩
set_option maxRecDepth 20000 in
theorem dlaw_350 : D1 code 350 (.iaload) 1 351 := ⟨by decide +kernel, rfl⟩
set_option maxRecDepth 20000 in
theorem dlaw_351 : D1 code 351 (.aload_n 0) 1 352 := ⟨by decide +kernel, rfl⟩
set_option maxRecDepth 20000 in
theorem dlaw_352 : D1 code 352 (.iload_n 3) 1 353 := ⟨by decide +kernel, rfl⟩
set_option maxRecDepth 20000 in
theorem dlaw_353 : D1 code 353 (.iconst 2) 1 354 := ⟨by decide +kernel, rfl⟩
set_option maxRecDepth 20000 in
theorem dlaw_354 : D1 code 354 (.iadd) 1 355 := ⟨by decide +kernel, rfl⟩
set_option maxRecDepth 20000 in
theorem dlaw_355 : D1 code 355 (.iaload) 1 356 := ⟨by decide +kernel, rfl⟩
set_option maxRecDepth 20000 in
theorem dlaw_356 : D1 code 356 (.invokevirtual 31) 3 359 := ⟨by decide +kernel, rfl⟩
set_option maxRecDepth 20000 in
theorem dlaw_359 : DJ code 359 (.if_icmp .eq) 362 1490 := ⟨1131, by decide +kernel, rfl, by decide⟩
set_option maxRecDepth 20000 in
theorem dlaw_362 : D1 code 362 (.iconst 0) 1 363 := ⟨by decide +kernel, rfl⟩
set_option maxRecDepth 20000 in
theorem dlaw_363 : D1 code 363 (.ireturn) 1 364 := ⟨by decide +kernel, rfl⟩
set_option maxRecDepth 20000 in
theorem dlaw_364 : D1 code 364 (.aload_n 1) 1 365 := ⟨by decide +kernel, rfl⟩
set_option maxRecDepth 20000 in
theorem dlaw_365 : D1 code 365 (.aload_n 0) 1 366 := ⟨by decide +kernel, rfl⟩
set_option maxRecDepth 20000 in
theorem dlaw_366 : D1 code 366 (.iload_n 3) 1 367 := ⟨by decide +kernel, rfl⟩
set_option maxRecDepth 20000 in
theorem dlaw_367 : D1 code 367 (.iconst 1) 1 368 := ⟨by decide +kernel, rfl⟩
set_option maxRecDepth 20000 in
theorem dlaw_368 : D1 code 368 (.iadd) 1 369 := ⟨by decide +kernel, rfl⟩
set_option maxRecDepth 20000 in
theorem dlaw_369 : D1 code 369 (.iaload) 1 370 := ⟨by decide +kernel, rfl⟩
set_option maxRecDepth 20000 in
theorem dlaw_370 : D1 code 370 (.aload_n 0) 1 371 := ⟨by decide +kernel, rfl⟩
set_option maxRecDepth 20000 in
theorem dlaw_371 : D1 code 371 (.iload_n 3) 1 372 := ⟨by decide +kernel, rfl⟩
set_option maxRecDepth 20000 in
theorem dlaw_372 : D1 code 372 (.iconst 2) 1 373 := ⟨by decide +kernel, rfl⟩
set_option maxRecDepth 20000 in
theorem dlaw_373 : D1 code 373 (.iadd) 1 374 := ⟨by decide +kernel, rfl⟩
set_option maxRecDepth 20000 in
theorem dlaw_374 : D1 code 374 (.iaload) 1 375 := ⟨by decide +kernel, rfl⟩
set_option maxRecDepth 20000 in
theorem dlaw_375 : D1 code 375 (.invokevirtual 32) 3 378 := ⟨by decide +kernel, rfl⟩
set_option maxRecDepth 20000 in
theorem dlaw_378 : D1 code 378 (.aload_n 2) 1 379 := ⟨by decide +kernel, rfl⟩
set_option maxRecDepth 20000 in
theorem dlaw_379 : D1 code 379 (.aload_n 0) 1 380 := ⟨by decide +kernel, rfl⟩
set_option maxRecDepth 20000 in
theorem dlaw_380 : D1 code 380 (.iload_n 3) 1 381 := ⟨by decide +kernel, rfl⟩
set_option maxRecDepth 20000 in
theorem dlaw_381 : D1 code 381 (.iconst 1) 1 382 := ⟨by decide +kernel, rfl⟩
set_option maxRecDepth 20000 in
theorem dlaw_382 : D1 code 382 (.iadd) 1 383 := ⟨by decide +kernel, rfl⟩
set_option maxRecDepth 20000 in
theorem dlaw_383 : D1 code 383 (.iaload) 1 384 := ⟨by decide +kernel, rfl⟩
set_option maxRecDepth 20000 in
theorem dlaw_384 : D1 code 384 (.aload_n 0) 1 385 := ⟨by decide +kernel, rfl⟩
set_option maxRecDepth 20000 in
theorem dlaw_385 : D1 code 385 (.iload_n 3) 1 386 := ⟨by decide +kernel, rfl⟩
set_option maxRecDepth 20000 in
theorem dlaw_386 : D1 code 386 (.iconst 2) 1 387 := ⟨by decide +kernel, rfl⟩
set_option maxRecDepth 20000 in
theorem dlaw_387 : D1 code 387 (.iadd) 1 388 := ⟨by decide +kernel, rfl⟩
set_option maxRecDepth 20000 in
theorem dlaw_388 : D1 code 388 (.iaload) 1 389 := ⟨by decide +kernel, rfl⟩
set_option maxRecDepth 20000 in
theorem dlaw_389 : D1 code 389 (.invokevirtual 35) 3 392 := ⟨by decide +kernel, rfl⟩
set_option maxRecDepth 20000 in
theorem dlaw_392 : DJ code 392 (.if_icmp .eq) 395 1490 := ⟨1098, by decide +kernel, rfl, by decide⟩
set_option maxRecDepth 20000 in
theorem dlaw_395 : D1 code 395 (.iconst 0) 1 396 := ⟨by decide +kernel, rfl⟩
set_option maxRecDepth 20000 in
theorem dlaw_396 : D1 code 396 (.ireturn) 1 397 := ⟨by decide +kernel, rfl⟩
set_option maxRecDepth 20000 in
theorem dlaw_397 : D1 code 397 (.aload_n 1) 1 398 := ⟨by decide +kernel, rfl⟩
set_option maxRecDepth 20000 in
theorem dlaw_398 : D1 code 398 (.aload_n 0) 1 399 := ⟨by decide +kernel, rfl⟩
set_option maxRecDepth 20000 in
theorem dlaw_399 : D1 code 399 (.iload_n 3) 1 400 := ⟨by decide +kernel, rfl⟩
set_option maxRecDepth 20000 in
theorem dlaw_400 : D1 code 400 (.iconst 1) 1 401 := ⟨by decide +kernel, rfl⟩
set_option maxRecDepth 20000 in
theorem dlaw_401 : D1 code 401 (.iadd) 1 402 := ⟨by decide +kernel, rfl⟩
set_option maxRecDepth 20000 in
theorem dlaw_402 : D1 code 402 (.iaload) 1 403 := ⟨by decide +kernel, rfl⟩
set_option maxRecDepth 20000 in
theorem dlaw_403 : D1 code 403 (.aload_n 0) 1 404 := ⟨by decide +kernel, rfl⟩
set_option maxRecDepth 20000 in
theorem dlaw_404 : D1 code 404 (.iload_n 3) 1 405 := ⟨by decide +kernel, rfl⟩
set_option maxRecDepth 20000 in
theorem dlaw_405 : D1 code 405 (.iconst 2) 1 406 := ⟨by decide +kernel, rfl⟩
set_option maxRecDepth 20000 in
theorem dlaw_406 : D1 code 406 (.iadd) 1 407 := ⟨by decide +kernel, rfl⟩
set_option maxRecDepth 20000 in
theorem dlaw_407 : D1 code 407 (.iaload) 1 408 := ⟨by decide +kernel, rfl⟩
set_option maxRecDepth 20000 in
theorem dlaw_408 : D1 code 408 (.aload_n 0) 1 409 := ⟨by decide +kernel, rfl⟩
set_option maxRecDepth 20000 in
theorem dlaw_409 : D1 code 409 (.iload_n 3) 1 410 := ⟨by decide +kernel, rfl⟩
set_option maxRecDepth 20000 in
theorem dlaw_410 : D1 code 410 (.iconst 3) 1 411 := ⟨by decide +kernel, rfl⟩
set_option maxRecDepth 20000 in
theorem dlaw_411 : D1 code 411 (.iadd) 1 412 := ⟨by decide +kernel, rfl⟩
set_option maxRecDepth 20000 in
theorem dlaw_412 : D1 code 412 (.iaload) 1 413 := ⟨by decide +kernel, rfl⟩
set_option maxRecDepth 20000 in
theorem dlaw_413 : D1 code 413 (.invokevirtual 36) 3 416 := ⟨by decide +kernel, rfl⟩
set_option maxRecDepth 20000 in
theorem dlaw_416 : D1 code 416 (.aload_n 2) 1 417 := ⟨by decide +kernel, rfl⟩
set_option maxRecDepth 20000 in
theorem dlaw_417 : D1 code 417 (.aload_n 0) 1 418 := ⟨by decide +kernel, rfl⟩
set_option maxRecDepth 20000 in
theorem dlaw_418 : D1 code 418 (.iload_n 3) 1 419 := ⟨by decide +kernel, rfl⟩
set_option maxRecDepth 20000 in
theorem dlaw_419 : D1 code 419 (.iconst 1) 1 420 := ⟨by decide +kernel, rfl⟩
set_option maxRecDepth 20000 in
theorem dlaw_420 : D1 code 420 (.iadd) 1 421 := ⟨by decide +kernel, rfl⟩
set_option maxRecDepth 20000 in
theorem dlaw_421 : D1 code 421 (.iaload) 1 422 := ⟨by decide +kernel, rfl⟩
set_option maxRecDepth 20000 in
theorem dlaw_422 : D1 code 422 (.aload_n 0) 1 423 := ⟨by decide +kernel, rfl⟩
set_option maxRecDepth 20000 in
theorem dlaw_423 : D1 code 423 (.iload_n 3) 1 424 := ⟨by decide +kernel, rfl⟩
set_option maxRecDepth 20000 in
theorem dlaw_424 : D1 code 424 (.iconst 2) 1 425 := ⟨by decide +kernel, rfl⟩
set_option maxRecDepth 20000 in
theorem dlaw_425 : D1 code 425 (.iadd) 1 426 := ⟨by decide +kernel, rfl⟩
set_option maxRecDepth 20000 in
theorem dlaw_426 : D1 code 426 (.iaload) 1 427 := ⟨by decide +kernel, rfl⟩
set_option maxRecDepth 20000 in
theorem dlaw_427 : D1 code 427 (.aload_n 0) 1 428 := ⟨by decide +kernel, rfl⟩
set_option maxRecDepth 20000 in
theorem dlaw_428 : D1 code 428 (.iload_n 3) 1 429 := ⟨by decide +kernel, rfl⟩
set_option maxRecDepth 20000 in
theorem dlaw_429 : D1 code 429 (.iconst 3) 1 430 := ⟨by decide +kernel, rfl⟩
set_option maxRecDepth 20000 in
theorem dlaw_430 : D1 code 430 (.iadd) 1 431 := ⟨by decide +kernel, rfl⟩
set_option maxRecDepth 20000 in
theorem dlaw_431 : D1 code 431 (.iaload) 1 432 := ⟨by decide +kernel, rfl⟩
set_option maxRecDepth 20000 in
theorem dlaw_432 : D1 code 432 (.invokevirtual 39) 3 435 := ⟨by decide +kernel, rfl⟩
set_option maxRecDepth 20000 in
theorem dlaw_435 : DJ code 435 (.if_icmp .eq) 438 1490 := ⟨1055, by decide +kernel, rfl, by decide⟩
set_option maxRecDepth 20000 in
theorem dlaw_438 : D1 code 438 (.iconst 0) 1 439 := ⟨by decide +kernel, rfl⟩
set_option maxRecDepth 20000 in
theorem dlaw_439 : D1 code 439 (.ireturn) 1 440 := ⟨by decide +kernel, rfl⟩
set_option maxRecDepth 20000 in
theorem dlaw_440 : D1 code 440 (.aload_n 1) 1 441 := ⟨by decide +kernel, rfl⟩
set_option maxRecDepth 20000 in
theorem dlaw_441 : D1 code 441 (.aload_n 0) 1 442 := ⟨by decide +kernel, rfl⟩
set_option maxRecDepth 20000 in
theorem dlaw_442 : D1 code 442 (.iload_n 3) 1 443 := ⟨by decide +kernel, rfl⟩
set_option maxRecDepth 20000 in
theorem dlaw_443 : D1 code 443 (.iconst 1) 1 444 := ⟨by decide +kernel, rfl⟩
set_option maxRecDepth 20000 in
theorem dlaw_444 : D1 code 444 (.iadd) 1 445 := ⟨by decide +kernel, rfl⟩
set_option maxRecDepth 20000 in
theorem dlaw_445 : D1 code 445 (.iaload) 1 446 := ⟨by decide +kernel, rfl⟩
set_option maxRecDepth 20000 in
theorem dlaw_446 : D1 code 446 (.aload_n 0) 1 447 := ⟨by decide +kernel, rfl⟩
set_option maxRecDepth 20000 in
theorem dlaw_447 : D1 code 447 (.iload_n 3) 1 448 := ⟨by decide +kernel, rfl⟩
set_option maxRecDepth 20000 in
theorem dlaw_448 : D1 code 448 (.iconst 2) 1 449 := ⟨by decide +kernel, rfl⟩
set_option maxRecDepth 20000 in
theorem dlaw_449 : D1 code 449 (.iadd) 1 450 := ⟨by decide +kernel, rfl⟩
set_option maxRecDepth 20000 in
theorem dlaw_450 : D1 code 450 (.iaload) 1 451 := ⟨by decide +kernel, rfl⟩
set_option maxRecDepth 20000 in
theorem dlaw_451 : D1 code 451 (.invokevirtual 40) 3 454 := ⟨by decide +kernel, rfl⟩
set_option maxRecDepth 20000 in
theorem dlaw_454 : D1 code 454 (.aload_n 2) 1 455 := ⟨by decide +kernel, rfl⟩
set_option maxRecDepth 20000 in
theorem dlaw_455 : D1 code 455 (.aload_n 0) 1 456 := ⟨by decide +kernel, rfl⟩
set_option maxRecDepth 20000 in
theorem dlaw_456 : D1 code 456 (.iload_n 3) 1 457 := ⟨by decide +kernel, rfl⟩
set_option maxRecDepth 20000 in
theorem dlaw_457 : D1 code 457 (.iconst 1) 1 458 := ⟨by decide +kernel, rfl⟩
set_option maxRecDepth 20000 in
theorem dlaw_458 : D1 code 458 (.iadd) 1 459 := ⟨by decide +kernel, rfl⟩
set_option maxRecDepth 20000 in
theorem dlaw_459 : D1 code 459 (.iaload) 1 460 := ⟨by decide +kernel, rfl⟩
set_option maxRecDepth 20000 in
theorem dlaw_460 : D1 code 460 (.aload_n 0) 1 461 := ⟨by decide +kernel, rfl⟩
set_option maxRecDepth 20000 in
theorem dlaw_461 : D1 code 461 (.iload_n 3) 1 462 := ⟨by decide +kernel, rfl⟩
set_option maxRecDepth 20000 in
theorem dlaw_462 : D1 code 462 (.iconst 2) 1 463 := ⟨by decide +kernel, rfl⟩
set_option maxRecDepth 20000 in
theorem dlaw_463 : D1 code 463 (.iadd) 1 464 := ⟨by decide +kernel, rfl⟩
set_option maxRecDepth 20000 in
theorem dlaw_464 : D1 code 464 (.iaload) 1 465 := ⟨by decide +kernel, rfl⟩
set_option maxRecDepth 20000 in
theorem dlaw_465 : D1 code 465 (.invokevirtual 43) 3 468 := ⟨by decide +kernel, rfl⟩
set_option maxRecDepth 20000 in
theorem dlaw_468 : DJ code 468 (.if_icmp .eq) 471 1490 := ⟨1022, by decide +kernel, rfl, by decide⟩
set_option maxRecDepth 20000 in
theorem dlaw_471 : D1 code 471 (.iconst 0) 1 472 := ⟨by decide +kernel, rfl⟩
set_option maxRecDepth 20000 in
theorem dlaw_472 : D1 code 472 (.ireturn) 1 473 := ⟨by decide +kernel, rfl⟩
set_option maxRecDepth 20000 in
theorem dlaw_473 : D1 code 473 (.aload_n 1) 1 474 := ⟨by decide +kernel, rfl⟩
set_option maxRecDepth 20000 in
theorem dlaw_474 : D1 code 474 (.aload_n 0) 1 475 := ⟨by decide +kernel, rfl⟩
set_option maxRecDepth 20000 in
theorem dlaw_475 : D1 code 475 (.iload_n 3) 1 476 := ⟨by decide +kernel, rfl⟩
set_option maxRecDepth 20000 in
theorem dlaw_476 : D1 code 476 (.iconst 1) 1 477 := ⟨by decide +kernel, rfl⟩
set_option maxRecDepth 20000 in
theorem dlaw_477 : D1 code 477 (.iadd) 1 478 := ⟨by decide +kernel, rfl⟩
set_option maxRecDepth 20000 in
theorem dlaw_478 : D1 code 478 (.iaload) 1 479 := ⟨by decide +kernel, rfl⟩
set_option maxRecDepth 20000 in
theorem dlaw_479 : D1 code 479 (.invokevirtual 44) 3 482 := ⟨by decide +kernel, rfl⟩
set_option maxRecDepth 20000 in
theorem dlaw_482 : D1 code 482 (.aload_n 2) 1 483 := ⟨by decide +kernel, rfl⟩
set_option maxRecDepth 20000 in
theorem dlaw_483 : D1 code 483 (.aload_n 0) 1 484 := ⟨by decide +kernel, rfl⟩
set_option maxRecDepth 20000 in
theorem dlaw_484 : D1 code 484 (.iload_n 3) 1 485 := ⟨by decide +kernel, rfl⟩
set_option maxRecDepth 20000 in
theorem dlaw_485 : D1 code 485 (.iconst 1) 1 486 := ⟨by decide +kernel, rfl⟩
set_option maxRecDepth 20000 in
theorem dlaw_486 : D1 code 486 (.iadd) 1 487 := ⟨by decide +kernel, rfl⟩
set_option maxRecDepth 20000 in
theorem dlaw_487 : D1 code 487 (.iaload) 1 488 := ⟨by decide +kernel, rfl⟩
set_option maxRecDepth 20000 in
theorem dlaw_488 : D1 code 488 (.invokevirtual 47) 3 491 := ⟨by decide +kernel, rfl⟩
set_option maxRecDepth 20000 in
theorem dlaw_491 : DJ code 491 (.if_icmp .eq) 494 1490 := ⟨999, by decide +kernel, rfl, by decide⟩
set_option maxRecDepth 20000 in
theorem dlaw_494 : D1 code 494 (.iconst 0) 1 495 := ⟨by decide +kernel, rfl⟩
set_option maxRecDepth 20000 in
theorem dlaw_495 : D1 code 495 (.ireturn) 1 496 := ⟨by decide +kernel, rfl⟩
set_option maxRecDepth 20000 in
theorem dlaw_496 : D1 code 496 (.aload_n 1) 1 497 := ⟨by decide +kernel, rfl⟩
set_option maxRecDepth 20000 in
theorem dlaw_497 : D1 code 497 (.aload_n 0) 1 498 := ⟨by decide +kernel, rfl⟩
set_option maxRecDepth 20000 in
theorem dlaw_498 : D1 code 498 (.iload_n 3) 1 499 := ⟨by decide +kernel, rfl⟩
set_option maxRecDepth 20000 in
theorem dlaw_499 : D1 code 499 (.iconst 1) 1 500 := ⟨by decide +kernel, rfl⟩
set_option maxRecDepth 20000 in
theorem dlaw_500 : D1 code 500 (.iadd) 1 501 := ⟨by decide +kernel, rfl⟩
set_option maxRecDepth 20000 in
theorem dlaw_501 : D1 code 501 (.iaload) 1 502 := ⟨by decide +kernel, rfl⟩
set_option maxRecDepth 20000 in
theorem dlaw_502 : D1 code 502 (.invokevirtual 48) 3 505 := ⟨by decide +kernel, rfl⟩
set_option maxRecDepth 20000 in
theorem dlaw_505 : D1 code 505 (.aload_n 2) 1 506 := ⟨by decide +kernel, rfl⟩
set_option maxRecDepth 20000 in
theorem dlaw_506 : D1 code 506 (.aload_n 0) 1 507 := ⟨by decide +kernel, rfl⟩
set_option maxRecDepth 20000 in
theorem dlaw_507 : D1 code 507 (.iload_n 3) 1 508 := ⟨by decide +kernel, rfl⟩
set_option maxRecDepth 20000 in
theorem dlaw_508 : D1 code 508 (.iconst 1) 1 509 := ⟨by decide +kernel, rfl⟩
set_option maxRecDepth 20000 in
theorem dlaw_509 : D1 code 509 (.iadd) 1 510 := ⟨by decide +kernel, rfl⟩
set_option maxRecDepth 20000 in
theorem dlaw_510 : D1 code 510 (.iaload) 1 511 := ⟨by decide +kernel, rfl⟩
set_option maxRecDepth 20000 in
theorem dlaw_511 : D1 code 511 (.invokevirtual 51) 3 514 := ⟨by decide +kernel, rfl⟩
set_option maxRecDepth 20000 in
theorem dlaw_514 : DJ code 514 (.if_icmp .eq) 517 1490 := ⟨976, by decide +kernel, rfl, by decide⟩
set_option maxRecDepth 20000 in
theorem dlaw_517 : D1 code 517 (.iconst 0) 1 518 := ⟨by decide +kernel, rfl⟩
set_option maxRecDepth 20000 in
theorem dlaw_518 : D1 code 518 (.ireturn) 1 519 := ⟨by decide +kernel, rfl⟩
set_option maxRecDepth 20000 in
theorem dlaw_519 : D1 code 519 (.aload_n 1) 1 520 := ⟨by decide +kernel, rfl⟩
set_option maxRecDepth 20000 in
theorem dlaw_520 : D1 code 520 (.aload_n 0) 1 521 := ⟨by decide +kernel, rfl⟩
set_option maxRecDepth 20000 in
theorem dlaw_521 : D1 code 521 (.iload_n 3) 1 522 := ⟨by decide +kernel, rfl⟩
set_option maxRecDepth 20000 in
theorem dlaw_522 : D1 code 522 (.iconst 1) 1 523 := ⟨by decide +kernel, rfl⟩
set_option maxRecDepth 20000 in
theorem dlaw_523 : D1 code 523 (.iadd) 1 524 := ⟨by decide +kernel, rfl⟩
set_option maxRecDepth 20000 in
theorem dlaw_524 : D1 code 524 (.iaload) 1 525 := ⟨by decide +kernel, rfl⟩
set_option maxRecDepth 20000 in
theorem dlaw_525 : D1 code 525 (.invokevirtual 52) 3 528 := ⟨by decide +kernel, rfl⟩
set_option maxRecDepth 20000 in
theorem dlaw_528 : D1 code 528 (.aload_n 2) 1 529 := ⟨by decide +kernel, rfl⟩
set_option maxRecDepth 20000 in
theorem dlaw_529 : D1 code 529 (.aload_n 0) 1 530 := ⟨by decide +kernel, rfl⟩
set_option maxRecDepth 20000 in
theorem dlaw_530 : D1 code 530 (.iload_n 3) 1 531 := ⟨by decide +kernel, rfl⟩
set_option maxRecDepth 20000 in
theorem dlaw_531 : D1 code 531 (.iconst 1) 1 532 := ⟨by decide +kernel, rfl⟩
set_option maxRecDepth 20000 in
theorem dlaw_532 : D1 code 532 (.iadd) 1 533 := ⟨by decide +kernel, rfl⟩
set_option maxRecDepth 20000 in
theorem dlaw_533 : D1 code 533 (.iaload) 1 534 := ⟨by decide +kernel, rfl⟩
set_option maxRecDepth 20000 in
theorem dlaw_534 : D1 code 534 (.invokevirtual 55) 3 537 := ⟨by decide +kernel, rfl⟩
set_option maxRecDepth 20000 in
theorem dlaw_537 : DJ code 537 (.if_icmp .eq) 540 1490 := ⟨953, by decide +kernel, rfl, by decide⟩
set_option maxRecDepth 20000 in
theorem dlaw_540 : D1 code 540 (.iconst 0) 1 541 := ⟨by decide +kernel, rfl⟩
set_option maxRecDepth 20000 in
theorem dlaw_541 : D1 code 541 (.ireturn) 1 542 := ⟨by decide +kernel, rfl⟩
set_option maxRecDepth 20000 in
theorem dlaw_542 : D1 code 542 (.aload_n 1) 1 543 := ⟨by decide +kernel, rfl⟩
set_option maxRecDepth 20000 in
theorem dlaw_543 : D1 code 543 (.aload_n 0) 1 544 := ⟨by decide +kernel, rfl⟩
set_option maxRecDepth 20000 in
theorem dlaw_544 : D1 code 544 (.iload_n 3) 1 545 := ⟨by decide +kernel, rfl⟩
set_option maxRecDepth 20000 in
theorem dlaw_545 : D1 code 545 (.iconst 1) 1 546 := ⟨by decide +kernel, rfl⟩
set_option maxRecDepth 20000 in
theorem dlaw_546 : D1 code 546 (.iadd) 1 547 := ⟨by decide +kernel, rfl⟩
set_option maxRecDepth 20000 in
theorem dlaw_547 : D1 code 547 (.iaload) 1 548 := ⟨by decide +kernel, rfl⟩
set_option maxRecDepth 20000 in
theorem dlaw_548 : D1 code 548 (.aload_n 0) 1 549 := ⟨by decide +kernel, rfl⟩
set_option maxRecDepth 20000 in
theorem dlaw_549 : D1 code 549 (.iload_n 3) 1 550 := ⟨by decide +kernel, rfl⟩
set_option maxRecDepth 20000 in
theorem dlaw_550 : D1 code 550 (.iconst 2) 1 551 := ⟨by decide +kernel, rfl⟩
set_option maxRecDepth 20000 in
theorem dlaw_551 : D1 code 551 (.iadd) 1 552 := ⟨by decide +kernel, rfl⟩
set_option maxRecDepth 20000 in
theorem dlaw_552 : D1 code 552 (.iaload) 1 553 := ⟨by decide +kernel, rfl⟩
set_option maxRecDepth 20000 in
theorem dlaw_553 : D1 code 553 (.invokevirtual 56) 3 556 := ⟨by decide +kernel, rfl⟩
set_option maxRecDepth 20000 in
theorem dlaw_556 : D1 code 556 (.aload_n 2) 1 557 := ⟨by decide +kernel, rfl⟩
set_option maxRecDepth 20000 in
theorem dlaw_557 : D1 code 557 (.aload_n 0) 1 558 := ⟨by decide +kernel, rfl⟩
set_option maxRecDepth 20000 in
theorem dlaw_558 : D1 code 558 (.iload_n 3) 1 559 := ⟨by decide +kernel, rfl⟩
set_option maxRecDepth 20000 in
theorem dlaw_559 : D1 code 559 (.iconst 1) 1 560 := ⟨by decide +kernel, rfl⟩
set_option maxRecDepth 20000 in
theorem dlaw_560 : D1 code 560 (.iadd) 1 561 := ⟨by decide +kernel, rfl⟩
set_option maxRecDepth 20000 in
theorem dlaw_561 : D1 code 561 (.iaload) 1 562 := ⟨by decide +kernel, rfl⟩
set_option maxRecDepth 20000 in
theorem dlaw_562 : D1 code 562 (.aload_n 0) 1 563 := ⟨by decide +kernel, rfl⟩
set_option maxRecDepth 20000 in
theorem dlaw_563 : D1 code 563 (.iload_n 3) 1 564 := ⟨by decide +kernel, rfl⟩
set_option maxRecDepth 20000 in
theorem dlaw_564 : D1 code 564 (.iconst 2) 1 565 := ⟨by decide +kernel, rfl⟩
set_option maxRecDepth 20000 in
theorem dlaw_565 : D1 code 565 (.iadd) 1 566 := ⟨by decide +kernel, rfl⟩
set_option maxRecDepth 20000 in
theorem dlaw_566 : D1 code 566 (.iaload) 1 567 := ⟨by decide +kernel, rfl⟩
set_option maxRecDepth 20000 in
theorem dlaw_567 : D1 code 567 (.invokevirtual 59) 3 570 := ⟨by decide +kernel, rfl⟩
set_option maxRecDepth 20000 in
theorem dlaw_570 : DJ code 570 (.if_icmp .eq) 573 1490 := ⟨920, by decide +kernel, rfl, by decide⟩
set_option maxRecDepth 20000 in
theorem dlaw_573 : D1 code 573 (.iconst 0) 1 574 := ⟨by decide +kernel, rfl⟩
set_option maxRecDepth 20000 in
theorem dlaw_574 : D1 code 574 (.ireturn) 1 575 := ⟨by decide +kernel, rfl⟩
set_option maxRecDepth 20000 in
theorem dlaw_575 : D1 code 575 (.aload_n 1) 1 576 := ⟨by decide +kernel, rfl⟩
set_option maxRecDepth 20000 in
theorem dlaw_576 : D1 code 576 (.aload_n 0) 1 577 := ⟨by decide +kernel, rfl⟩
set_option maxRecDepth 20000 in
theorem dlaw_577 : D1 code 577 (.iload_n 3) 1 578 := ⟨by decide +kernel, rfl⟩
set_option maxRecDepth 20000 in
theorem dlaw_578 : D1 code 578 (.iconst 1) 1 579 := ⟨by decide +kernel, rfl⟩
set_option maxRecDepth 20000 in
theorem dlaw_579 : D1 code 579 (.iadd) 1 580 := ⟨by decide +kernel, rfl⟩
set_option maxRecDepth 20000 in
theorem dlaw_580 : D1 code 580 (.iaload) 1 581 := ⟨by decide +kernel, rfl⟩
set_option maxRecDepth 20000 in
theorem dlaw_581 : D1 code 581 (.invokevirtual 60) 3 584 := ⟨by decide +kernel, rfl⟩
set_option maxRecDepth 20000 in
theorem dlaw_584 : D1 code 584 (.aload_n 2) 1 585 := ⟨by decide +kernel, rfl⟩
set_option maxRecDepth 20000 in
theorem dlaw_585 : D1 code 585 (.aload_n 0) 1 586 := ⟨by decide +kernel, rfl⟩
set_option maxRecDepth 20000 in
theorem dlaw_586 : D1 code 586 (.iload_n 3) 1 587 := ⟨by decide +kernel, rfl⟩
set_option maxRecDepth 20000 in
theorem dlaw_587 : D1 code 587 (.iconst 1) 1 588 := ⟨by decide +kernel, rfl⟩
set_option maxRecDepth 20000 in
theorem dlaw_588 : D1 code 588 (.iadd) 1 589 := ⟨by decide +kernel, rfl⟩
set_option maxRecDepth 20000 in
theorem dlaw_589 : D1 code 589 (.iaload) 1 590 := ⟨by decide +kernel, rfl⟩
set_option maxRecDepth 20000 in
theorem dlaw_590 : D1 code 590 (.invokevirtual 63) 3 593 := ⟨by decide +kernel, rfl⟩
set_option maxRecDepth 20000 in
theorem dlaw_593 : DJ code 593 (.if_icmp .eq) 596 1490 := ⟨897, by decide +kernel, rfl, by decide⟩
set_option maxRecDepth 20000 in
theorem dlaw_596 : D1 code 596 (.iconst 0) 1 597 := ⟨by decide +kernel, rfl⟩
set_option maxRecDepth 20000 in
theorem dlaw_597 : D1 code 597 (.ireturn) 1 598 := ⟨by decide +kernel, rfl⟩
set_option maxRecDepth 20000 in
theorem dlaw_598 : D1 code 598 (.aload_n 1) 1 599 := ⟨by decide +kernel, rfl⟩
set_option maxRecDepth 20000 in
theorem dlaw_599 : D1 code 599 (.aload_n 0) 1 600 := ⟨by decide +kernel, rfl⟩
set_option maxRecDepth 20000 in
theorem dlaw_600 : D1 code 600 (.iload_n 3) 1 601 := ⟨by decide +kernel, rfl⟩
set_option maxRecDepth 20000 in
theorem dlaw_601 : D1 code 601 (.iconst 1) 1 602 := ⟨by decide +kernel, rfl⟩
set_option maxRecDepth 20000 in
theorem dlaw_602 : D1 code 602 (.iadd) 1 603 := ⟨by decide +kernel, rfl⟩
set_option maxRecDepth 20000 in
theorem dlaw_603 : D1 code 603 (.iaload) 1 604 := ⟨by decide +kernel, rfl⟩
set_option maxRecDepth 20000 in
theorem dlaw_604 : D1 code 604 (.invokevirtual 64) 3 607 := ⟨by decide +kernel, rfl⟩
set_option maxRecDepth 20000 in
theorem dlaw_607 : D1 code 607 (.aload_n 2) 1 608 := ⟨by decide +kernel, rfl⟩
set_option maxRecDepth 20000 in
theorem dlaw_608 : D1 code 608 (.aload_n 0) 1 609 := ⟨by decide +kernel, rfl⟩
set_option maxRecDepth 20000 in
theorem dlaw_609 : D1 code 609 (.iload_n 3) 1 610 := ⟨by decide +kernel, rfl⟩
set_option maxRecDepth 20000 in
theorem dlaw_610 : D1 code 610 (.iconst 1) 1 611 := ⟨by decide +kernel, rfl⟩
set_option maxRecDepth 20000 in
theorem dlaw_611 : D1 code 611 (.iadd) 1 612 := ⟨by decide +kernel, rfl⟩
set_option maxRecDepth 20000 in
theorem dlaw_612 : D1 code 612 (.iaload) 1 613 := ⟨by decide +kernel, rfl⟩
set_option maxRecDepth 20000 in
theorem dlaw_613 : D1 code 613 (.invokevirtual 67) 3 616 := ⟨by decide +kernel, rfl⟩
set_option maxRecDepth 20000 in
theorem dlaw_616 : DJ code 616 (.if_icmp .eq) 619 1490 := ⟨874, by decide +kernel, rfl, by decide⟩
set_option maxRecDepth 20000 in
theorem dlaw_619 : D1 code 619 (.iconst 0) 1 620 := ⟨by decide +kernel, rfl⟩
set_option maxRecDepth 20000 in
theorem dlaw_620 : D1 code 620 (.ireturn) 1 621 := ⟨by decide +kernel, rfl⟩
set_option maxRecDepth 20000 in
theorem dlaw_621 : D1 code 621 (.aload_n 1) 1 622 := ⟨by decide +kernel, rfl⟩
set_option maxRecDepth 20000 in
theorem dlaw_622 : D1 code 622 (.aload_n 0) 1 623 := ⟨by decide +kernel, rfl⟩
set_option maxRecDepth 20000 in
theorem dlaw_623 : D1 code 623 (.iload_n 3) 1 624 := ⟨by decide +kernel, rfl⟩
set_option maxRecDepth 20000 in
theorem dlaw_624 : D1 code 624 (.iconst 1) 1 625 := ⟨by decide +kernel, rfl⟩
set_option maxRecDepth 20000 in
theorem dlaw_625 : D1 code 625 (.iadd) 1 626 := ⟨by decide +kernel, rfl⟩
set_option maxRecDepth 20000 in
theorem dlaw_626 : D1 code 626 (.iaload) 1 627 := ⟨by decide +kernel, rfl⟩
set_option maxRecDepth 20000 in
theorem dlaw_627 : D1 code 627 (.invokevirtual 68) 3 630 := ⟨by decide +kernel, rfl⟩
set_option maxRecDepth 20000 in
theorem dlaw_630 : D1 code 630 (.aload_n 2) 1 631 := ⟨by decide +kernel, rfl⟩
set_option maxRecDepth 20000 in
theorem dlaw_631 : D1 code 631 (.aload_n 0) 1 632 := ⟨by decide +kernel, rfl⟩
set_option maxRecDepth 20000 in
theorem dlaw_632 : D1 code 632 (.iload_n 3) 1 633 := ⟨by decide +kernel, rfl⟩
set_option maxRecDepth 20000 in
theorem dlaw_633 : D1 code 633 (.iconst 1) 1 634 := ⟨by decide +kernel, rfl⟩
set_option maxRecDepth 20000 in
theorem dlaw_634 : D1 code 634 (.iadd) 1 635 := ⟨by decide +kernel, rfl⟩
set_option maxRecDepth 20000 in
theorem dlaw_635 : D1 code 635 (.iaload) 1 636 := ⟨by decide +kernel, rfl⟩
set_option maxRecDepth 20000 in
theorem dlaw_636 : D1 code 636 (.invokevirtual 71) 3 639 := ⟨by decide +kernel, rfl⟩
set_option maxRecDepth 20000 in
theorem dlaw_639 : DJ code 639 (.if_icmp .eq) 642 1490 := ⟨851, by decide +kernel, rfl, by decide⟩
set_option maxRecDepth 20000 in
theorem dlaw_642 : D1 code 642 (.iconst 0) 1 643 := ⟨by decide +kernel, rfl⟩
set_option maxRecDepth 20000 in
theorem dlaw_643 : D1 code 643 (.ireturn) 1 644 := ⟨by decide +kernel, rfl⟩
set_option maxRecDepth 20000 in
theorem dlaw_644 : D1 code 644 (.aload_n 1) 1 645 := ⟨by decide +kernel, rfl⟩
set_option maxRecDepth 20000 in
theorem dlaw_645 : D1 code 645 (.aload_n 0) 1 646 := ⟨by decide +kernel, rfl⟩
set_option maxRecDepth 20000 in
theorem dlaw_646 : D1 code 646 (.iload_n 3) 1 647 := ⟨by decide +kernel, rfl⟩
set_option maxRecDepth 20000 in
theorem dlaw_647 : D1 code 647 (.iconst 1) 1 648 := ⟨by decide +kernel, rfl⟩
set_option maxRecDepth 20000 in
theorem dlaw_648 : D1 code 648 (.iadd) 1 649 := ⟨by decide +kernel, rfl⟩
set_option maxRecDepth 20000 in
theorem dlaw_649 : D1 code 649 (.iaload) 1 650 := ⟨by decide +kernel, rfl⟩
set_option maxRecDepth 20000 in
theorem dlaw_650 : D1 code 650 (.invokevirtual 72) 3 653 := ⟨by decide +kernel, rfl⟩
set_option maxRecDepth 20000 in
theorem dlaw_653 : D1 code 653 (.aload_n 2) 1 654 := ⟨by decide +kernel, rfl⟩
set_option maxRecDepth 20000 in
theorem dlaw_654 : D1 code 654 (.aload_n 0) 1 655 := ⟨by decide +kernel, rfl⟩
set_option maxRecDepth 20000 in
theorem dlaw_655 : D1 code 655 (.iload_n 3) 1 656 := ⟨by decide +kernel, rfl⟩
set_option maxRecDepth 20000 in
theorem dlaw_656 : D1 code 656 (.iconst 1) 1 657 := ⟨by decide +kernel, rfl⟩
set_option maxRecDepth 20000 in
theorem dlaw_657 : D1 code 657 (.iadd) 1 658 := ⟨by decide +kernel, rfl⟩
set_option maxRecDepth 20000 in
theorem dlaw_658 : D1 code 658 (.iaload) 1 659 := ⟨by decide +kernel, rfl⟩
set_option maxRecDepth 20000 in
theorem dlaw_659 : D1 code 659 (.invokevirtual 75) 3 662 := ⟨by decide +kernel, rfl⟩
set_option maxRecDepth 20000 in
theorem dlaw_662 : DJ code 662 (.if_icmp .eq) 665 1490 := ⟨828, by decide +kernel, rfl, by decide⟩
set_option maxRecDepth 20000 in
theorem dlaw_665 : D1 code 665 (.iconst 0) 1 666 := ⟨by decide +kernel, rfl⟩
set_option maxRecDepth 20000 in
theorem dlaw_666 : D1 code 666 (.ireturn) 1 667 := ⟨by decide +kernel, rfl⟩
set_option maxRecDepth 20000 in
theorem dlaw_667 : D1 code 667 (.aload_n 1) 1 668 := ⟨by decide +kernel, rfl⟩
set_option maxRecDepth 20000 in
theorem dlaw_668 : D1 code 668 (.aload_n 0) 1 669 := ⟨by decide +kernel, rfl⟩
set_option maxRecDepth 20000 in
theorem dlaw_669 : D1 code 669 (.iload_n 3) 1 670 := ⟨by decide +kernel, rfl⟩
set_option maxRecDepth 20000 in
theorem dlaw_670 : D1 code 670 (.iconst 1) 1 671 := ⟨by decide +kernel, rfl⟩
set_option maxRecDepth 20000 in
theorem dlaw_671 : D1 code 671 (.iadd) 1 672 := ⟨by decide +kernel, rfl⟩
set_option maxRecDepth 20000 in
theorem dlaw_672 : D1 code 672 (.iaload) 1 673 := ⟨by decide +kernel, rfl⟩
set_option maxRecDepth 20000 in
theorem dlaw_673 : D1 code 673 (.aload_n 0) 1 674 := ⟨by decide +kernel, rfl⟩
set_option maxRecDepth 20000 in
theorem dlaw_674 : D1 code 674 (.iload_n 3) 1 675 := ⟨by decide +kernel, rfl⟩
set_option maxRecDepth 20000 in
theorem dlaw_675 : D1 code 675 (.iconst 2) 1 676 := ⟨by decide +kernel, rfl⟩
set_option maxRecDepth 20000 in
theorem dlaw_676 : D1 code 676 (.iadd) 1 677 := ⟨by decide +kernel, rfl⟩
set_option maxRecDepth 20000 in
theorem dlaw_677 : D1 code 677 (.iaload) 1 678 := ⟨by decide +kernel, rfl⟩
set_option maxRecDepth 20000 in
theorem dlaw_678 : D1 code 678 (.invokevirtual 76) 3 681 := ⟨by decide +kernel, rfl⟩
set_option maxRecDepth 20000 in
theorem dlaw_681 : D1 code 681 (.aload_n 2) 1 682 := ⟨by decide +kernel, rfl⟩
set_option maxRecDepth 20000 in
theorem dlaw_682 : D1 code 682 (.aload_n 0) 1 683 := ⟨by decide +kernel, rfl⟩
set_option maxRecDepth 20000 in
theorem dlaw_683 : D1 code 683 (.iload_n 3) 1 684 := ⟨by decide +kernel, rfl⟩
set_option maxRecDepth 20000 in
theorem dlaw_684 : D1 code 684 (.iconst 1) 1 685 := ⟨by decide +kernel, rfl⟩
set_option maxRecDepth 20000 in
theorem dlaw_685 : D1 code 685 (.iadd) 1 686 := ⟨by decide +kernel, rfl⟩
set_option maxRecDepth 20000 in
theorem dlaw_686 : D1 code 686 (.iaload) 1 687 := ⟨by decide +kernel, rfl⟩
set_option maxRecDepth 20000 in
theorem dlaw_687 : D1 code 687 (.aload_n 0) 1 688 := ⟨by decide +kernel, rfl⟩
set_option maxRecDepth 20000 in
theorem dlaw_688 : D1 code 688 (.iload_n 3) 1 689 := ⟨by decide +kernel, rfl⟩
set_option maxRecDepth 20000 in
theorem dlaw_689 : D1 code 689 (.iconst 2) 1 690 := ⟨by decide +kernel, rfl⟩
set_option maxRecDepth 20000 in
theorem dlaw_690 : D1 code 690 (.iadd) 1 691 := ⟨by decide +kernel, rfl⟩
set_option maxRecDepth 20000 in
theorem dlaw_691 : D1 code 691 (.iaload) 1 692 := ⟨by decide +kernel, rfl⟩
set_option maxRecDepth 20000 in
theorem dlaw_692 : D1 code 692 (.invokevirtual 79) 3 695 := ⟨by decide +kernel, rfl⟩
set_option maxRecDepth 20000 in
theorem dlaw_695 : DJ code 695 (.if_icmp .eq) 698 1490 := ⟨795, by decide +kernel, rfl, by decide⟩
set_option maxRecDepth 20000 in
theorem dlaw_698 : D1 code 698 (.iconst 0) 1 699 := ⟨by decide +kernel, rfl⟩
set_option maxRecDepth 20000 in
theorem dlaw_699 : D1 code 699 (.ireturn) 1 700 := ⟨by decide +kernel, rfl⟩
set_option maxRecDepth 20000 in
theorem dlaw_700 : D1 code 700 (.aload_n 1) 1 701 := ⟨by decide +kernel, rfl⟩
set_option maxRecDepth 20000 in
theorem dlaw_701 : D1 code 701 (.aload_n 0) 1 702 := ⟨by decide +kernel, rfl⟩
set_option maxRecDepth 20000 in
theorem dlaw_702 : D1 code 702 (.iload_n 3) 1 703 := ⟨by decide +kernel, rfl⟩
set_option maxRecDepth 20000 in
theorem dlaw_703 : D1 code 703 (.iconst 1) 1 704 := ⟨by decide +kernel, rfl⟩
set_option maxRecDepth 20000 in
theorem dlaw_704 : D1 code 704 (.iadd) 1 705 := ⟨by decide +kernel, rfl⟩
set_option maxRecDepth 20000 in
theorem dlaw_705 : D1 code 705 (.iaload) 1 706 := ⟨by decide +kernel, rfl⟩
set_option maxRecDepth 20000 in
theorem dlaw_706 : D1 code 706 (.aload_n 0) 1 707 := ⟨by decide +kernel, rfl⟩
set_option maxRecDepth 20000 in
theorem dlaw_707 : D1 code 707 (.iload_n 3) 1 708 := ⟨by decide +kernel, rfl⟩
set_option maxRecDepth 20000 in
theorem dlaw_708 : D1 code 708 (.iconst 2) 1 709 := ⟨by decide +kernel, rfl⟩
set_option maxRecDepth 20000 in
theorem dlaw_709 : D1 code 709 (.iadd) 1 710 := ⟨by decide +kernel, rfl⟩
set_option maxRecDepth 20000 in
theorem dlaw_710 : D1 code 710 (.iaload) 1 711 := ⟨by decide +kernel, rfl⟩
set_option maxRecDepth 20000 in
theorem dlaw_711 : D1 code 711 (.invokevirtual 80) 3 714 := ⟨by decide +kernel, rfl⟩
set_option maxRecDepth 20000 in
theorem dlaw_714 : D1 code 714 (.aload_n 2) 1 715 := ⟨by decide +kernel, rfl⟩
set_option maxRecDepth 20000 in
theorem dlaw_715 : D1 code 715 (.aload_n 0) 1 716 := ⟨by decide +kernel, rfl⟩
set_option maxRecDepth 20000 in
theorem dlaw_716 : D1 code 716 (.iload_n 3) 1 717 := ⟨by decide +kernel, rfl⟩
set_option maxRecDepth 20000 in
theorem dlaw_717 : D1 code 717 (.iconst 1) 1 718 := ⟨by decide +kernel, rfl⟩
set_option maxRecDepth 20000 in
theorem dlaw_718 : D1 code 718 (.iadd) 1 719 := ⟨by decide +kernel, rfl⟩
set_option maxRecDepth 20000 in
theorem dlaw_719 : D1 code 719 (.iaload) 1 720 := ⟨by decide +kernel, rfl⟩
set_option maxRecDepth 20000 in
theorem dlaw_720 : D1 code 720 (.aload_n 0) 1 721 := ⟨by decide +kernel, rfl⟩
set_option maxRecDepth 20000 in
theorem dlaw_721 : D1 code 721 (.iload_n 3) 1 722 := ⟨by decide +kernel, rfl⟩
set_option maxRecDepth 20000 in
theorem dlaw_722 : D1 code 722 (.iconst 2) 1 723 := ⟨by decide +kernel, rfl⟩
set_option maxRecDepth 20000 in
theorem dlaw_723 : D1 code 723 (.iadd) 1 724 := ⟨by decide +kernel, rfl⟩
set_option maxRecDepth 20000 in
theorem dlaw_724 : D1 code 724 (.iaload) 1 725 := ⟨by decide +kernel, rfl⟩
set_option maxRecDepth 20000 in
theorem dlaw_725 : D1 code 725 (.invokevirtual 83) 3 728 := ⟨by decide +kernel, rfl⟩
set_option maxRecDepth 20000 in
theorem dlaw_728 : DJ code 728 (.if_icmp .eq) 731 1490 := ⟨762, by decide +kernel, rfl, by decide⟩
set_option maxRecDepth 20000 in
theorem dlaw_731 : D1 code 731 (.iconst 0) 1 732 := ⟨by decide +kernel, rfl⟩
set_option maxRecDepth 20000 in
theorem dlaw_732 : D1 code 732 (.ireturn) 1 733 := ⟨by decide +kernel, rfl⟩
set_option maxRecDepth 20000 in
theorem dlaw_733 : D1 code 733 (.aload_n 1) 1 734 := ⟨by decide +kernel, rfl⟩
set_option maxRecDepth 20000 in
theorem dlaw_734 : D1 code 734 (.aload_n 0) 1 735 := ⟨by decide +kernel, rfl⟩
set_option maxRecDepth 20000 in
theorem dlaw_735 : D1 code 735 (.iload_n 3) 1 736 := ⟨by decide +kernel, rfl⟩
set_option maxRecDepth 20000 in
theorem dlaw_736 : D1 code 736 (.iconst 1) 1 737 := ⟨by decide +kernel, rfl⟩
set_option maxRecDepth 20000 in
theorem dlaw_737 : D1 code 737 (.iadd) 1 738 := ⟨by decide +kernel, rfl⟩
set_option maxRecDepth 20000 in
theorem dlaw_738 : D1 code 738 (.iaload) 1 739 := ⟨by decide +kernel, rfl⟩
set_option maxRecDepth 20000 in
theorem dlaw_739 : D1 code 739 (.aload_n 0) 1 740 := ⟨by decide +kernel, rfl⟩
set_option maxRecDepth 20000 in
theorem dlaw_740 : D1 code 740 (.iload_n 3) 1 741 := ⟨by decide +kernel, rfl⟩
set_option maxRecDepth 20000 in
theorem dlaw_741 : D1 code 741 (.iconst 2) 1 742 := ⟨by decide +kernel, rfl⟩
set_option maxRecDepth 20000 in
theorem dlaw_742 : D1 code 742 (.iadd) 1 743 := ⟨by decide +kernel, rfl⟩
set_option maxRecDepth 20000 in
theorem dlaw_743 : D1 code 743 (.iaload) 1 744 := ⟨by decide +kernel, rfl⟩
set_option maxRecDepth 20000 in
theorem dlaw_744 : D1 code 744 (.invokevirtual 84) 3 747 := ⟨by decide +kernel, rfl⟩
set_option maxRecDepth 20000 in
theorem dlaw_747 : D1 code 747 (.aload_n 2) 1 748 := ⟨by decide +kernel, rfl⟩
set_option maxRecDepth 20000 in
theorem dlaw_748 : D1 code 748 (.aload_n 0) 1 749 := ⟨by decide +kernel, rfl⟩
set_option maxRecDepth 20000 in
theorem dlaw_749 : D1 code 749 (.iload_n 3) 1 750 := ⟨by decide +kernel, rfl⟩
set_option maxRecDepth 20000 in
theorem dlaw_750 : D1 code 750 (.iconst 1) 1 751 := ⟨by decide +kernel, rfl⟩
set_option maxRecDepth 20000 in
theorem dlaw_751 : D1 code 751 (.iadd) 1 752 := ⟨by decide +kernel, rfl⟩
set_option maxRecDepth 20000 in
theorem dlaw_752 : D1 code 752 (.iaload) 1 753 := ⟨by decide +kernel, rfl⟩
set_option maxRecDepth 20000 in
theorem dlaw_753 : D1 code 753 (.aload_n 0) 1 754 := ⟨by decide +kernel, rfl⟩
set_option maxRecDepth 20000 in
theorem dlaw_754 : D1 code 754 (.iload_n 3) 1 755 := ⟨by decide +kernel, rfl⟩
set_option maxRecDepth 20000 in
theorem dlaw_755 : D1 code 755 (.iconst 2) 1 756 := ⟨by decide +kernel, rfl⟩
set_option maxRecDepth 20000 in
theorem dlaw_756 : D1 code 756 (.iadd) 1 757 := ⟨by decide +kernel, rfl⟩
set_option maxRecDepth 20000 in
theorem dlaw_757 : D1 code 757 (.iaload) 1 758 := ⟨by decide +kernel, rfl⟩
set_option maxRecDepth 20000 in
theorem dlaw_758 : D1 code 758 (.invokevirtual 87) 3 761 := ⟨by decide +kernel, rfl⟩
set_option maxRecDepth 20000 in
theorem dlaw_761 : DJ code 761 (.if_icmp .eq) 764 1490 := ⟨729, by decide +kernel, rfl, by decide⟩
set_option maxRecDepth 20000 in
theorem dlaw_764 : D1 code 764 (.iconst 0) 1 765 := ⟨by decide +kernel, rfl⟩
set_option maxRecDepth 20000 in
theorem dlaw_765 : D1 code 765 (.ireturn) 1 766 := ⟨by decide +kernel, rfl⟩
set_option maxRecDepth 20000 in
theorem dlaw_766 : D1 code 766 (.aload_n 1) 1 767 := ⟨by decide +kernel, rfl⟩
set_option maxRecDepth 20000 in
theorem dlaw_767 : D1 code 767 (.aload_n 0) 1 768 := ⟨by decide +kernel, rfl⟩
set_option maxRecDepth 20000 in
theorem dlaw_768 : D1 code 768 (.iload_n 3) 1 769 := ⟨by decide +kernel, rfl⟩
set_option maxRecDepth 20000 in
theorem dlaw_769 : D1 code 769 (.iconst 1) 1 770 := ⟨by decide +kernel, rfl⟩
set_option maxRecDepth 20000 in
theorem dlaw_770 : D1 code 770 (.iadd) 1 771 := ⟨by decide +kernel, rfl⟩
set_option maxRecDepth 20000 in
theorem dlaw_771 : D1 code 771 (.iaload) 1 772 := ⟨by decide +kernel, rfl⟩
set_option maxRecDepth 20000 in
theorem dlaw_772 : D1 code 772 (.invokevirtual 88) 3 775 := ⟨by decide +kernel, rfl⟩
set_option maxRecDepth 20000 in
theorem dlaw_775 : D1 code 775 (.aload_n 2) 1 776 := ⟨by decide +kernel, rfl⟩
set_option maxRecDepth 20000 in
theorem dlaw_776 : D1 code 776 (.aload_n 0) 1 777 := ⟨by decide +kernel, rfl⟩
set_option maxRecDepth 20000 in
theorem dlaw_777 : D1 code 777 (.iload_n 3) 1 778 := ⟨by decide +kernel, rfl⟩
set_option maxRecDepth 20000 in
theorem dlaw_778 : D1 code 778 (.iconst 1) 1 779 := ⟨by decide +kernel, rfl⟩
set_option maxRecDepth 20000 in
theorem dlaw_779 : D1 code 779 (.iadd) 1 780 := ⟨by decide +kernel, rfl⟩
set_option maxRecDepth 20000 in
theorem dlaw_780 : D1 code 780 (.iaload) 1 781 := ⟨by decide +kernel, rfl⟩
set_option maxRecDepth 20000 in
theorem dlaw_781 : D1 code 781 (.invokevirtual 91) 3 784 := ⟨by decide +kernel, rfl⟩
set_option maxRecDepth 20000 in
theorem dlaw_784 : DJ code 784 (.if_icmp .eq) 787 1490 := ⟨706, by decide +kernel, rfl, by decide⟩
set_option maxRecDepth 20000 in
theorem dlaw_787 : D1 code 787 (.iconst 0) 1 788 := ⟨by decide +kernel, rfl⟩
set_option maxRecDepth 20000 in
theorem dlaw_788 : D1 code 788 (.ireturn) 1 789 := ⟨by decide +kernel, rfl⟩
set_option maxRecDepth 20000 in
theorem dlaw_789 : D1 code 789 (.aload_n 1) 1 790 := ⟨by decide +kernel, rfl⟩
set_option maxRecDepth 20000 in
theorem dlaw_790 : D1 code 790 (.aload_n 0) 1 791 := ⟨by decide +kernel, rfl⟩
set_option maxRecDepth 20000 in
theorem dlaw_791 : D1 code 791 (.iload_n 3) 1 792 := ⟨by decide +kernel, rfl⟩
set_option maxRecDepth 20000 in
theorem dlaw_792 : D1 code 792 (.iconst 1) 1 793 := ⟨by decide +kernel, rfl⟩
set_option maxRecDepth 20000 in
theorem dlaw_793 : D1 code 793 (.iadd) 1 794 := ⟨by decide +kernel, rfl⟩
set_option maxRecDepth 20000 in
theorem dlaw_794 : D1 code 794 (.iaload) 1 795 := ⟨by decide +kernel, rfl⟩
set_option maxRecDepth 20000 in
theorem dlaw_795 : D1 code 795 (.aload_n 0) 1 796 := ⟨by decide +kernel, rfl⟩
set_option maxRecDepth 20000 in
theorem dlaw_796 : D1 code 796 (.iload_n 3) 1 797 := ⟨by decide +kernel, rfl⟩
set_option maxRecDepth 20000 in
theorem dlaw_797 : D1 code 797 (.iconst 2) 1 798 := ⟨by decide +kernel, rfl⟩
set_option maxRecDepth 20000 in
theorem dlaw_798 : D1 code 798 (.iadd) 1 799 := ⟨by decide +kernel, rfl⟩
set_option maxRecDepth 20000 in
theorem dlaw_799 : D1 code 799 (.iaload) 1 800 := ⟨by decide +kernel, rfl⟩
set_option maxRecDepth 20000 in
theorem dlaw_800 : D1 code 800 (.invokevirtual 92) 3 803 := ⟨by decide +kernel, rfl⟩
set_option maxRecDepth 20000 in
theorem dlaw_803 : D1 code 803 (.aload_n 2) 1 804 := ⟨by decide +kernel, rfl⟩
set_option maxRecDepth 20000 in
theorem dlaw_804 : D1 code 804 (.aload_n 0) 1 805 := ⟨by decide +kernel, rfl⟩
set_option maxRecDepth 20000 in
theorem dlaw_805 : D1 code 805 (.iload_n 3) 1 806 := ⟨by decide +kernel, rfl⟩
set_option maxRecDepth 20000 in
theorem dlaw_806 : D1 code 806 (.iconst 1) 1 807 := ⟨by decide +kernel, rfl⟩
set_option maxRecDepth 20000 in
theorem dlaw_807 : D1 code 807 (.iadd) 1 808 := ⟨by decide +kernel, rfl⟩
set_option maxRecDepth 20000 in
theorem dlaw_808 : D1 code 808 (.iaload) 1 809 := ⟨by decide +kernel, rfl⟩
set_option maxRecDepth 20000 in
theorem dlaw_809 : D1 code 809 (.aload_n 0) 1 810 := ⟨by decide +kernel, rfl⟩
set_option maxRecDepth 20000 in
theorem dlaw_810 : D1 code 810 (.iload_n 3) 1 811 := ⟨by decide +kernel, rfl⟩
set_option maxRecDepth 20000 in
theorem dlaw_811 : D1 code 811 (.iconst 2) 1 812 := ⟨by decide +kernel, rfl⟩
set_option maxRecDepth 20000 in
theorem dlaw_812 : D1 code 812 (.iadd) 1 813 := ⟨by decide +kernel, rfl⟩
set_option maxRecDepth 20000 in
theorem dlaw_813 : D1 code 813 (.iaload) 1 814 := ⟨by decide +kernel, rfl⟩
set_option maxRecDepth 20000 in
theorem dlaw_814 : D1 code 814 (.invokevirtual 95) 3 817 := ⟨by decide +kernel, rfl⟩
set_option maxRecDepth 20000 in
theorem dlaw_817 : DJ code 817 (.if_icmp .eq) 820 1490 := ⟨673, by decide +kernel, rfl, by decide⟩
set_option maxRecDepth 20000 in
theorem dlaw_820 : D1 code 820 (.iconst 0) 1 821 := ⟨by decide +kernel, rfl⟩
set_option maxRecDepth 20000 in
theorem dlaw_821 : D1 code 821 (.ireturn) 1 822 := ⟨by decide +kernel, rfl⟩
set_option maxRecDepth 20000 in
theorem dlaw_822 : D1 code 822 (.aload_n 1) 1 823 := ⟨by decide +kernel, rfl⟩
set_option maxRecDepth 20000 in
theorem dlaw_823 : D1 code 823 (.aload_n 0) 1 824 := ⟨by decide +kernel, rfl⟩
set_option maxRecDepth 20000 in
theorem dlaw_824 : D1 code 824 (.iload_n 3) 1 825 := ⟨by decide +kernel, rfl⟩
set_option maxRecDepth 20000 in
theorem dlaw_825 : D1 code 825 (.iconst 1) 1 826 := ⟨by decide +kernel, rfl⟩
set_option maxRecDepth 20000 in
theorem dlaw_826 : D1 code 826 (.iadd) 1 827 := ⟨by decide +kernel, rfl⟩
set_option maxRecDepth 20000 in
theorem dlaw_827 : D1 code 827 (.iaload) 1 828 := ⟨by decide +kernel, rfl⟩
set_option maxRecDepth 20000 in
theorem dlaw_828 : D1 code 828 (.invokevirtual 96) 3 831 := ⟨by decide +kernel, rfl⟩
set_option maxRecDepth 20000 in
theorem dlaw_831 : D1 code 831 (.aload_n 2) 1 832 := ⟨by decide +kernel, rfl⟩
set_option maxRecDepth 20000 in
theorem dlaw_832 : D1 code 832 (.aload_n 0) 1 833 := ⟨by decide +kernel, rfl⟩
set_option maxRecDepth 20000 in
theorem dlaw_833 : D1 code 833 (.iload_n 3) 1 834 := ⟨by decide +kernel, rfl⟩
set_option maxRecDepth 20000 in
theorem dlaw_834 : D1 code 834 (.iconst 1) 1 835 := ⟨by decide +kernel, rfl⟩
set_option maxRecDepth 20000 in
theorem dlaw_835 : D1 code 835 (.iadd) 1 836 := ⟨by decide +kernel, rfl⟩
set_option maxRecDepth 20000 in
theorem dlaw_836 : D1 code 836 (.iaload) 1 837 := ⟨by decide +kernel, rfl⟩
set_option maxRecDepth 20000 in
theorem dlaw_837 : D1 code 837 (.invokevirtual 99) 3 840 := ⟨by decide +kernel, rfl⟩
set_option maxRecDepth 20000 in
theorem dlaw_840 : DJ code 840 (.if_icmp .eq) 843 1490 := ⟨650, by decide +kernel, rfl, by decide⟩
set_option maxRecDepth 20000 in
theorem dlaw_843 : D1 code 843 (.iconst 0) 1 844 := ⟨by decide +kernel, rfl⟩
set_option maxRecDepth 20000 in
theorem dlaw_844 : D1 code 844 (.ireturn) 1 845 := ⟨by decide +kernel, rfl⟩
set_option maxRecDepth 20000 in
theorem dlaw_845 : D1 code 845 (.aload_n 1) 1 846 := ⟨by decide +kernel, rfl⟩
set_option maxRecDepth 20000 in
theorem dlaw_846 : D1 code 846 (.aload_n 0) 1 847 := ⟨by decide +kernel, rfl⟩
set_option maxRecDepth 20000 in
theorem dlaw_847 : D1 code 847 (.iload_n 3) 1 848 := ⟨by decide +kernel, rfl⟩
set_option maxRecDepth 20000 in
theorem dlaw_848 : D1 code 848 (.iconst 1) 1 849 := ⟨by decide +kernel, rfl⟩
set_option maxRecDepth 20000 in
theorem dlaw_849 : D1 code 849 (.iadd) 1 850 := ⟨by decide +kernel, rfl⟩
set_option maxRecDepth 20000 in
theorem dlaw_850 : D1 code 850 (.iaload) 1 851 := ⟨by decide +kernel, rfl⟩
set_option maxRecDepth 20000 in
theorem dlaw_851 : D1 code 851 (.invokevirtual 100) 3 854 := ⟨by decide +kernel, rfl⟩
set_option maxRecDepth 20000 in
theorem dlaw_854 : D1 code 854 (.aload_n 2) 1 855 := ⟨by decide +kernel, rfl⟩
set_option maxRecDepth 20000 in
theorem dlaw_855 : D1 code 855 (.aload_n 0) 1 856 := ⟨by decide +kernel, rfl⟩
set_option maxRecDepth 20000 in
theorem dlaw_856 : D1 code 856 (.iload_n 3) 1 857 := ⟨by decide +kernel, rfl⟩
set_option maxRecDepth 20000 in
theorem dlaw_857 : D1 code 857 (.iconst 1) 1 858 := ⟨by decide +kernel, rfl⟩
set_option maxRecDepth 20000 in
theorem dlaw_858 : D1 code 858 (.iadd) 1 859 := ⟨by decide +kernel, rfl⟩
set_option maxRecDepth 20000 in
theorem dlaw_859 : D1 code 859 (.iaload) 1 860 := ⟨by decide +kernel, rfl⟩
set_option maxRecDepth 20000 in
theorem dlaw_860 : D1 code 860 (.invokevirtual 103) 3 863 := ⟨by decide +kernel, rfl⟩
set_option maxRecDepth 20000 in
theorem dlaw_863 : DJ code 863 (.if_icmp .eq) 866 1490 := ⟨627, by decide +kernel, rfl, by decide⟩
set_option maxRecDepth 20000 in
theorem dlaw_866 : D1 code 866 (.iconst 0) 1 867 := ⟨by decide +kernel, rfl⟩
set_option maxRecDepth 20000 in
theorem dlaw_867 : D1 code 867 (.ireturn) 1 868 := ⟨by decide +kernel, rfl⟩
set_option maxRecDepth 20000 in
theorem dlaw_868 : D1 code 868 (.aload_n 1) 1 869 := ⟨by decide +kernel, rfl⟩
set_option maxRecDepth 20000 in
theorem dlaw_869 : D1 code 869 (.aload_n 0) 1 870 := ⟨by decide +kernel, rfl⟩
set_option maxRecDepth 20000 in
theorem dlaw_870 : D1 code 870 (.iload_n 3) 1 871 := ⟨by decide +kernel, rfl⟩
set_option maxRecDepth 20000 in
theorem dlaw_871 : D1 code 871 (.iconst 1) 1 872 := ⟨by decide +kernel, rfl⟩
set_option maxRecDepth 20000 in
theorem dlaw_872 : D1 code 872 (.iadd) 1 873 := ⟨by decide +kernel, rfl⟩
set_option maxRecDepth 20000 in
theorem dlaw_873 : D1 code 873 (.iaload) 1 874 := ⟨by decide +kernel, rfl⟩
set_option maxRecDepth 20000 in
theorem dlaw_874 : D1 code 874 (.invokevirtual 104) 3 877 := ⟨by decide +kernel, rfl⟩
set_option maxRecDepth 20000 in
theorem dlaw_877 : D1 code 877 (.aload_n 2) 1 878 := ⟨by decide +kernel, rfl⟩
set_option maxRecDepth 20000 in
theorem dlaw_878 : D1 code 878 (.aload_n 0) 1 879 := ⟨by decide +kernel, rfl⟩
set_option maxRecDepth 20000 in
theorem dlaw_879 : D1 code 879 (.iload_n 3) 1 880 := ⟨by decide +kernel, rfl⟩
set_option maxRecDepth 20000 in
theorem dlaw_880 : D1 code 880 (.iconst 1) 1 881 := ⟨by decide +kernel, rfl⟩
set_option maxRecDepth 20000 in
theorem dlaw_881 : D1 code 881 (.iadd) 1 882 := ⟨by decide +kernel, rfl⟩
set_option maxRecDepth 20000 in
theorem dlaw_882 : D1 code 882 (.iaload) 1 883 := ⟨by decide +kernel, rfl⟩
set_option maxRecDepth 20000 in
theorem dlaw_883 : D1 code 883 (.invokevirtual 107) 3 886 := ⟨by decide +kernel, rfl⟩
set_option maxRecDepth 20000 in
theorem dlaw_886 : DJ code 886 (.if_icmp .eq) 889 1490 := ⟨604, by decide +kernel, rfl, by decide⟩
set_option maxRecDepth 20000 in
theorem dlaw_889 : D1 code 889 (.iconst 0) 1 890 := ⟨by decide +kernel, rfl⟩
set_option maxRecDepth 20000 in
theorem dlaw_890 : D1 code 890 (.ireturn) 1 891 := ⟨by decide +kernel, rfl⟩
set_option maxRecDepth 20000 in
theorem dlaw_891 : D1 code 891 (.aload_n 1) 1 892 := ⟨by decide +kernel, rfl⟩
set_option maxRecDepth 20000 in
theorem dlaw_892 : D1 code 892 (.aload_n 0) 1 893 := ⟨by decide +kernel, rfl⟩
set_option maxRecDepth 20000 in
theorem dlaw_893 : D1 code 893 (.iload_n 3) 1 894 := ⟨by decide +kernel, rfl⟩
set_option maxRecDepth 20000 in
theorem dlaw_894 : D1 code 894 (.iconst 1) 1 895 := ⟨by decide +kernel, rfl⟩
set_option maxRecDepth 20000 in
theorem dlaw_895 : D1 code 895 (.iadd) 1 896 := ⟨by decide +kernel, rfl⟩
set_option maxRecDepth 20000 in
theorem dlaw_896 : D1 code 896 (.iaload) 1 897 := ⟨by decide +kernel, rfl⟩
set_option maxRecDepth 20000 in
theorem dlaw_897 : D1 code 897 (.invokevirtual 108) 3 900 := ⟨by decide +kernel, rfl⟩
set_option maxRecDepth 20000 in
theorem dlaw_900 : D1 code 900 (.aload_n 2) 1 901 := ⟨by decide +kernel, rfl⟩
set_option maxRecDepth 20000 in
theorem dlaw_901 : D1 code 901 (.aload_n 0) 1 902 := ⟨by decide +kernel, rfl⟩
set_option maxRecDepth 20000 in
theorem dlaw_902 : D1 code 902 (.iload_n 3) 1 903 := ⟨by decide +kernel, rfl⟩
set_option maxRecDepth 20000 in
theorem dlaw_903 : D1 code 903 (.iconst 1) 1 904 := ⟨by decide +kernel, rfl⟩
set_option maxRecDepth 20000 in
theorem dlaw_904 : D1 code 904 (.iadd) 1 905 := ⟨by decide +kernel, rfl⟩
set_option maxRecDepth 20000 in
theorem dlaw_905 : D1 code 905 (.iaload) 1 906 := ⟨by decide +kernel, rfl⟩
set_option maxRecDepth 20000 in
theorem dlaw_906 : D1 code 906 (.invokevirtual 111) 3 909 := ⟨by decide +kernel, rfl⟩
set_option maxRecDepth 20000 in
theorem dlaw_909 : DJ code 909 (.if_icmp .eq) 912 1490 := ⟨581, by decide +kernel, rfl, by decide⟩
set_option maxRecDepth 20000 in
theorem dlaw_912 : D1 code 912 (.iconst 0) 1 913 := ⟨by decide +kernel, rfl⟩
set_option maxRecDepth 20000 in
theorem dlaw_913 : D1 code 913 (.ireturn) 1 914 := ⟨by decide +kernel, rfl⟩
set_option maxRecDepth 20000 in
theorem dlaw_914 : D1 code 914 (.aload_n 1) 1 915 := ⟨by decide +kernel, rfl⟩
set_option maxRecDepth 20000 in
theorem dlaw_915 : D1 code 915 (.invokevirtual 112) 3 918 := ⟨by decide +kernel, rfl⟩
set_option maxRecDepth 20000 in
theorem dlaw_918 : D1 code 918 (.aload_n 2) 1 919 := ⟨by decide +kernel, rfl⟩
set_option maxRecDepth 20000 in
theorem dlaw_919 : D1 code 919 (.invokevirtual 116) 3 922 := ⟨by decide +kernel, rfl⟩
set_option maxRecDepth 20000 in
theorem dlaw_922 : DJ code 922 (.if_icmp .eq) 925 1490 := ⟨568, by decide +kernel, rfl, by decide⟩
set_option maxRecDepth 20000 in
theorem dlaw_925 : D1 code 925 (.iconst 0) 1 926 := ⟨by decide +kernel, rfl⟩
set_option maxRecDepth 20000 in
theorem dlaw_926 : D1 code 926 (.ireturn) 1 927 := ⟨by decide +kernel, rfl⟩
set_option maxRecDepth 20000 in
theorem dlaw_927 : D1 code 927 (.aload_n 1) 1 928 := ⟨by decide +kernel, rfl⟩
set_option maxRecDepth 20000 in
theorem dlaw_928 : D1 code 928 (.aload_n 0) 1 929 := ⟨by decide +kernel, rfl⟩
set_option maxRecDepth 20000 in
theorem dlaw_929 : D1 code 929 (.iload_n 3) 1 930 := ⟨by decide +kernel, rfl⟩
set_option maxRecDepth 20000 in
theorem dlaw_930 : D1 code 930 (.iconst 1) 1 931 := ⟨by decide +kernel, rfl⟩
set_option maxRecDepth 20000 in
theorem dlaw_931 : D1 code 931 (.iadd) 1 932 := ⟨by decide +kernel, rfl⟩
set_option maxRecDepth 20000 in
theorem dlaw_932 : D1 code 932 (.iaload) 1 933 := ⟨by decide +kernel, rfl⟩
set_option maxRecDepth 20000 in
theorem dlaw_933 : D1 code 933 (.invokevirtual 117) 3 936 := ⟨by decide +kernel, rfl⟩
set_option maxRecDepth 20000 in
theorem dlaw_936 : D1 code 936 (.aload_n 2) 1 937 := ⟨by decide +kernel, rfl⟩
set_option maxRecDepth 20000 in
theorem dlaw_937 : D1 code 937 (.aload_n 0) 1 938 := ⟨by decide +kernel, rfl⟩
set_option maxRecDepth 20000 in
theorem dlaw_938 : D1 code 938 (.iload_n 3) 1 939 := ⟨by decide +kernel, rfl⟩
set_option maxRecDepth 20000 in
theorem dlaw_939 : D1 code 939 (.iconst 1) 1 940 := ⟨by decide +kernel, rfl⟩
set_option maxRecDepth 20000 in
theorem dlaw_940 : D1 code 940 (.iadd) 1 941 := ⟨by decide +kernel, rfl⟩
set_option maxRecDepth 20000 in
theorem dlaw_941 : D1 code 941 (.iaload) 1 942 := ⟨by decide +kernel, rfl⟩
set_option maxRecDepth 20000 in
theorem dlaw_942 : D1 code 942 (.invokevirtual 120) 3 945 := ⟨by decide +kernel, rfl⟩
set_option maxRecDepth 20000 in
theorem dlaw_945 : DJ code 945 (.if_icmp .eq) 948 1490 := ⟨545, by decide +kernel, rfl, by decide⟩
set_option maxRecDepth 20000 in
theorem dlaw_948 : D1 code 948 (.iconst 0) 1 949 := ⟨by decide +kernel, rfl⟩
set_option maxRecDepth 20000 in
theorem dlaw_949 : D1 code 949 (.ireturn) 1 950 := ⟨by decide +kernel, rfl⟩
set_option maxRecDepth 20000 in
theorem dlaw_950 : D1 code 950 (.aload_n 1) 1 951 := ⟨by decide +kernel, rfl⟩
set_option maxRecDepth 20000 in
theorem dlaw_951 : D1 code 951 (.invokevirtual 121) 3 954 := ⟨by decide +kernel, rfl⟩
set_option maxRecDepth 20000 in
theorem dlaw_954 : D1 code 954 (.aload_n 2) 1 955 := ⟨by decide +kernel, rfl⟩
set_option maxRecDepth 20000 in
theorem dlaw_955 : D1 code 955 (.invokevirtual 124) 3 958 := ⟨by decide +kernel, rfl⟩
set_option maxRecDepth 20000 in
theorem dlaw_958 : DJ code 958 (.if_icmp .eq) 961 1490 := ⟨532, by decide +kernel, rfl, by decide⟩
set_option maxRecDepth 20000 in
theorem dlaw_961 : D1 code 961 (.iconst 0) 1 962 := ⟨by decide +kernel, rfl⟩
set_option maxRecDepth 20000 in
theorem dlaw_962 : D1 code 962 (.ireturn) 1 963 := ⟨by decide +kernel, rfl⟩
set_option maxRecDepth 20000 in
theorem dlaw_963 : D1 code 963 (.aload_n 1) 1 964 := ⟨by decide +kernel, rfl⟩
set_option maxRecDepth 20000 in
theorem dlaw_964 : D1 code 964 (.aload_n 0) 1 965 := ⟨by decide +kernel, rfl⟩
set_option maxRecDepth 20000 in
theorem dlaw_965 : D1 code 965 (.iload_n 3) 1 966 := ⟨by decide +kernel, rfl⟩
set_option maxRecDepth 20000 in
theorem dlaw_966 : D1 code 966 (.iconst 1) 1 967 := ⟨by decide +kernel, rfl⟩
set_option maxRecDepth 20000 in
theorem dlaw_967 : D1 code 967 (.iadd) 1 968 := ⟨by decide +kernel, rfl⟩
set_option maxRecDepth 20000 in
theorem dlaw_968 : D1 code 968 (.iaload) 1 969 := ⟨by decide +kernel, rfl⟩
set_option maxRecDepth 20000 in
theorem dlaw_969 : D1 code 969 (.invokevirtual 125) 3 972 := ⟨by decide +kernel, rfl⟩
set_option maxRecDepth 20000 in
theorem dlaw_972 : D1 code 972 (.aload_n 2) 1 973 := ⟨by decide +kernel, rfl⟩
set_option maxRecDepth 20000 in
theorem dlaw_973 : D1 code 973 (.aload_n 0) 1 974 := ⟨by decide +kernel, rfl⟩
set_option maxRecDepth 20000 in
theorem dlaw_974 : D1 code 974 (.iload_n 3) 1 975 := ⟨by decide +kernel, rfl⟩
set_option maxRecDepth 20000 in
theorem dlaw_975 : D1 code 975 (.iconst 1) 1 976 := ⟨by decide +kernel, rfl⟩
set_option maxRecDepth 20000 in
theorem dlaw_976 : D1 code 976 (.iadd) 1 977 := ⟨by decide +kernel, rfl⟩
set_option maxRecDepth 20000 in
theorem dlaw_977 : D1 code 977 (.iaload) 1 978 := ⟨by decide +kernel, rfl⟩
set_option maxRecDepth 20000 in
theorem dlaw_978 : D1 code 978 (.invokevirtual 128) 3 981 := ⟨by decide +kernel, rfl⟩
set_option maxRecDepth 20000 in
theorem dlaw_981 : DJ code 981 (.if_icmp .eq) 984 1490 := ⟨509, by decide +kernel, rfl, by decide⟩
set_option maxRecDepth 20000 in
theorem dlaw_984 : D1 code 984 (.iconst 0) 1 985 := ⟨by decide +kernel, rfl⟩
set_option maxRecDepth 20000 in
theorem dlaw_985 : D1 code 985 (.ireturn) 1 986 := ⟨by decide +kernel, rfl⟩
set_option maxRecDepth 20000 in
theorem dlaw_986 : D1 code 986 (.aload_n 1) 1 987 := ⟨by decide +kernel, rfl⟩
set_option maxRecDepth 20000 in
theorem dlaw_987 : D1 code 987 (.aload_n 0) 1 988 := ⟨by decide +kernel, rfl⟩
set_option maxRecDepth 20000 in
theorem dlaw_988 : D1 code 988 (.iload_n 3) 1 989 := ⟨by decide +kernel, rfl⟩
set_option maxRecDepth 20000 in
theorem dlaw_989 : D1 code 989 (.iconst 1) 1 990 := ⟨by decide +kernel, rfl⟩
set_option maxRecDepth 20000 in
theorem dlaw_990 : D1 code 990 (.iadd) 1 991 := ⟨by decide +kernel, rfl⟩
set_option maxRecDepth 20000 in
theorem dlaw_991 : D1 code 991 (.iaload) 1 992 := ⟨by decide +kernel, rfl⟩
set_option maxRecDepth 20000 in
theorem dlaw_992 : D1 code 992 (.invokevirtual 129) 3 995 := ⟨by decide +kernel, rfl⟩
set_option maxRecDepth 20000 in
theorem dlaw_995 : D1 code 995 (.aload_n 2) 1 996 := ⟨by decide +kernel, rfl⟩
set_option maxRecDepth 20000 in
theorem dlaw_996 : D1 code 996 (.aload_n 0) 1 997 := ⟨by decide +kernel, rfl⟩
set_option maxRecDepth 20000 in
theorem dlaw_997 : D1 code 997 (.iload_n 3) 1 998 := ⟨by decide +kernel, rfl⟩
set_option maxRecDepth 20000 in
theorem dlaw_998 : D1 code 998 (.iconst 1) 1 999 := ⟨by decide +kernel, rfl⟩
set_option maxRecDepth 20000 in
theorem dlaw_999 : D1 code 999 (.iadd) 1 1000 := ⟨by decide +kernel, rfl⟩
set_option maxRecDepth 20000 in
theorem dlaw_1000 : D1 code 1000 (.iaload) 1 1001 := ⟨by decide +kernel, rfl⟩
set_option maxRecDepth 20000 in
theorem dlaw_1001 : D1 code 1001 (.invokevirtual 132) 3 1004 := ⟨by decide +kernel, rfl⟩
set_option maxRecDepth 20000 in
theorem dlaw_1004 : DJ code 1004 (.if_icmp .eq) 1007 1490 := ⟨486, by decide +kernel, rfl, by decide⟩
set_option maxRecDepth 20000 in
theorem dlaw_1007 : D1 code 1007 (.iconst 0) 1 1008 := ⟨by decide +kernel, rfl⟩
set_option maxRecDepth 20000 in
theorem dlaw_1008 : D1 code 1008 (.ireturn) 1 1009 := ⟨by decide +kernel, rfl⟩
set_option maxRecDepth 20000 in
theorem dlaw_1009 : D1 code 1009 (.aload_n 1) 1 1010 := ⟨by decide +kernel, rfl⟩
set_option maxRecDepth 20000 in
theorem dlaw_1010 : D1 code 1010 (.aload_n 0) 1 1011 := ⟨by decide +kernel, rfl⟩
set_option maxRecDepth 20000 in
theorem dlaw_1011 : D1 code 1011 (.iload_n 3) 1 1012 := ⟨by decide +kernel, rfl⟩
set_option maxRecDepth 20000 in
theorem dlaw_1012 : D1 code 1012 (.iconst 1) 1 1013 := ⟨by decide +kernel, rfl⟩
set_option maxRecDepth 20000 in
theorem dlaw_1013 : D1 code 1013 (.iadd) 1 1014 := ⟨by decide +kernel, rfl⟩
set_option maxRecDepth 20000 in
theorem dlaw_1014 : D1 code 1014 (.iaload) 1 1015 := ⟨by decide +kernel, rfl⟩
set_option maxRecDepth 20000 in
theorem dlaw_1015 : D1 code 1015 (.aload_n 0) 1 1016 := ⟨by decide +kernel, rfl⟩
set_option maxRecDepth 20000 in
theorem dlaw_1016 : D1 code 1016 (.iload_n 3) 1 1017 := ⟨by decide +kernel, rfl⟩
set_option maxRecDepth 20000 in
theorem dlaw_1017 : D1 code 1017 (.iconst 2) 1 1018 := ⟨by decide +kernel, rfl⟩
set_option maxRecDepth 20000 in
theorem dlaw_1018 : D1 code 1018 (.iadd) 1 1019 := ⟨by decide +kernel, rfl⟩
set_option maxRecDepth 20000 in
theorem dlaw_1019 : D1 code 1019 (.iaload) 1 1020 := ⟨by decide +kernel, rfl⟩
set_option maxRecDepth 20000 in
theorem dlaw_1020 : D1 code 1020 (.invokevirtual 133) 3 1023 := ⟨by decide +kernel, rfl⟩
set_option maxRecDepth 20000 in
theorem dlaw_1023 : D1 code 1023 (.aload_n 2) 1 1024 := ⟨by decide +kernel, rfl⟩
set_option maxRecDepth 20000 in
theorem dlaw_1024 : D1 code 1024 (.aload_n 0) 1 1025 := ⟨by decide +kernel, rfl⟩
set_option maxRecDepth 20000 in
theorem dlaw_1025 : D1 code 1025 (.iload_n 3) 1 1026 := ⟨by decide +kernel, rfl⟩
set_option maxRecDepth 20000 in
theorem dlaw_1026 : D1 code 1026 (.iconst 1) 1 1027 := ⟨by decide +kernel, rfl⟩
set_option maxRecDepth 20000 in
theorem dlaw_1027 : D1 code 1027 (.iadd) 1 1028 := ⟨by decide +kernel, rfl⟩
set_option maxRecDepth 20000 in
theorem dlaw_1028 : D1 code 1028 (.iaload) 1 1029 := ⟨by decide +kernel, rfl⟩
set_option maxRecDepth 20000 in
theorem dlaw_1029 : D1 code 1029 (.aload_n 0) 1 1030 := ⟨by decide +kernel, rfl⟩
set_option maxRecDepth 20000 in
theorem dlaw_1030 : D1 code 1030 (.iload_n 3) 1 1031 := ⟨by decide +kernel, rfl⟩
set_option maxRecDepth 20000 in
theorem dlaw_1031 : D1 code 1031 (.iconst 2) 1 1032 := ⟨by decide +kernel, rfl⟩
set_option maxRecDepth 20000 in
theorem dlaw_1032 : D1 code 1032 (.iadd) 1 1033 := ⟨by decide +kernel, rfl⟩
set_option maxRecDepth 20000 in
theorem dlaw_1033 : D1 code 1033 (.iaload) 1 1034 := ⟨by decide +kernel, rfl⟩
set_option maxRecDepth 20000 in
theorem dlaw_1034 : D1 code 1034 (.invokevirtual 136) 3 1037 := ⟨by decide +kernel, rfl⟩
set_option maxRecDepth 20000 in
theorem dlaw_1037 : DJ code 1037 (.if_icmp .eq) 1040 1490 := ⟨453, by decide +kernel, rfl, by decide⟩
set_option maxRecDepth 20000 in
theorem dlaw_1040 : D1 code 1040 (.iconst 0) 1 1041 := ⟨by decide +kernel, rfl⟩
set_option maxRecDepth 20000 in
theorem dlaw_1041 : D1 code 1041 (.ireturn) 1 1042 := ⟨by decide +kernel, rfl⟩
set_option maxRecDepth 20000 in
theorem dlaw_1042 : D1 code 1042 (.aload_n 1) 1 1043 := ⟨by decide +kernel, rfl⟩
set_option maxRecDepth 20000 in
theorem dlaw_1043 : D1 code 1043 (.invokevirtual 137) 3 1046 := ⟨by decide +kernel, rfl⟩
set_option maxRecDepth 20000 in
theorem dlaw_1046 : D1 code 1046 (.aload_n 2) 1 1047 := ⟨by decide +kernel, rfl⟩
set_option maxRecDepth 20000 in
theorem dlaw_1047 : D1 code 1047 (.invokevirtual 140) 3 1050 := ⟨by decide +kernel, rfl⟩
set_option maxRecDepth 20000 in
theorem dlaw_1050 : DJ code 1050 (.if_icmp .eq) 1053 1490 := ⟨440, by decide +kernel, rfl, by decide⟩
set_option maxRecDepth 20000 in
theorem dlaw_1053 : D1 code 1053 (.iconst 0) 1 1054 := ⟨by decide +kernel, rfl⟩
set_option maxRecDepth 20000 in
theorem dlaw_1054 : D1 code 1054 (.ireturn) 1 1055 := ⟨by decide +kernel, rfl⟩
set_option maxRecDepth 20000 in
theorem dlaw_1055 : D1 code 1055 (.aload_n 1) 1 1056 := ⟨by decide +kernel, rfl⟩
set_option maxRecDepth 20000 in
theorem dlaw_1056 : D1 code 1056 (.invokevirtual 141) 3 1059 := ⟨by decide +kernel, rfl⟩
set_option maxRecDepth 20000 in
theorem dlaw_1059 : D1 code 1059 (.aload_n 2) 1 1060 := ⟨by decide +kernel, rfl⟩
set_option maxRecDepth 20000 in
theorem dlaw_1060 : D1 code 1060 (.invokevirtual 144) 3 1063 := ⟨by decide +kernel, rfl⟩
set_option maxRecDepth 20000 in
theorem dlaw_1063 : DJ code 1063 (.if_icmp .eq) 1066 1490 := ⟨427, by decide +kernel, rfl, by decide⟩
set_option maxRecDepth 20000 in
theorem dlaw_1066 : D1 code 1066 (.iconst 0) 1 1067 := ⟨by decide +kernel, rfl⟩
set_option maxRecDepth 20000 in
theorem dlaw_1067 : D1 code 1067 (.ireturn) 1 1068 := ⟨by decide +kernel, rfl⟩
set_option maxRecDepth 20000 in
theorem dlaw_1068 : D1 code 1068 (.aload_n 1) 1 1069 := ⟨by decide +kernel, rfl⟩
set_option maxRecDepth 20000 in
theorem dlaw_1069 : D1 code 1069 (.aload_n 0) 1 1070 := ⟨by decide +kernel, rfl⟩
set_option maxRecDepth 20000 in
theorem dlaw_1070 : D1 code 1070 (.iload_n 3) 1 1071 := ⟨by decide +kernel, rfl⟩
set_option maxRecDepth 20000 in
theorem dlaw_1071 : D1 code 1071 (.iconst 1) 1 1072 := ⟨by decide +kernel, rfl⟩
set_option maxRecDepth 20000 in
theorem dlaw_1072 : D1 code 1072 (.iadd) 1 1073 := ⟨by decide +kernel, rfl⟩
set_option maxRecDepth 20000 in
theorem dlaw_1073 : D1 code 1073 (.iaload) 1 1074 := ⟨by decide +kernel, rfl⟩
set_option maxRecDepth 20000 in
theorem dlaw_1074 : D1 code 1074 (.aload_n 0) 1 1075 := ⟨by decide +kernel, rfl⟩
set_option maxRecDepth 20000 in
theorem dlaw_1075 : D1 code 1075 (.iload_n 3) 1 1076 := ⟨by decide +kernel, rfl⟩
set_option maxRecDepth 20000 in
theorem dlaw_1076 : D1 code 1076 (.iconst 2) 1 1077 := ⟨by decide +kernel, rfl⟩
set_option maxRecDepth 20000 in
theorem dlaw_1077 : D1 code 1077 (.iadd) 1 1078 := ⟨by decide +kernel, rfl⟩
set_option maxRecDepth 20000 in
theorem dlaw_1078 : D1 code 1078 (.iaload) 1 1079 := ⟨by decide +kernel, rfl⟩
set_option maxRecDepth 20000 in
theorem dlaw_1079 : D1 code 1079 (.invokevirtual 145) 3 1082 := ⟨by decide +kernel, rfl⟩
set_option maxRecDepth 20000 in
theorem dlaw_1082 : D1 code 1082 (.aload_n 2) 1 1083 := ⟨by decide +kernel, rfl⟩
set_option maxRecDepth 20000 in
theorem dlaw_1083 : D1 code 1083 (.aload_n 0) 1 1084 := ⟨by decide +kernel, rfl⟩
set_option maxRecDepth 20000 in
theorem dlaw_1084 : D1 code 1084 (.iload_n 3) 1 1085 := ⟨by decide +kernel, rfl⟩
set_option maxRecDepth 20000 in
theorem dlaw_1085 : D1 code 1085 (.iconst 1) 1 1086 := ⟨by decide +kernel, rfl⟩
set_option maxRecDepth 20000 in
theorem dlaw_1086 : D1 code 1086 (.iadd) 1 1087 := ⟨by decide +kernel, rfl⟩
set_option maxRecDepth 20000 in
theorem dlaw_1087 : D1 code 1087 (.iaload) 1 1088 := ⟨by decide +kernel, rfl⟩
set_option maxRecDepth 20000 in
theorem dlaw_1088 : D1 code 1088 (.aload_n 0) 1 1089 := ⟨by decide +kernel, rfl⟩
set_option maxRecDepth 20000 in
theorem dlaw_1089 : D1 code 1089 (.iload_n 3) 1 1090 := ⟨by decide +kernel, rfl⟩
set_option maxRecDepth 20000 in
theorem dlaw_1090 : D1 code 1090 (.iconst 2) 1 1091 := ⟨by decide +kernel, rfl⟩
set_option maxRecDepth 20000 in
theorem dlaw_1091 : D1 code 1091 (.iadd) 1 1092 := ⟨by decide +kernel, rfl⟩
set_option maxRecDepth 20000 in
theorem dlaw_1092 : D1 code 1092 (.iaload) 1 1093 := ⟨by decide +kernel, rfl⟩
set_option maxRecDepth 20000 in
theorem dlaw_1093 : D1 code 1093 (.invokevirtual 148) 3 1096 := ⟨by decide +kernel, rfl⟩
set_option maxRecDepth 20000 in
theorem dlaw_1096 : DJ code 1096 (.if_icmp .eq) 1099 1490 := ⟨394, by decide +kernel, rfl, by decide⟩
set_option maxRecDepth 20000 in
theorem dlaw_1099 : D1 code 1099 (.iconst 0) 1 1100 := ⟨by decide +kernel, rfl⟩
set_option maxRecDepth 20000 in
theorem dlaw_1100 : D1 code 1100 (.ireturn) 1 1101 := ⟨by decide +kernel, rfl⟩
set_option maxRecDepth 20000 in
theorem dlaw_1101 : D1 code 1101 (.aload_n 1) 1 1102 := ⟨by decide +kernel, rfl⟩
set_option maxRecDepth 20000 in
theorem dlaw_1102 : D1 code 1102 (.aload_n 0) 1 1103 := ⟨by decide +kernel, rfl⟩
set_option maxRecDepth 20000 in
theorem dlaw_1103 : D1 code 1103 (.iload_n 3) 1 1104 := ⟨by decide +kernel, rfl⟩
set_option maxRecDepth 20000 in
theorem dlaw_1104 : D1 code 1104 (.iconst 1) 1 1105 := ⟨by decide +kernel, rfl⟩
set_option maxRecDepth 20000 in
theorem dlaw_1105 : D1 code 1105 (.iadd) 1 1106 := ⟨by decide +kernel, rfl⟩
set_option maxRecDepth 20000 in
theorem dlaw_1106 : D1 code 1106 (.iaload) 1 1107 := ⟨by decide +kernel, rfl⟩
set_option maxRecDepth 20000 in
theorem dlaw_1107 : D1 code 1107 (.aload_n 0) 1 1108 := ⟨by decide +kernel, rfl⟩
set_option maxRecDepth 20000 in
theorem dlaw_1108 : D1 code 1108 (.iload_n 3) 1 1109 := ⟨by decide +kernel, rfl⟩
set_option maxRecDepth 20000 in
theorem dlaw_1109 : D1 code 1109 (.iconst 2) 1 1110 := ⟨by decide +kernel, rfl⟩
set_option maxRecDepth 20000 in
theorem dlaw_1110 : D1 code 1110 (.iadd) 1 1111 := ⟨by decide +kernel, rfl⟩
set_option maxRecDepth 20000 in
theorem dlaw_1111 : D1 code 1111 (.iaload) 1 1112 := ⟨by decide +kernel, rfl⟩
set_option maxRecDepth 20000 in
theorem dlaw_1112 : D1 code 1112 (.invokevirtual 149) 3 1115 := ⟨by decide +kernel, rfl⟩
set_option maxRecDepth 20000 in
theorem dlaw_1115 : D1 code 1115 (.aload_n 2) 1 1116 := ⟨by decide +kernel, rfl⟩
set_option maxRecDepth 20000 in
theorem dlaw_1116 : D1 code 1116 (.aload_n 0) 1 1117 := ⟨by decide +kernel, rfl⟩
set_option maxRecDepth 20000 in
theorem dlaw_1117 : D1 code 1117 (.iload_n 3) 1 1118 := ⟨by decide +kernel, rfl⟩
set_option maxRecDepth 20000 in
theorem dlaw_1118 : D1 code 1118 (.iconst 1) 1 1119 := ⟨by decide +kernel, rfl⟩
set_option maxRecDepth 20000 in
theorem dlaw_1119 : D1 code 1119 (.iadd) 1 1120 := ⟨by decide +kernel, rfl⟩
set_option maxRecDepth 20000 in
theorem dlaw_1120 : D1 code 1120 (.iaload) 1 1121 := ⟨by decide +kernel, rfl⟩
set_option maxRecDepth 20000 in
theorem dlaw_1121 : D1 code 1121 (.aload_n 0) 1 1122 := ⟨by decide +kernel, rfl⟩
set_option maxRecDepth 20000 in
theorem dlaw_1122 : D1 code 1122 (.iload_n 3) 1 1123 := ⟨by decide +kernel, rfl⟩
set_option maxRecDepth 20000 in
theorem dlaw_1123 : D1 code 1123 (.iconst 2) 1 1124 := ⟨by decide +kernel, rfl⟩
set_option maxRecDepth 20000 in
theorem dlaw_1124 : D1 code 1124 (.iadd) 1 1125 := ⟨by decide +kernel, rfl⟩
set_option maxRecDepth 20000 in
theorem dlaw_1125 : D1 code 1125 (.iaload) 1 1126 := ⟨by decide +kernel, rfl⟩
set_option maxRecDepth 20000 in
theorem dlaw_1126 : D1 code 1126 (.invokevirtual 152) 3 1129 := ⟨by decide +kernel, rfl⟩
set_option maxRecDepth 20000 in
theorem dlaw_1129 : DJ code 1129 (.if_icmp .eq) 1132 1490 := ⟨361, by decide +kernel, rfl, by decide⟩
set_option maxRecDepth 20000 in
theorem dlaw_1132 : D1 code 1132 (.iconst 0) 1 1133 := ⟨by decide +kernel, rfl⟩
set_option maxRecDepth 20000 in
theorem dlaw_1133 : D1 code 1133 (.ireturn) 1 1134 := ⟨by decide +kernel, rfl⟩
set_option maxRecDepth 20000 in
theorem dlaw_1134 : D1 code 1134 (.aload_n 1) 1 1135 := ⟨by decide +kernel, rfl⟩
set_option maxRecDepth 20000 in
theorem dlaw_1135 : D1 code 1135 (.aload_n 0) 1 1136 := ⟨by decide +kernel, rfl⟩
set_option maxRecDepth 20000 in
theorem dlaw_1136 : D1 code 1136 (.iload_n 3) 1 1137 := ⟨by decide +kernel, rfl⟩
set_option maxRecDepth 20000 in
theorem dlaw_1137 : D1 code 1137 (.iconst 1) 1 1138 := ⟨by decide +kernel, rfl⟩
set_option maxRecDepth 20000 in
theorem dlaw_1138 : D1 code 1138 (.iadd) 1 1139 := ⟨by decide +kernel, rfl⟩
set_option maxRecDepth 20000 in
theorem dlaw_1139 : D1 code 1139 (.iaload) 1 1140 := ⟨by decide +kernel, rfl⟩
set_option maxRecDepth 20000 in
theorem dlaw_1140 : D1 code 1140 (.aload_n 0) 1 1141 := ⟨by decide +kernel, rfl⟩
set_option maxRecDepth 20000 in
theorem dlaw_1141 : D1 code 1141 (.iload_n 3) 1 1142 := ⟨by decide +kernel, rfl⟩
set_option maxRecDepth 20000 in
theorem dlaw_1142 : D1 code 1142 (.iconst 2) 1 1143 := ⟨by decide +kernel, rfl⟩
set_option maxRecDepth 20000 in
theorem dlaw_1143 : D1 code 1143 (.iadd) 1 1144 := ⟨by decide +kernel, rfl⟩
set_option maxRecDepth 20000 in
theorem dlaw_1144 : D1 code 1144 (.iaload) 1 1145 := ⟨by decide +kernel, rfl⟩
set_option maxRecDepth 20000 in
theorem dlaw_1145 : D1 code 1145 (.aload_n 0) 1 1146 := ⟨by decide +kernel, rfl⟩
set_option maxRecDepth 20000 in
theorem dlaw_1146 : D1 code 1146 (.iload_n 3) 1 1147 := ⟨by decide +kernel, rfl⟩
set_option maxRecDepth 20000 in
theorem dlaw_1147 : D1 code 1147 (.iconst 3) 1 1148 := ⟨by decide +kernel, rfl⟩
set_option maxRecDepth 20000 in
theorem dlaw_1148 : D1 code 1148 (.iadd) 1 1149 := ⟨by decide +kernel, rfl⟩
set_option maxRecDepth 20000 in
theorem dlaw_1149 : D1 code 1149 (.iaload) 1 1150 := ⟨by decide +kernel, rfl⟩
set_option maxRecDepth 20000 in
theorem dlaw_1150 : D1 code 1150 (.invokevirtual 153) 3 1153 := ⟨by decide +kernel, rfl⟩
set_option maxRecDepth 20000 in
theorem dlaw_1153 : D1 code 1153 (.aload_n 2) 1 1154 := ⟨by decide +kernel, rfl⟩
set_option maxRecDepth 20000 in
theorem dlaw_1154 : D1 code 1154 (.aload_n 0) 1 1155 := ⟨by decide +kernel, rfl⟩
set_option maxRecDepth 20000 in
theorem dlaw_1155 : D1 code 1155 (.iload_n 3) 1 1156 := ⟨by decide +kernel, rfl⟩
set_option maxRecDepth 20000 in
theorem dlaw_1156 : D1 code 1156 (.iconst 1) 1 1157 := ⟨by decide +kernel, rfl⟩
set_option maxRecDepth 20000 in
theorem dlaw_1157 : D1 code 1157 (.iadd) 1 1158 := ⟨by decide +kernel, rfl⟩
set_option maxRecDepth 20000 in
theorem dlaw_1158 : D1 code 1158 (.iaload) 1 1159 := ⟨by decide +kernel, rfl⟩
set_option maxRecDepth 20000 in
theorem dlaw_1159 : D1 code 1159 (.aload_n 0) 1 1160 := ⟨by decide +kernel, rfl⟩
set_option maxRecDepth 20000 in
theorem dlaw_1160 : D1 code 1160 (.iload_n 3) 1 1161 := ⟨by decide +kernel, rfl⟩
set_option maxRecDepth 20000 in
theorem dlaw_1161 : D1 code 1161 (.iconst 2) 1 1162 := ⟨by decide +kernel, rfl⟩
set_option maxRecDepth 20000 in
theorem dlaw_1162 : D1 code 1162 (.iadd) 1 1163 := ⟨by decide +kernel, rfl⟩
set_option maxRecDepth 20000 in
theorem dlaw_1163 : D1 code 1163 (.iaload) 1 1164 := ⟨by decide +kernel, rfl⟩
set_option maxRecDepth 20000 in
theorem dlaw_1164 : D1 code 1164 (.aload_n 0) 1 1165 := ⟨by decide +kernel, rfl⟩
set_option maxRecDepth 20000 in
theorem dlaw_1165 : D1 code 1165 (.iload_n 3) 1 1166 := ⟨by decide +kernel, rfl⟩
set_option maxRecDepth 20000 in
theorem dlaw_1166 : D1 code 1166 (.iconst 3) 1 1167 := ⟨by decide +kernel, rfl⟩
set_option maxRecDepth 20000 in
theorem dlaw_1167 : D1 code 1167 (.iadd) 1 1168 := ⟨by decide +kernel, rfl⟩
set_option maxRecDepth 20000 in
theorem dlaw_1168 : D1 code 1168 (.iaload) 1 1169 := ⟨by decide +kernel, rfl⟩
set_option maxRecDepth 20000 in
theorem dlaw_1169 : D1 code 1169 (.invokevirtual 156) 3 1172 := ⟨by decide +kernel, rfl⟩
set_option maxRecDepth 20000 in
theorem dlaw_1172 : DJ code 1172 (.if_icmp .eq) 1175 1490 := ⟨318, by decide +kernel, rfl, by decide⟩
set_option maxRecDepth 20000 in
theorem dlaw_1175 : D1 code 1175 (.iconst 0) 1 1176 := ⟨by decide +kernel, rfl⟩
set_option maxRecDepth 20000 in
theorem dlaw_1176 : D1 code 1176 (.ireturn) 1 1177 := ⟨by decide +kernel, rfl⟩
set_option maxRecDepth 20000 in
theorem dlaw_1177 : D1 code 1177 (.aload_n 1) 1 1178 := ⟨by decide +kernel, rfl⟩
set_option maxRecDepth 20000 in
theorem dlaw_1178 : D1 code 1178 (.aload_n 0) 1 1179 := ⟨by decide +kernel, rfl⟩
set_option maxRecDepth 20000 in
theorem dlaw_1179 : D1 code 1179 (.iload_n 3) 1 1180 := ⟨by decide +kernel, rfl⟩
set_option maxRecDepth 20000 in
theorem dlaw_1180 : D1 code 1180 (.iconst 1) 1 1181 := ⟨by decide +kernel, rfl⟩
set_option maxRecDepth 20000 in
theorem dlaw_1181 : D1 code 1181 (.iadd) 1 1182 := ⟨by decide +kernel, rfl⟩
set_option maxRecDepth 20000 in
theorem dlaw_1182 : D1 code 1182 (.iaload) 1 1183 := ⟨by decide +kernel, rfl⟩
set_option maxRecDepth 20000 in
theorem dlaw_1183 : D1 code 1183 (.aload_n 0) 1 1184 := ⟨by decide +kernel, rfl⟩
set_option maxRecDepth 20000 in
theorem dlaw_1184 : D1 code 1184 (.iload_n 3) 1 1185 := ⟨by decide +kernel, rfl⟩
set_option maxRecDepth 20000 in
theorem dlaw_1185 : D1 code 1185 (.iconst 2) 1 1186 := ⟨by decide +kernel, rfl⟩
set_option maxRecDepth 20000 in
theorem dlaw_1186 : D1 code 1186 (.iadd) 1 1187 := ⟨by decide +kernel, rfl⟩
set_option maxRecDepth 20000 in
theorem dlaw_1187 : D1 code 1187 (.iaload) 1 1188 := ⟨by decide +kernel, rfl⟩
set_option maxRecDepth 20000 in
theorem dlaw_1188 : D1 code 1188 (.aload_n 0) 1 1189 := ⟨by decide +kernel, rfl⟩
set_option maxRecDepth 20000 in
theorem dlaw_1189 : D1 code 1189 (.iload_n 3) 1 1190 := ⟨by decide +kernel, rfl⟩
set_option maxRecDepth 20000 in
theorem dlaw_1190 : D1 code 1190 (.iconst 3) 1 1191 := ⟨by decide +kernel, rfl⟩
set_option maxRecDepth 20000 in
theorem dlaw_1191 : D1 code 1191 (.iadd) 1 1192 := ⟨by decide +kernel, rfl⟩
set_option maxRecDepth 20000 in
theorem dlaw_1192 : D1 code 1192 (.iaload) 1 1193 := ⟨by decide +kernel, rfl⟩
set_option maxRecDepth 20000 in
theorem dlaw_1193 : D1 code 1193 (.invokevirtual 157) 3 1196 := ⟨by decide +kernel, rfl⟩
set_option maxRecDepth 20000 in
theorem dlaw_1196 : D1 code 1196 (.aload_n 2) 1 1197 := ⟨by decide +kernel, rfl⟩
set_option maxRecDepth 20000 in
theorem dlaw_1197 : D1 code 1197 (.aload_n 0) 1 1198 := ⟨by decide +kernel, rfl⟩
set_option maxRecDepth 20000 in
theorem dlaw_1198 : D1 code 1198 (.iload_n 3) 1 1199 := ⟨by decide +kernel, rfl⟩
set_option maxRecDepth 20000 in
theorem dlaw_1199 : D1 code 1199 (.iconst 1) 1 1200 := ⟨by decide +kernel, rfl⟩
set_option maxRecDepth 20000 in
theorem dlaw_1200 : D1 code 1200 (.iadd) 1 1201 := ⟨by decide +kernel, rfl⟩
set_option maxRecDepth 20000 in
theorem dlaw_1201 : D1 code 1201 (.iaload) 1 1202 := ⟨by decide +kernel, rfl⟩
set_option maxRecDepth 20000 in
theorem dlaw_1202 : D1 code 1202 (.aload_n 0) 1 1203 := ⟨by decide +kernel, rfl⟩
set_option maxRecDepth 20000 in
theorem dlaw_1203 : D1 code 1203 (.iload_n 3) 1 1204 := ⟨by decide +kernel, rfl⟩
set_option maxRecDepth 20000 in
theorem dlaw_1204 : D1 code 1204 (.iconst 2) 1 1205 := ⟨by decide +kernel, rfl⟩
set_option maxRecDepth 20000 in
theorem dlaw_1205 : D1 code 1205 (.iadd) 1 1206 := ⟨by decide +kernel, rfl⟩
set_option maxRecDepth 20000 in
theorem dlaw_1206 : D1 code 1206 (.iaload) 1 1207 := ⟨by decide +kernel, rfl⟩
set_option maxRecDepth 20000 in
theorem dlaw_1207 : D1 code 1207 (.aload_n 0) 1 1208 := ⟨by decide +kernel, rfl⟩
set_option maxRecDepth 20000 in
theorem dlaw_1208 : D1 code 1208 (.iload_n 3) 1 1209 := ⟨by decide +kernel, rfl⟩
set_option maxRecDepth 20000 in
theorem dlaw_1209 : D1 code 1209 (.iconst 3) 1 1210 := ⟨by decide +kernel, rfl⟩
set_option maxRecDepth 20000 in
theorem dlaw_1210 : D1 code 1210 (.iadd) 1 1211 := ⟨by decide +kernel, rfl⟩
set_option maxRecDepth 20000 in
theorem dlaw_1211 : D1 code 1211 (.iaload) 1 1212 := ⟨by decide +kernel, rfl⟩
set_option maxRecDepth 20000 in
theorem dlaw_1212 : D1 code 1212 (.invokevirtual 160) 3 1215 := ⟨by decide +kernel, rfl⟩
set_option maxRecDepth 20000 in
theorem dlaw_1215 : DJ code 1215 (.if_icmp .eq) 1218 1490 := ⟨275, by decide +kernel, rfl, by decide⟩
set_option maxRecDepth 20000 in
theorem dlaw_1218 : D1 code 1218 (.iconst 0) 1 1219 := ⟨by decide +kernel, rfl⟩
set_option maxRecDepth 20000 in
theorem dlaw_1219 : D1 code 1219 (.ireturn) 1 1220 := ⟨by decide +kernel, rfl⟩
set_option maxRecDepth 20000 in
theorem dlaw_1220 : D1 code 1220 (.aload_n 1) 1 1221 := ⟨by decide +kernel, rfl⟩
set_option maxRecDepth 20000 in
theorem dlaw_1221 : D1 code 1221 (.aload_n 0) 1 1222 := ⟨by decide +kernel, rfl⟩
set_option maxRecDepth 20000 in
theorem dlaw_1222 : D1 code 1222 (.iload_n 3) 1 1223 := ⟨by decide +kernel, rfl⟩
set_option maxRecDepth 20000 in
theorem dlaw_1223 : D1 code 1223 (.iconst 1) 1 1224 := ⟨by decide +kernel, rfl⟩
set_option maxRecDepth 20000 in
theorem dlaw_1224 : D1 code 1224 (.iadd) 1 1225 := ⟨by decide +kernel, rfl⟩
set_option maxRecDepth 20000 in
theorem dlaw_1225 : D1 code 1225 (.iaload) 1 1226 := ⟨by decide +kernel, rfl⟩
set_option maxRecDepth 20000 in
theorem dlaw_1226 : D1 code 1226 (.aload_n 0) 1 1227 := ⟨by decide +kernel, rfl⟩
set_option maxRecDepth 20000 in
theorem dlaw_1227 : D1 code 1227 (.iload_n 3) 1 1228 := ⟨by decide +kernel, rfl⟩
set_option maxRecDepth 20000 in
theorem dlaw_1228 : D1 code 1228 (.iconst 2) 1 1229 := ⟨by decide +kernel, rfl⟩
set_option maxRecDepth 20000 in
theorem dlaw_1229 : D1 code 1229 (.iadd) 1 1230 := ⟨by decide +kernel, rfl⟩
set_option maxRecDepth 20000 in
theorem dlaw_1230 : D1 code 1230 (.iaload) 1 1231 := ⟨by decide +kernel, rfl⟩
set_option maxRecDepth 20000 in
theorem dlaw_1231 : D1 code 1231 (.aload_n 0) 1 1232 := ⟨by decide +kernel, rfl⟩
set_option maxRecDepth 20000 in
theorem dlaw_1232 : D1 code 1232 (.iload_n 3) 1 1233 := ⟨by decide +kernel, rfl⟩
set_option maxRecDepth 20000 in
theorem dlaw_1233 : D1 code 1233 (.iconst 3) 1 1234 := ⟨by decide +kernel, rfl⟩
set_option maxRecDepth 20000 in
theorem dlaw_1234 : D1 code 1234 (.iadd) 1 1235 := ⟨by decide +kernel, rfl⟩
set_option maxRecDepth 20000 in
theorem dlaw_1235 : D1 code 1235 (.iaload) 1 1236 := ⟨by decide +kernel, rfl⟩
set_option maxRecDepth 20000 in
theorem dlaw_1236 : D1 code 1236 (.aload_n 0) 1 1237 := ⟨by decide +kernel, rfl⟩
set_option maxRecDepth 20000 in
theorem dlaw_1237 : D1 code 1237 (.iload_n 3) 1 1238 := ⟨by decide +kernel, rfl⟩
set_option maxRecDepth 20000 in
theorem dlaw_1238 : D1 code 1238 (.iconst 4) 1 1239 := ⟨by decide +kernel, rfl⟩
set_option maxRecDepth 20000 in
theorem dlaw_1239 : D1 code 1239 (.iadd) 1 1240 := ⟨by decide +kernel, rfl⟩
set_option maxRecDepth 20000 in
theorem dlaw_1240 : D1 code 1240 (.iaload) 1 1241 := ⟨by decide +kernel, rfl⟩
set_option maxRecDepth 20000 in
theorem dlaw_1241 : D1 code 1241 (.aload_n 0) 1 1242 := ⟨by decide +kernel, rfl⟩
set_option maxRecDepth 20000 in
theorem dlaw_1242 : D1 code 1242 (.iload_n 3) 1 1243 := ⟨by decide +kernel, rfl⟩
set_option maxRecDepth 20000 in
theorem dlaw_1243 : D1 code 1243 (.iconst 5) 1 1244 := ⟨by decide +kernel, rfl⟩
set_option maxRecDepth 20000 in
theorem dlaw_1244 : D1 code 1244 (.iadd) 1 1245 := ⟨by decide +kernel, rfl⟩
set_option maxRecDepth 20000 in
theorem dlaw_1245 : D1 code 1245 (.iaload) 1 1246 := ⟨by decide +kernel, rfl⟩
set_option maxRecDepth 20000 in
theorem dlaw_1246 : D1 code 1246 (.invokevirtual 161) 3 1249 := ⟨by decide +kernel, rfl⟩
set_option maxRecDepth 20000 in
theorem dlaw_1249 : D1 code 1249 (.aload_n 2) 1 1250 := ⟨by decide +kernel, rfl⟩
set_option maxRecDepth 20000 in
theorem dlaw_1250 : D1 code 1250 (.aload_n 0) 1 1251 := ⟨by decide +kernel, rfl⟩
set_option maxRecDepth 20000 in
theorem dlaw_1251 : D1 code 1251 (.iload_n 3) 1 1252 := ⟨by decide +kernel, rfl⟩
set_option maxRecDepth 20000 in
theorem dlaw_1252 : D1 code 1252 (.iconst 1) 1 1253 := ⟨by decide +kernel, rfl⟩
set_option maxRecDepth 20000 in
theorem dlaw_1253 : D1 code 1253 (.iadd) 1 1254 := ⟨by decide +kernel, rfl⟩
set_option maxRecDepth 20000 in
theorem dlaw_1254 : D1 code 1254 (.iaload) 1 1255 := ⟨by decide +kernel, rfl⟩
set_option maxRecDepth 20000 in
theorem dlaw_1255 : D1 code 1255 (.aload_n 0) 1 1256 := ⟨by decide +kernel, rfl⟩
set_option maxRecDepth 20000 in
theorem dlaw_1256 : D1 code 1256 (.iload_n 3) 1 1257 := ⟨by decide +kernel, rfl⟩
set_option maxRecDepth 20000 in
theorem dlaw_1257 : D1 code 1257 (.iconst 2) 1 1258 := ⟨by decide +kernel, rfl⟩
set_option maxRecDepth 20000 in
theorem dlaw_1258 : D1 code 1258 (.iadd) 1 1259 := ⟨by decide +kernel, rfl⟩
set_option maxRecDepth 20000 in
theorem dlaw_1259 : D1 code 1259 (.iaload) 1 1260 := ⟨by decide +kernel, rfl⟩
set_option maxRecDepth 20000 in
theorem dlaw_1260 : D1 code 1260 (.aload_n 0) 1 1261 := ⟨by decide +kernel, rfl⟩
set_option maxRecDepth 20000 in
theorem dlaw_1261 : D1 code 1261 (.iload_n 3) 1 1262 := ⟨by decide +kernel, rfl⟩
set_option maxRecDepth 20000 in
theorem dlaw_1262 : D1 code 1262 (.iconst 3) 1 1263 := ⟨by decide +kernel, rfl⟩
set_option maxRecDepth 20000 in
theorem dlaw_1263 : D1 code 1263 (.iadd) 1 1264 := ⟨by decide +kernel, rfl⟩
set_option maxRecDepth 20000 in
theorem dlaw_1264 : D1 code 1264 (.iaload) 1 1265 := ⟨by decide +kernel, rfl⟩
set_option maxRecDepth 20000 in
theorem dlaw_1265 : D1 code 1265 (.aload_n 0) 1 1266 := ⟨by decide +kernel, rfl⟩
set_option maxRecDepth 20000 in
theorem dlaw_1266 : D1 code 1266 (.iload_n 3) 1 1267 := ⟨by decide +kernel, rfl⟩
set_option maxRecDepth 20000 in
theorem dlaw_1267 : D1 code 1267 (.iconst 4) 1 1268 := ⟨by decide +kernel, rfl⟩
set_option maxRecDepth 20000 in
theorem dlaw_1268 : D1 code 1268 (.iadd) 1 1269 := ⟨by decide +kernel, rfl⟩
set_option maxRecDepth 20000 in
theorem dlaw_1269 : D1 code 1269 (.iaload) 1 1270 := ⟨by decide +kernel, rfl⟩
set_option maxRecDepth 20000 in
theorem dlaw_1270 : D1 code 1270 (.aload_n 0) 1 1271 := ⟨by decide +kernel, rfl⟩
set_option maxRecDepth 20000 in
theorem dlaw_1271 : D1 code 1271 (.iload_n 3) 1 1272 := ⟨by decide +kernel, rfl⟩
set_option maxRecDepth 20000 in
theorem dlaw_1272 : D1 code 1272 (.iconst 5) 1 1273 := ⟨by decide +kernel, rfl⟩
set_option maxRecDepth 20000 in
theorem dlaw_1273 : D1 code 1273 (.iadd) 1 1274 := ⟨by decide +kernel, rfl⟩
set_option maxRecDepth 20000 in
theorem dlaw_1274 : D1 code 1274 (.iaload) 1 1275 := ⟨by decide +kernel, rfl⟩
set_option maxRecDepth 20000 in
theorem dlaw_1275 : D1 code 1275 (.invokevirtual 165) 3 1278 := ⟨by decide +kernel, rfl⟩
set_option maxRecDepth 20000 in
theorem dlaw_1278 : DJ code 1278 (.if_icmp .eq) 1281 1490 := ⟨212, by decide +kernel, rfl, by decide⟩
set_option maxRecDepth 20000 in
theorem dlaw_1281 : D1 code 1281 (.iconst 0) 1 1282 := ⟨by decide +kernel, rfl⟩
set_option maxRecDepth 20000 in
theorem dlaw_1282 : D1 code 1282 (.ireturn) 1 1283 := ⟨by decide +kernel, rfl⟩
set_option maxRecDepth 20000 in
theorem dlaw_1283 : D1 code 1283 (.aload_n 1) 1 1284 := ⟨by decide +kernel, rfl⟩
set_option maxRecDepth 20000 in
theorem dlaw_1284 : D1 code 1284 (.aload_n 0) 1 1285 := ⟨by decide +kernel, rfl⟩
set_option maxRecDepth 20000 in
theorem dlaw_1285 : D1 code 1285 (.iload_n 3) 1 1286 := ⟨by decide +kernel, rfl⟩
set_option maxRecDepth 20000 in
theorem dlaw_1286 : D1 code 1286 (.iconst 1) 1 1287 := ⟨by decide +kernel, rfl⟩
set_option maxRecDepth 20000 in
theorem dlaw_1287 : D1 code 1287 (.iadd) 1 1288 := ⟨by decide +kernel, rfl⟩
set_option maxRecDepth 20000 in
theorem dlaw_1288 : D1 code 1288 (.iaload) 1 1289 := ⟨by decide +kernel, rfl⟩
set_option maxRecDepth 20000 in
theorem dlaw_1289 : D1 code 1289 (.invokevirtual 166) 3 1292 := ⟨by decide +kernel, rfl⟩
set_option maxRecDepth 20000 in
theorem dlaw_1292 : D1 code 1292 (.aload_n 2) 1 1293 := ⟨by decide +kernel, rfl⟩
set_option maxRecDepth 20000 in
theorem dlaw_1293 : D1 code 1293 (.aload_n 0) 1 1294 := ⟨by decide +kernel, rfl⟩
set_option maxRecDepth 20000 in
theorem dlaw_1294 : D1 code 1294 (.iload_n 3) 1 1295 := ⟨by decide +kernel, rfl⟩
set_option maxRecDepth 20000 in
theorem dlaw_1295 : D1 code 1295 (.iconst 1) 1 1296 := ⟨by decide +kernel, rfl⟩
set_option maxRecDepth 20000 in
theorem dlaw_1296 : D1 code 1296 (.iadd) 1 1297 := ⟨by decide +kernel, rfl⟩
set_option maxRecDepth 20000 in
theorem dlaw_1297 : D1 code 1297 (.iaload) 1 1298 := ⟨by decide +kernel, rfl⟩
set_option maxRecDepth 20000 in
theorem dlaw_1298 : D1 code 1298 (.invokevirtual 169) 3 1301 := ⟨by decide +kernel, rfl⟩
set_option maxRecDepth 20000 in
theorem dlaw_1301 : DJ code 1301 (.if_icmp .eq) 1304 1490 := ⟨189, by decide +kernel, rfl, by decide⟩
set_option maxRecDepth 20000 in
theorem dlaw_1304 : D1 code 1304 (.iconst 0) 1 1305 := ⟨by decide +kernel, rfl⟩
set_option maxRecDepth 20000 in
theorem dlaw_1305 : D1 code 1305 (.ireturn) 1 1306 := ⟨by decide +kernel, rfl⟩
set_option maxRecDepth 20000 in
theorem dlaw_1306 : D1 code 1306 (.aload_n 1) 1 1307 := ⟨by decide +kernel, rfl⟩
set_option maxRecDepth 20000 in
theorem dlaw_1307 : D1 code 1307 (.aload_n 0) 1 1308 := ⟨by decide +kernel, rfl⟩
set_option maxRecDepth 20000 in
theorem dlaw_1308 : D1 code 1308 (.iload_n 3) 1 1309 := ⟨by decide +kernel, rfl⟩
set_option maxRecDepth 20000 in
theorem dlaw_1309 : D1 code 1309 (.iconst 1) 1 1310 := ⟨by decide +kernel, rfl⟩
set_option maxRecDepth 20000 in
theorem dlaw_1310 : D1 code 1310 (.iadd) 1 1311 := ⟨by decide +kernel, rfl⟩
set_option maxRecDepth 20000 in
theorem dlaw_1311 : D1 code 1311 (.iaload) 1 1312 := ⟨by decide +kernel, rfl⟩
set_option maxRecDepth 20000 in
theorem dlaw_1312 : D1 code 1312 (.aload_n 0) 1 1313 := ⟨by decide +kernel, rfl⟩
set_option maxRecDepth 20000 in
theorem dlaw_1313 : D1 code 1313 (.iload_n 3) 1 1314 := ⟨by decide +kernel, rfl⟩
set_option maxRecDepth 20000 in
theorem dlaw_1314 : D1 code 1314 (.iconst 2) 1 1315 := ⟨by decide +kernel, rfl⟩
set_option maxRecDepth 20000 in
theorem dlaw_1315 : D1 code 1315 (.iadd) 1 1316 := ⟨by decide +kernel, rfl⟩
set_option maxRecDepth 20000 in
theorem dlaw_1316 : D1 code 1316 (.iaload) 1 1317 := ⟨by decide +kernel, rfl⟩
set_option maxRecDepth 20000 in
theorem dlaw_1317 : D1 code 1317 (.invokevirtual 170) 3 1320 := ⟨by decide +kernel, rfl⟩
set_option maxRecDepth 20000 in
theorem dlaw_1320 : D1 code 1320 (.aload_n 2) 1 1321 := ⟨by decide +kernel, rfl⟩
set_option maxRecDepth 20000 in
theorem dlaw_1321 : D1 code 1321 (.aload_n 0) 1 1322 := ⟨by decide +kernel, rfl⟩
set_option maxRecDepth 20000 in
theorem dlaw_1322 : D1 code 1322 (.iload_n 3) 1 1323 := ⟨by decide +kernel, rfl⟩
set_option maxRecDepth 20000 in
theorem dlaw_1323 : D1 code 1323 (.iconst 1) 1 1324 := ⟨by decide +kernel, rfl⟩
set_option maxRecDepth 20000 in
theorem dlaw_1324 : D1 code 1324 (.iadd) 1 1325 := ⟨by decide +kernel, rfl⟩
set_option maxRecDepth 20000 in
theorem dlaw_1325 : D1 code 1325 (.iaload) 1 1326 := ⟨by decide +kernel, rfl⟩
set_option maxRecDepth 20000 in
theorem dlaw_1326 : D1 code 1326 (.aload_n 0) 1 1327 := ⟨by decide +kernel, rfl⟩
set_option maxRecDepth 20000 in
theorem dlaw_1327 : D1 code 1327 (.iload_n 3) 1 1328 := ⟨by decide +kernel, rfl⟩
set_option maxRecDepth 20000 in
theorem dlaw_1328 : D1 code 1328 (.iconst 2) 1 1329 := ⟨by decide +kernel, rfl⟩
set_option maxRecDepth 20000 in
theorem dlaw_1329 : D1 code 1329 (.iadd) 1 1330 := ⟨by decide +kernel, rfl⟩
set_option maxRecDepth 20000 in
theorem dlaw_1330 : D1 code 1330 (.iaload) 1 1331 := ⟨by decide +kernel, rfl⟩
set_option maxRecDepth 20000 in
theorem dlaw_1331 : D1 code 1331 (.invokevirtual 173) 3 1334 := ⟨by decide +kernel, rfl⟩
set_option maxRecDepth 20000 in
theorem dlaw_1334 : DJ code 1334 (.if_icmp .eq) 1337 1490 := ⟨156, by decide +kernel, rfl, by decide⟩
set_option maxRecDepth 20000 in
theorem dlaw_1337 : D1 code 1337 (.iconst 0) 1 1338 := ⟨by decide +kernel, rfl⟩
set_option maxRecDepth 20000 in
theorem dlaw_1338 : D1 code 1338 (.ireturn) 1 1339 := ⟨by decide +kernel, rfl⟩
set_option maxRecDepth 20000 in
theorem dlaw_1339 : D1 code 1339 (.aload_n 1) 1 1340 := ⟨by decide +kernel, rfl⟩
set_option maxRecDepth 20000 in
theorem dlaw_1340 : D1 code 1340 (.aload_n 0) 1 1341 := ⟨by decide +kernel, rfl⟩
set_option maxRecDepth 20000 in
theorem dlaw_1341 : D1 code 1341 (.iload_n 3) 1 1342 := ⟨by decide +kernel, rfl⟩
set_option maxRecDepth 20000 in
theorem dlaw_1342 : D1 code 1342 (.iconst 1) 1 1343 := ⟨by decide +kernel, rfl⟩
set_option maxRecDepth 20000 in
theorem dlaw_1343 : D1 code 1343 (.iadd) 1 1344 := ⟨by decide +kernel, rfl⟩
set_option maxRecDepth 20000 in
theorem dlaw_1344 : D1 code 1344 (.iaload) 1 1345 := ⟨by decide +kernel, rfl⟩
set_option maxRecDepth 20000 in
theorem dlaw_1345 : D1 code 1345 (.aload_n 0) 1 1346 := ⟨by decide +kernel, rfl⟩
set_option maxRecDepth 20000 in
theorem dlaw_1346 : D1 code 1346 (.iload_n 3) 1 1347 := ⟨by decide +kernel, rfl⟩
set_option maxRecDepth 20000 in
theorem dlaw_1347 : D1 code 1347 (.iconst 2) 1 1348 := ⟨by decide +kernel, rfl⟩
set_option maxRecDepth 20000 in
theorem dlaw_1348 : D1 code 1348 (.iadd) 1 1349 := ⟨by decide +kernel, rfl⟩
set_option maxRecDepth 20000 in
theorem dlaw_1349 : D1 code 1349 (.iaload) 1 1350 := ⟨by decide +kernel, rfl⟩
set_option maxRecDepth 20000 in
theorem dlaw_1350 : D1 code 1350 (.invokevirtual 174) 3 1353 := ⟨by decide +kernel, rfl⟩
set_option maxRecDepth 20000 in
theorem dlaw_1353 : D1 code 1353 (.aload_n 2) 1 1354 := ⟨by decide +kernel, rfl⟩
set_option maxRecDepth 20000 in
theorem dlaw_1354 : D1 code 1354 (.aload_n 0) 1 1355 := ⟨by decide +kernel, rfl⟩
set_option maxRecDepth 20000 in
theorem dlaw_1355 : D1 code 1355 (.iload_n 3) 1 1356 := ⟨by decide +kernel, rfl⟩
set_option maxRecDepth 20000 in
theorem dlaw_1356 : D1 code 1356 (.iconst 1) 1 1357 := ⟨by decide +kernel, rfl⟩
set_option maxRecDepth 20000 in
theorem dlaw_1357 : D1 code 1357 (.iadd) 1 1358 := ⟨by decide +kernel, rfl⟩
set_option maxRecDepth 20000 in
theorem dlaw_1358 : D1 code 1358 (.iaload) 1 1359 := ⟨by decide +kernel, rfl⟩
set_option maxRecDepth 20000 in
theorem dlaw_1359 : D1 code 1359 (.aload_n 0) 1 1360 := ⟨by decide +kernel, rfl⟩
set_option maxRecDepth 20000 in
theorem dlaw_1360 : D1 code 1360 (.iload_n 3) 1 1361 := ⟨by decide +kernel, rfl⟩
set_option maxRecDepth 20000 in
theorem dlaw_1361 : D1 code 1361 (.iconst 2) 1 1362 := ⟨by decide +kernel, rfl⟩
set_option maxRecDepth 20000 in
theorem dlaw_1362 : D1 code 1362 (.iadd) 1 1363 := ⟨by decide +kernel, rfl⟩
set_option maxRecDepth 20000 in
theorem dlaw_1363 : D1 code 1363 (.iaload) 1 1364 := ⟨by decide +kernel, rfl⟩
set_option maxRecDepth 20000 in
theorem dlaw_1364 : D1 code 1364 (.invokevirtual 177) 3 1367 := ⟨by decide +kernel, rfl⟩
set_option maxRecDepth 20000 in
theorem dlaw_1367 : DJ code 1367 (.if_icmp .eq) 1370 1490 := ⟨123, by decide +kernel, rfl, by decide⟩
set_option maxRecDepth 20000 in
theorem dlaw_1370 : D1 code 1370 (.iconst 0) 1 1371 := ⟨by decide +kernel, rfl⟩
set_option maxRecDepth 20000 in
theorem dlaw_1371 : D1 code 1371 (.ireturn) 1 1372 := ⟨by decide +kernel, rfl⟩
set_option maxRecDepth 20000 in
theorem dlaw_1372 : D1 code 1372 (.aload_n 1) 1 1373 := ⟨by decide +kernel, rfl⟩
set_option maxRecDepth 20000 in
theorem dlaw_1373 : D1 code 1373 (.aload_n 0) 1 1374 := ⟨by decide +kernel, rfl⟩
set_option maxRecDepth 20000 in
theorem dlaw_1374 : D1 code 1374 (.iload_n 3) 1 1375 := ⟨by decide +kernel, rfl⟩
set_option maxRecDepth 20000 in
theorem dlaw_1375 : D1 code 1375 (.iconst 1) 1 1376 := ⟨by decide +kernel, rfl⟩
set_option maxRecDepth 20000 in
theorem dlaw_1376 : D1 code 1376 (.iadd) 1 1377 := ⟨by decide +kernel, rfl⟩
set_option maxRecDepth 20000 in
theorem dlaw_1377 : D1 code 1377 (.iaload) 1 1378 := ⟨by decide +kernel, rfl⟩
set_option maxRecDepth 20000 in
theorem dlaw_1378 : D1 code 1378 (.aload_n 0) 1 1379 := ⟨by decide +kernel, rfl⟩
set_option maxRecDepth 20000 in
theorem dlaw_1379 : D1 code 1379 (.iload_n 3) 1 1380 := ⟨by decide +kernel, rfl⟩
set_option maxRecDepth 20000 in
theorem dlaw_1380 : D1 code 1380 (.iconst 2) 1 1381 := ⟨by decide +kernel, rfl⟩
set_option maxRecDepth 20000 in
theorem dlaw_1381 : D1 code 1381 (.iadd) 1 1382 := ⟨by decide +kernel, rfl⟩
set_option maxRecDepth 20000 in
theorem dlaw_1382 : D1 code 1382 (.iaload) 1 1383 := ⟨by decide +kernel, rfl⟩
set_option maxRecDepth 20000 in
theorem dlaw_1383 : D1 code 1383 (.invokevirtual 178) 3 1386 := ⟨by decide +kernel, rfl⟩
set_option maxRecDepth 20000 in
theorem dlaw_1386 : D1 code 1386 (.aload_n 2) 1 1387 := ⟨by decide +kernel, rfl⟩
set_option maxRecDepth 20000 in
theorem dlaw_1387 : D1 code 1387 (.aload_n 0) 1 1388 := ⟨by decide +kernel, rfl⟩
set_option maxRecDepth 20000 in
theorem dlaw_1388 : D1 code 1388 (.iload_n 3) 1 1389 := ⟨by decide +kernel, rfl⟩
set_option maxRecDepth 20000 in
theorem dlaw_1389 : D1 code 1389 (.iconst 1) 1 1390 := ⟨by decide +kernel, rfl⟩
set_option maxRecDepth 20000 in
theorem dlaw_1390 : D1 code 1390 (.iadd) 1 1391 := ⟨by decide +kernel, rfl⟩
set_option maxRecDepth 20000 in
theorem dlaw_1391 : D1 code 1391 (.iaload) 1 1392 := ⟨by decide +kernel, rfl⟩
set_option maxRecDepth 20000 in
theorem dlaw_1392 : D1 code 1392 (.aload_n 0) 1 1393 := ⟨by decide +kernel, rfl⟩
set_option maxRecDepth 20000 in
theorem dlaw_1393 : D1 code 1393 (.iload_n 3) 1 1394 := ⟨by decide +kernel, rfl⟩
set_option maxRecDepth 20000 in
theorem dlaw_1394 : D1 code 1394 (.iconst 2) 1 1395 := ⟨by decide +kernel, rfl⟩
set_option maxRecDepth 20000 in
theorem dlaw_1395 : D1 code 1395 (.iadd) 1 1396 := ⟨by decide +kernel, rfl⟩
set_option maxRecDepth 20000 in
theorem dlaw_1396 : D1 code 1396 (.iaload) 1 1397 := ⟨by decide +kernel, rfl⟩
set_option maxRecDepth 20000 in
theorem dlaw_1397 : D1 code 1397 (.invokevirtual 181) 3 1400 := ⟨by decide +kernel, rfl⟩
set_option maxRecDepth 20000 in
theorem dlaw_1400 : DJ code 1400 (.if_icmp .eq) 1403 1490 := ⟨90, by decide +kernel, rfl, by decide⟩
set_option maxRecDepth 20000 in
theorem dlaw_1403 : D1 code 1403 (.iconst 0) 1 1404 := ⟨by decide +kernel, rfl⟩
set_option maxRecDepth 20000 in
theorem dlaw_1404 : D1 code 1404 (.ireturn) 1 1405 := ⟨by decide +kernel, rfl⟩
set_option maxRecDepth 20000 in
theorem dlaw_1405 : D1 code 1405 (.aload_n 1) 1 1406 := ⟨by decide +kernel, rfl⟩
set_option maxRecDepth 20000 in
theorem dlaw_1406 : D1 code 1406 (.invokevirtual 182) 3 1409 := ⟨by decide +kernel, rfl⟩
set_option maxRecDepth 20000 in
theorem dlaw_1409 : D1 code 1409 (.aload_n 2) 1 1410 := ⟨by decide +kernel, rfl⟩
set_option maxRecDepth 20000 in
theorem dlaw_1410 : D1 code 1410 (.invokevirtual 185) 3 1413 := ⟨by decide +kernel, rfl⟩
set_option maxRecDepth 20000 in
theorem dlaw_1413 : DJ code 1413 (.if_icmp .eq) 1416 1490 := ⟨77, by decide +kernel, rfl, by decide⟩
set_option maxRecDepth 20000 in
theorem dlaw_1416 : D1 code 1416 (.iconst 0) 1 1417 := ⟨by decide +kernel, rfl⟩
set_option maxRecDepth 20000 in
theorem dlaw_1417 : D1 code 1417 (.ireturn) 1 1418 := ⟨by decide +kernel, rfl⟩
set_option maxRecDepth 20000 in
theorem dlaw_1418 : D1 code 1418 (.aload_n 1) 1 1419 := ⟨by decide +kernel, rfl⟩
set_option maxRecDepth 20000 in
theorem dlaw_1419 : D1 code 1419 (.invokevirtual 186) 3 1422 := ⟨by decide +kernel, rfl⟩
set_option maxRecDepth 20000 in
theorem dlaw_1422 : D1 code 1422 (.aload_n 2) 1 1423 := ⟨by decide +kernel, rfl⟩
set_option maxRecDepth 20000 in
theorem dlaw_1423 : D1 code 1423 (.invokevirtual 189) 3 1426 := ⟨by decide +kernel, rfl⟩
set_option maxRecDepth 20000 in
theorem dlaw_1426 : DJ code 1426 (.if_icmp .eq) 1429 1490 := ⟨64, by decide +kernel, rfl, by decide⟩
set_option maxRecDepth 20000 in
theorem dlaw_1429 : D1 code 1429 (.iconst 0) 1 1430 := ⟨by decide +kernel, rfl⟩
set_option maxRecDepth 20000 in
theorem dlaw_1430 : D1 code 1430 (.ireturn) 1 1431 := ⟨by decide +kernel, rfl⟩
set_option maxRecDepth 20000 in
theorem dlaw_1431 : D1 code 1431 (.aload_n 1) 1 1432 := ⟨by decide +kernel, rfl⟩
set_option maxRecDepth 20000 in
theorem dlaw_1432 : D1 code 1432 (.invokevirtual 190) 3 1435 := ⟨by decide +kernel, rfl⟩
set_option maxRecDepth 20000 in
theorem dlaw_1435 : D1 code 1435 (.aload_n 2) 1 1436 := ⟨by decide +kernel, rfl⟩
set_option maxRecDepth 20000 in
theorem dlaw_1436 : D1 code 1436 (.invokevirtual 193) 3 1439 := ⟨by decide +kernel, rfl⟩
set_option maxRecDepth 20000 in
theorem dlaw_1439 : DJ code 1439 (.if_icmp .eq) 1442 1490 := ⟨51, by decide +kernel, rfl, by decide⟩
set_option maxRecDepth 20000 in
theorem dlaw_1442 : D1 code 1442 (.iconst 0) 1 1443 := ⟨by decide +kernel, rfl⟩
set_option maxRecDepth 20000 in
theorem dlaw_1443 : D1 code 1443 (.ireturn) 1 1444 := ⟨by decide +kernel, rfl⟩
set_option maxRecDepth 20000 in
theorem dlaw_1444 : D1 code 1444 (.aload_n 1) 1 1445 := ⟨by decide +kernel, rfl⟩
set_option maxRecDepth 20000 in
theorem dlaw_1445 : D1 code 1445 (.aload_n 0) 1 1446 := ⟨by decide +kernel, rfl⟩
set_option maxRecDepth 20000 in
theorem dlaw_1446 : D1 code 1446 (.iload_n 3) 1 1447 := ⟨by decide +kernel, rfl⟩
set_option maxRecDepth 20000 in
theorem dlaw_1447 : D1 code 1447 (.iconst 1) 1 1448 := ⟨by decide +kernel, rfl⟩
set_option maxRecDepth 20000 in
theorem dlaw_1448 : D1 code 1448 (.iadd) 1 1449 := ⟨by decide +kernel, rfl⟩
set_option maxRecDepth 20000 in
theorem dlaw_1449 : D1 code 1449 (.iaload) 1 1450 := ⟨by decide +kernel, rfl⟩
set_option maxRecDepth 20000 in
theorem dlaw_1450 : D1 code 1450 (.invokevirtual 194) 3 1453 := ⟨by decide +kernel, rfl⟩
set_option maxRecDepth 20000 in
theorem dlaw_1453 : D1 code 1453 (.aload_n 2) 1 1454 := ⟨by decide +kernel, rfl⟩
set_option maxRecDepth 20000 in
theorem dlaw_1454 : D1 code 1454 (.aload_n 0) 1 1455 := ⟨by decide +kernel, rfl⟩
set_option maxRecDepth 20000 in
theorem dlaw_1455 : D1 code 1455 (.iload_n 3) 1 1456 := ⟨by decide +kernel, rfl⟩
set_option maxRecDepth 20000 in
theorem dlaw_1456 : D1 code 1456 (.iconst 1) 1 1457 := ⟨by decide +kernel, rfl⟩
set_option maxRecDepth 20000 in
theorem dlaw_1457 : D1 code 1457 (.iadd) 1 1458 := ⟨by decide +kernel, rfl⟩
set_option maxRecDepth 20000 in
theorem dlaw_1458 : D1 code 1458 (.iaload) 1 1459 := ⟨by decide +kernel, rfl⟩
set_option maxRecDepth 20000 in
theorem dlaw_1459 : D1 code 1459 (.invokevirtual 197) 3 1462 := ⟨by decide +kernel, rfl⟩
set_option maxRecDepth 20000 in
theorem dlaw_1462 : DJ code 1462 (.if_icmp .eq) 1465 1490 := ⟨28, by decide +kernel, rfl, by decide⟩
set_option maxRecDepth 20000 in
theorem dlaw_1465 : D1 code 1465 (.iconst 0) 1 1466 := ⟨by decide +kernel, rfl⟩
set_option maxRecDepth 20000 in
theorem dlaw_1466 : D1 code 1466 (.ireturn) 1 1467 := ⟨by decide +kernel, rfl⟩
set_option maxRecDepth 20000 in
theorem dlaw_1467 : D1 code 1467 (.aload_n 1) 1 1468 := ⟨by decide +kernel, rfl⟩
set_option maxRecDepth 20000 in
theorem dlaw_1468 : D1 code 1468 (.aload_n 0) 1 1469 := ⟨by decide +kernel, rfl⟩
set_option maxRecDepth 20000 in
theorem dlaw_1469 : D1 code 1469 (.iload_n 3) 1 1470 := ⟨by decide +kernel, rfl⟩
set_option maxRecDepth 20000 in
theorem dlaw_1470 : D1 code 1470 (.iconst 1) 1 1471 := ⟨by decide +kernel, rfl⟩
set_option maxRecDepth 20000 in
theorem dlaw_1471 : D1 code 1471 (.iadd) 1 1472 := ⟨by decide +kernel, rfl⟩
set_option maxRecDepth 20000 in
theorem dlaw_1472 : D1 code 1472 (.iaload) 1 1473 := ⟨by decide +kernel, rfl⟩
set_option maxRecDepth 20000 in
theorem dlaw_1473 : D1 code 1473 (.invokevirtual 198) 3 1476 := ⟨by decide +kernel, rfl⟩
set_option maxRecDepth 20000 in
theorem dlaw_1476 : D1 code 1476 (.aload_n 2) 1 1477 := ⟨by decide +kernel, rfl⟩
set_option maxRecDepth 20000 in
theorem dlaw_1477 : D1 code 1477 (.aload_n 0) 1 1478 := ⟨by decide +kernel, rfl⟩
set_option maxRecDepth 20000 in
theorem dlaw_1478 : D1 code 1478 (.iload_n 3) 1 1479 := ⟨by decide +kernel, rfl⟩
set_option maxRecDepth 20000 in
theorem dlaw_1479 : D1 code 1479 (.iconst 1) 1 1480 := ⟨by decide +kernel, rfl⟩
set_option maxRecDepth 20000 in
theorem dlaw_1480 : D1 code 1480 (.iadd) 1 1481 := ⟨by decide +kernel, rfl⟩
set_option maxRecDepth 20000 in
theorem dlaw_1481 : D1 code 1481 (.iaload) 1 1482 := ⟨by decide +kernel, rfl⟩
set_option maxRecDepth 20000 in
theorem dlaw_1482 : D1 code 1482 (.invokevirtual 201) 3 1485 := ⟨by decide +kernel, rfl⟩
set_option maxRecDepth 20000 in
theorem dlaw_1485 : DJ code 1485 (.if_icmp .eq) 1488 1490 := ⟨5, by decide +kernel, rfl, by decide⟩
set_option maxRecDepth 20000 in
theorem dlaw_1488 : D1 code 1488 (.iconst 0) 1 1489 := ⟨by decide +kernel, rfl⟩
set_option maxRecDepth 20000 in
theorem dlaw_1489 : D1 code 1489 (.ireturn) 1 1490 := ⟨by decide +kernel, rfl⟩
set_option maxRecDepth 20000 in
theorem dlaw_1490 : D1 code 1490 (.iinc 3 6) 3 1493 := ⟨by decide +kernel, rfl⟩
set_option maxRecDepth 20000 in
theorem dlaw_1493 : DJ code 1493 .goto 1496 18 := ⟨(-1475), by decide +kernel, rfl, by decide⟩
set_option maxRecDepth 20000 in
theorem dlaw_1496 : D1 code 1496 (.iconst 1) 1 1497 := ⟨by decide +kernel, rfl⟩
set_option maxRecDepth 20000 in
theorem dlaw_1497 : D1 code 1497 (.ireturn) 1 1498 := ⟨by decide +kernel, rfl⟩
