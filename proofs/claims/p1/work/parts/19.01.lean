-- ===== rows and blocks, 1 =====
theorem D28_0 : rDec M28 0 (.new 8) 3 3 := ⟨by decide +kernel, rfl⟩
theorem D28_3 : rDec M28 3 (.dup) 1 4 := ⟨by decide +kernel, rfl⟩
theorem D28_4 : rDec M28 4 (.invokespecial 114) 3 7 := ⟨by decide +kernel, rfl⟩
theorem D28_7 : rDec M28 7 (.astore_n 1) 1 8 := ⟨by decide +kernel, rfl⟩
theorem D28_8 : rDec M28 8 (.new 115) 3 11 := ⟨by decide +kernel, rfl⟩
theorem D28_11 : rDec M28 11 (.dup) 1 12 := ⟨by decide +kernel, rfl⟩
theorem D28_12 : rDec M28 12 (.invokespecial 117) 3 15 := ⟨by decide +kernel, rfl⟩
theorem D28_15 : rDec M28 15 (.astore_n 2) 1 16 := ⟨by decide +kernel, rfl⟩
theorem D28_16 : rDec M28 16 (.iconst 1) 1 17 := ⟨by decide +kernel, rfl⟩
theorem D28_17 : rDec M28 17 (.newarray .long) 2 19 := ⟨by decide +kernel, rfl⟩
theorem D28_19 : rDec M28 19 (.astore_n 3) 1 20 := ⟨by decide +kernel, rfl⟩
theorem D28_20 : rDec M28 20 (.iconst 0) 1 21 := ⟨by decide +kernel, rfl⟩
theorem D28_21 : rDec M28 21 (.istore 4) 2 23 := ⟨by decide +kernel, rfl⟩
theorem D28_23 : rDec M28 23 (.iload 4) 2 25 := ⟨by decide +kernel, rfl⟩
theorem D28_25 : rDec M28 25 (.aload_n 0) 1 26 := ⟨by decide +kernel, rfl⟩
theorem D28_26 : rDec M28 26 (.arraylength) 1 27 := ⟨by decide +kernel, rfl⟩
theorem D28_27 : rDec M28 27 (.bipush 6) 2 29 := ⟨by decide +kernel, rfl⟩
theorem D28_29 : rDec M28 29 (.isub) 1 30 := ⟨by decide +kernel, rfl⟩
theorem D28_30 : rDec M28 30 (.if_icmp .gt 2320) 3 33 := ⟨by decide +kernel, rfl⟩
theorem D28_33 : rDec M28 33 (.aload_n 0) 1 34 := ⟨by decide +kernel, rfl⟩
theorem D28_34 : rDec M28 34 (.iload 4) 2 36 := ⟨by decide +kernel, rfl⟩
theorem D28_36 : rDec M28 36 (.iaload) 1 37 := ⟨by decide +kernel, rfl⟩
theorem D28_37 : rDec M28 37 (.bipush 63) 2 39 := ⟨by decide +kernel, rfl⟩
theorem D28_39 : rDec M28 39 (.iand) 1 40 := ⟨by decide +kernel, rfl⟩
theorem D28_40 : rDec M28 40 (.tableswitch 2304 0 33 #[152, 232, 300, 380, 455, 523, 591, 635, 739, 807, 887, 955, 1023, 1103, 1183, 1227, 1307, 1351, 1407, 1420, 1464, 1544, 1612, 1668, 1736, 1804, 1896, 1909, 1989, 2045, 2101, 2142, 2222, 2290]) 152 192 := ⟨by decide +kernel, rfl⟩
theorem D28_192 : rDec M28 192 (.aload_n 1) 1 193 := ⟨by decide +kernel, rfl⟩
theorem D28_193 : rDec M28 193 (.aload_n 0) 1 194 := ⟨by decide +kernel, rfl⟩
theorem D28_194 : rDec M28 194 (.iload 4) 2 196 := ⟨by decide +kernel, rfl⟩
theorem D28_196 : rDec M28 196 (.iconst 1) 1 197 := ⟨by decide +kernel, rfl⟩
theorem D28_197 : rDec M28 197 (.iadd) 1 198 := ⟨by decide +kernel, rfl⟩
theorem D28_198 : rDec M28 198 (.iaload) 1 199 := ⟨by decide +kernel, rfl⟩
theorem D28_199 : rDec M28 199 (.aload_n 0) 1 200 := ⟨by decide +kernel, rfl⟩
theorem D28_200 : rDec M28 200 (.iload 4) 2 202 := ⟨by decide +kernel, rfl⟩
theorem D28_202 : rDec M28 202 (.iconst 2) 1 203 := ⟨by decide +kernel, rfl⟩
theorem D28_203 : rDec M28 203 (.iadd) 1 204 := ⟨by decide +kernel, rfl⟩
theorem D28_204 : rDec M28 204 (.iaload) 1 205 := ⟨by decide +kernel, rfl⟩
theorem D28_205 : rDec M28 205 (.aload_n 0) 1 206 := ⟨by decide +kernel, rfl⟩
theorem D28_206 : rDec M28 206 (.iload 4) 2 208 := ⟨by decide +kernel, rfl⟩
theorem D28_208 : rDec M28 208 (.iconst 3) 1 209 := ⟨by decide +kernel, rfl⟩
theorem D28_209 : rDec M28 209 (.iadd) 1 210 := ⟨by decide +kernel, rfl⟩
theorem D28_210 : rDec M28 210 (.iaload) 1 211 := ⟨by decide +kernel, rfl⟩
theorem D28_211 : rDec M28 211 (.aload_n 3) 1 212 := ⟨by decide +kernel, rfl⟩
theorem D28_212 : rDec M28 212 (.invokestatic 118) 3 215 := ⟨by decide +kernel, rfl⟩
theorem D28_215 : rDec M28 215 (.istore 5) 2 217 := ⟨by decide +kernel, rfl⟩
theorem D28_217 : rDec M28 217 (.aload_n 2) 1 218 := ⟨by decide +kernel, rfl⟩
theorem D28_218 : rDec M28 218 (.aload_n 0) 1 219 := ⟨by decide +kernel, rfl⟩
theorem D28_219 : rDec M28 219 (.iload 4) 2 221 := ⟨by decide +kernel, rfl⟩
theorem D28_221 : rDec M28 221 (.iconst 1) 1 222 := ⟨by decide +kernel, rfl⟩
theorem D28_222 : rDec M28 222 (.iadd) 1 223 := ⟨by decide +kernel, rfl⟩
theorem D28_223 : rDec M28 223 (.iaload) 1 224 := ⟨by decide +kernel, rfl⟩
theorem D28_224 : rDec M28 224 (.aload_n 0) 1 225 := ⟨by decide +kernel, rfl⟩
theorem D28_225 : rDec M28 225 (.iload 4) 2 227 := ⟨by decide +kernel, rfl⟩
theorem D28_227 : rDec M28 227 (.iconst 2) 1 228 := ⟨by decide +kernel, rfl⟩
theorem D28_228 : rDec M28 228 (.iadd) 1 229 := ⟨by decide +kernel, rfl⟩
theorem D28_229 : rDec M28 229 (.iaload) 1 230 := ⟨by decide +kernel, rfl⟩
theorem D28_230 : rDec M28 230 (.aload_n 0) 1 231 := ⟨by decide +kernel, rfl⟩
theorem D28_231 : rDec M28 231 (.iload 4) 2 233 := ⟨by decide +kernel, rfl⟩
theorem D28_233 : rDec M28 233 (.iconst 3) 1 234 := ⟨by decide +kernel, rfl⟩
theorem D28_234 : rDec M28 234 (.iadd) 1 235 := ⟨by decide +kernel, rfl⟩
theorem D28_235 : rDec M28 235 (.iaload) 1 236 := ⟨by decide +kernel, rfl⟩
theorem D28_236 : rDec M28 236 (.invokevirtual 123) 3 239 := ⟨by decide +kernel, rfl⟩
theorem D28_239 : rDec M28 239 (.istore 6) 2 241 := ⟨by decide +kernel, rfl⟩
theorem D28_241 : rDec M28 241 (.aload_n 2) 1 242 := ⟨by decide +kernel, rfl⟩
theorem D28_242 : rDec M28 242 (.invokevirtual 124) 3 245 := ⟨by decide +kernel, rfl⟩
theorem D28_245 : rDec M28 245 (.iload 5) 2 247 := ⟨by decide +kernel, rfl⟩
theorem D28_247 : rDec M28 247 (.if_icmp .eq 5) 3 250 := ⟨by decide +kernel, rfl⟩
theorem D28_252 : rDec M28 252 (.iload 5) 2 254 := ⟨by decide +kernel, rfl⟩
theorem D28_254 : rDec M28 254 (.ifCond .ne 15) 3 257 := ⟨by decide +kernel, rfl⟩
theorem D28_257 : rDec M28 257 (.aload_n 3) 1 258 := ⟨by decide +kernel, rfl⟩
theorem D28_258 : rDec M28 258 (.iconst 0) 1 259 := ⟨by decide +kernel, rfl⟩
theorem D28_259 : rDec M28 259 (.laload) 1 260 := ⟨by decide +kernel, rfl⟩
theorem D28_260 : rDec M28 260 (.iload 6) 2 262 := ⟨by decide +kernel, rfl⟩
theorem D28_262 : rDec M28 262 (.i2l) 1 263 := ⟨by decide +kernel, rfl⟩
theorem D28_263 : rDec M28 263 (.lcmp) 1 264 := ⟨by decide +kernel, rfl⟩
theorem D28_264 : rDec M28 264 (.ifCond .eq 5) 3 267 := ⟨by decide +kernel, rfl⟩
theorem D28_269 : rDec M28 269 (.goto 2075) 3 272 := ⟨by decide +kernel, rfl⟩
theorem D28_272 : rDec M28 272 (.aload_n 1) 1 273 := ⟨by decide +kernel, rfl⟩
theorem D28_273 : rDec M28 273 (.aload_n 0) 1 274 := ⟨by decide +kernel, rfl⟩
theorem D28_274 : rDec M28 274 (.iload 4) 2 276 := ⟨by decide +kernel, rfl⟩
theorem D28_276 : rDec M28 276 (.iconst 1) 1 277 := ⟨by decide +kernel, rfl⟩
theorem D28_277 : rDec M28 277 (.iadd) 1 278 := ⟨by decide +kernel, rfl⟩
theorem D28_278 : rDec M28 278 (.iaload) 1 279 := ⟨by decide +kernel, rfl⟩
theorem D28_279 : rDec M28 279 (.aload_n 0) 1 280 := ⟨by decide +kernel, rfl⟩
theorem D28_280 : rDec M28 280 (.iload 4) 2 282 := ⟨by decide +kernel, rfl⟩
theorem D28_282 : rDec M28 282 (.iconst 2) 1 283 := ⟨by decide +kernel, rfl⟩
theorem D28_283 : rDec M28 283 (.iadd) 1 284 := ⟨by decide +kernel, rfl⟩
theorem D28_284 : rDec M28 284 (.iaload) 1 285 := ⟨by decide +kernel, rfl⟩
theorem D28_285 : rDec M28 285 (.aload_n 3) 1 286 := ⟨by decide +kernel, rfl⟩
theorem D28_286 : rDec M28 286 (.invokestatic 127) 3 289 := ⟨by decide +kernel, rfl⟩
theorem D28_289 : rDec M28 289 (.istore 5) 2 291 := ⟨by decide +kernel, rfl⟩
theorem D28_291 : rDec M28 291 (.aload_n 2) 1 292 := ⟨by decide +kernel, rfl⟩
theorem D28_292 : rDec M28 292 (.aload_n 0) 1 293 := ⟨by decide +kernel, rfl⟩
theorem D28_293 : rDec M28 293 (.iload 4) 2 295 := ⟨by decide +kernel, rfl⟩
theorem D28_295 : rDec M28 295 (.iconst 1) 1 296 := ⟨by decide +kernel, rfl⟩
theorem D28_296 : rDec M28 296 (.iadd) 1 297 := ⟨by decide +kernel, rfl⟩
theorem D28_297 : rDec M28 297 (.iaload) 1 298 := ⟨by decide +kernel, rfl⟩
theorem D28_298 : rDec M28 298 (.aload_n 0) 1 299 := ⟨by decide +kernel, rfl⟩
theorem D28_299 : rDec M28 299 (.iload 4) 2 301 := ⟨by decide +kernel, rfl⟩
theorem D28_301 : rDec M28 301 (.iconst 2) 1 302 := ⟨by decide +kernel, rfl⟩
theorem D28_302 : rDec M28 302 (.iadd) 1 303 := ⟨by decide +kernel, rfl⟩
theorem D28_303 : rDec M28 303 (.iaload) 1 304 := ⟨by decide +kernel, rfl⟩
theorem D28_304 : rDec M28 304 (.invokevirtual 130) 3 307 := ⟨by decide +kernel, rfl⟩
theorem D28_307 : rDec M28 307 (.istore 6) 2 309 := ⟨by decide +kernel, rfl⟩
theorem D28_309 : rDec M28 309 (.aload_n 2) 1 310 := ⟨by decide +kernel, rfl⟩
theorem D28_310 : rDec M28 310 (.invokevirtual 124) 3 313 := ⟨by decide +kernel, rfl⟩
theorem D28_313 : rDec M28 313 (.iload 5) 2 315 := ⟨by decide +kernel, rfl⟩
theorem D28_315 : rDec M28 315 (.if_icmp .eq 5) 3 318 := ⟨by decide +kernel, rfl⟩
theorem D28_320 : rDec M28 320 (.iload 5) 2 322 := ⟨by decide +kernel, rfl⟩
theorem D28_322 : rDec M28 322 (.ifCond .ne 15) 3 325 := ⟨by decide +kernel, rfl⟩
theorem D28_325 : rDec M28 325 (.aload_n 3) 1 326 := ⟨by decide +kernel, rfl⟩
theorem D28_326 : rDec M28 326 (.iconst 0) 1 327 := ⟨by decide +kernel, rfl⟩
theorem D28_327 : rDec M28 327 (.laload) 1 328 := ⟨by decide +kernel, rfl⟩
theorem D28_328 : rDec M28 328 (.iload 6) 2 330 := ⟨by decide +kernel, rfl⟩
theorem D28_330 : rDec M28 330 (.i2l) 1 331 := ⟨by decide +kernel, rfl⟩
theorem D28_331 : rDec M28 331 (.lcmp) 1 332 := ⟨by decide +kernel, rfl⟩
theorem D28_332 : rDec M28 332 (.ifCond .eq 5) 3 335 := ⟨by decide +kernel, rfl⟩
theorem D28_337 : rDec M28 337 (.goto 2007) 3 340 := ⟨by decide +kernel, rfl⟩
theorem D28_340 : rDec M28 340 (.aload_n 1) 1 341 := ⟨by decide +kernel, rfl⟩
theorem D28_341 : rDec M28 341 (.aload_n 0) 1 342 := ⟨by decide +kernel, rfl⟩
theorem D28_342 : rDec M28 342 (.iload 4) 2 344 := ⟨by decide +kernel, rfl⟩
theorem D28_344 : rDec M28 344 (.iconst 1) 1 345 := ⟨by decide +kernel, rfl⟩
theorem D28_345 : rDec M28 345 (.iadd) 1 346 := ⟨by decide +kernel, rfl⟩
theorem D28_346 : rDec M28 346 (.iaload) 1 347 := ⟨by decide +kernel, rfl⟩
theorem D28_347 : rDec M28 347 (.aload_n 0) 1 348 := ⟨by decide +kernel, rfl⟩
theorem D28_348 : rDec M28 348 (.iload 4) 2 350 := ⟨by decide +kernel, rfl⟩
theorem D28_350 : rDec M28 350 (.iconst 2) 1 351 := ⟨by decide +kernel, rfl⟩
theorem D28_351 : rDec M28 351 (.iadd) 1 352 := ⟨by decide +kernel, rfl⟩
theorem D28_352 : rDec M28 352 (.iaload) 1 353 := ⟨by decide +kernel, rfl⟩
theorem D28_353 : rDec M28 353 (.aload_n 0) 1 354 := ⟨by decide +kernel, rfl⟩
theorem D28_354 : rDec M28 354 (.iload 4) 2 356 := ⟨by decide +kernel, rfl⟩
theorem D28_356 : rDec M28 356 (.iconst 3) 1 357 := ⟨by decide +kernel, rfl⟩
theorem D28_357 : rDec M28 357 (.iadd) 1 358 := ⟨by decide +kernel, rfl⟩
theorem D28_358 : rDec M28 358 (.iaload) 1 359 := ⟨by decide +kernel, rfl⟩
theorem D28_359 : rDec M28 359 (.aload_n 3) 1 360 := ⟨by decide +kernel, rfl⟩
theorem D28_360 : rDec M28 360 (.invokestatic 131) 3 363 := ⟨by decide +kernel, rfl⟩
theorem D28_363 : rDec M28 363 (.istore 5) 2 365 := ⟨by decide +kernel, rfl⟩
theorem D28_365 : rDec M28 365 (.aload_n 2) 1 366 := ⟨by decide +kernel, rfl⟩
theorem D28_366 : rDec M28 366 (.aload_n 0) 1 367 := ⟨by decide +kernel, rfl⟩
theorem D28_367 : rDec M28 367 (.iload 4) 2 369 := ⟨by decide +kernel, rfl⟩
theorem D28_369 : rDec M28 369 (.iconst 1) 1 370 := ⟨by decide +kernel, rfl⟩
theorem D28_370 : rDec M28 370 (.iadd) 1 371 := ⟨by decide +kernel, rfl⟩
theorem D28_371 : rDec M28 371 (.iaload) 1 372 := ⟨by decide +kernel, rfl⟩
theorem D28_372 : rDec M28 372 (.aload_n 0) 1 373 := ⟨by decide +kernel, rfl⟩
theorem D28_373 : rDec M28 373 (.iload 4) 2 375 := ⟨by decide +kernel, rfl⟩
theorem D28_375 : rDec M28 375 (.iconst 2) 1 376 := ⟨by decide +kernel, rfl⟩
theorem D28_376 : rDec M28 376 (.iadd) 1 377 := ⟨by decide +kernel, rfl⟩
theorem D28_377 : rDec M28 377 (.iaload) 1 378 := ⟨by decide +kernel, rfl⟩
theorem D28_378 : rDec M28 378 (.aload_n 0) 1 379 := ⟨by decide +kernel, rfl⟩
theorem D28_379 : rDec M28 379 (.iload 4) 2 381 := ⟨by decide +kernel, rfl⟩
theorem D28_381 : rDec M28 381 (.iconst 3) 1 382 := ⟨by decide +kernel, rfl⟩
theorem D28_382 : rDec M28 382 (.iadd) 1 383 := ⟨by decide +kernel, rfl⟩
theorem D28_383 : rDec M28 383 (.iaload) 1 384 := ⟨by decide +kernel, rfl⟩
theorem D28_384 : rDec M28 384 (.invokevirtual 133) 3 387 := ⟨by decide +kernel, rfl⟩
theorem D28_387 : rDec M28 387 (.istore 6) 2 389 := ⟨by decide +kernel, rfl⟩
theorem D28_389 : rDec M28 389 (.aload_n 2) 1 390 := ⟨by decide +kernel, rfl⟩
theorem D28_390 : rDec M28 390 (.invokevirtual 124) 3 393 := ⟨by decide +kernel, rfl⟩
theorem D28_393 : rDec M28 393 (.iload 5) 2 395 := ⟨by decide +kernel, rfl⟩
theorem D28_395 : rDec M28 395 (.if_icmp .eq 5) 3 398 := ⟨by decide +kernel, rfl⟩
theorem D28_400 : rDec M28 400 (.iload 5) 2 402 := ⟨by decide +kernel, rfl⟩
theorem D28_402 : rDec M28 402 (.ifCond .ne 15) 3 405 := ⟨by decide +kernel, rfl⟩
theorem D28_405 : rDec M28 405 (.aload_n 3) 1 406 := ⟨by decide +kernel, rfl⟩
theorem D28_406 : rDec M28 406 (.iconst 0) 1 407 := ⟨by decide +kernel, rfl⟩
theorem D28_407 : rDec M28 407 (.laload) 1 408 := ⟨by decide +kernel, rfl⟩
theorem D28_408 : rDec M28 408 (.iload 6) 2 410 := ⟨by decide +kernel, rfl⟩
theorem D28_410 : rDec M28 410 (.i2l) 1 411 := ⟨by decide +kernel, rfl⟩
theorem D28_411 : rDec M28 411 (.lcmp) 1 412 := ⟨by decide +kernel, rfl⟩
theorem D28_412 : rDec M28 412 (.ifCond .eq 5) 3 415 := ⟨by decide +kernel, rfl⟩
theorem D28_417 : rDec M28 417 (.goto 1927) 3 420 := ⟨by decide +kernel, rfl⟩
theorem D28_420 : rDec M28 420 (.aload_n 1) 1 421 := ⟨by decide +kernel, rfl⟩
theorem D28_421 : rDec M28 421 (.aload_n 0) 1 422 := ⟨by decide +kernel, rfl⟩
theorem D28_422 : rDec M28 422 (.iload 4) 2 424 := ⟨by decide +kernel, rfl⟩
theorem D28_424 : rDec M28 424 (.iconst 1) 1 425 := ⟨by decide +kernel, rfl⟩
theorem D28_425 : rDec M28 425 (.iadd) 1 426 := ⟨by decide +kernel, rfl⟩
theorem D28_426 : rDec M28 426 (.iaload) 1 427 := ⟨by decide +kernel, rfl⟩
theorem D28_427 : rDec M28 427 (.aload_n 0) 1 428 := ⟨by decide +kernel, rfl⟩
theorem D28_428 : rDec M28 428 (.iload 4) 2 430 := ⟨by decide +kernel, rfl⟩
theorem D28_430 : rDec M28 430 (.iconst 2) 1 431 := ⟨by decide +kernel, rfl⟩
theorem D28_431 : rDec M28 431 (.iadd) 1 432 := ⟨by decide +kernel, rfl⟩
theorem D28_432 : rDec M28 432 (.iaload) 1 433 := ⟨by decide +kernel, rfl⟩
theorem D28_433 : rDec M28 433 (.aload_n 3) 1 434 := ⟨by decide +kernel, rfl⟩
theorem D28_434 : rDec M28 434 (.invokestatic 134) 3 437 := ⟨by decide +kernel, rfl⟩
theorem D28_437 : rDec M28 437 (.istore 5) 2 439 := ⟨by decide +kernel, rfl⟩
theorem D28_439 : rDec M28 439 (.aload_n 2) 1 440 := ⟨by decide +kernel, rfl⟩
theorem D28_440 : rDec M28 440 (.aload_n 0) 1 441 := ⟨by decide +kernel, rfl⟩
theorem D28_441 : rDec M28 441 (.iload 4) 2 443 := ⟨by decide +kernel, rfl⟩
theorem D28_443 : rDec M28 443 (.iconst 1) 1 444 := ⟨by decide +kernel, rfl⟩
theorem D28_444 : rDec M28 444 (.iadd) 1 445 := ⟨by decide +kernel, rfl⟩
theorem D28_445 : rDec M28 445 (.iaload) 1 446 := ⟨by decide +kernel, rfl⟩
theorem D28_446 : rDec M28 446 (.aload_n 0) 1 447 := ⟨by decide +kernel, rfl⟩
theorem D28_447 : rDec M28 447 (.iload 4) 2 449 := ⟨by decide +kernel, rfl⟩
theorem D28_449 : rDec M28 449 (.iconst 2) 1 450 := ⟨by decide +kernel, rfl⟩
theorem D28_450 : rDec M28 450 (.iadd) 1 451 := ⟨by decide +kernel, rfl⟩
theorem D28_451 : rDec M28 451 (.iaload) 1 452 := ⟨by decide +kernel, rfl⟩
theorem D28_452 : rDec M28 452 (.invokevirtual 136) 3 455 := ⟨by decide +kernel, rfl⟩
theorem D28_455 : rDec M28 455 (.istore 6) 2 457 := ⟨by decide +kernel, rfl⟩
theorem D28_457 : rDec M28 457 (.aload_n 2) 1 458 := ⟨by decide +kernel, rfl⟩
theorem D28_458 : rDec M28 458 (.invokevirtual 124) 3 461 := ⟨by decide +kernel, rfl⟩
theorem D28_461 : rDec M28 461 (.iload 5) 2 463 := ⟨by decide +kernel, rfl⟩
theorem D28_463 : rDec M28 463 (.if_icmp .eq 5) 3 466 := ⟨by decide +kernel, rfl⟩
theorem D28_468 : rDec M28 468 (.iload 5) 2 470 := ⟨by decide +kernel, rfl⟩
theorem D28_470 : rDec M28 470 (.ifCond .ne 22) 3 473 := ⟨by decide +kernel, rfl⟩
theorem D28_473 : rDec M28 473 (.aload_n 3) 1 474 := ⟨by decide +kernel, rfl⟩
theorem D28_474 : rDec M28 474 (.iconst 0) 1 475 := ⟨by decide +kernel, rfl⟩
theorem D28_475 : rDec M28 475 (.laload) 1 476 := ⟨by decide +kernel, rfl⟩
theorem D28_476 : rDec M28 476 (.iload 6) 2 478 := ⟨by decide +kernel, rfl⟩
theorem D28_478 : rDec M28 478 (.ifCond .eq 7) 3 481 := ⟨by decide +kernel, rfl⟩
theorem D28_481 : rDec M28 481 (.lconst 1) 1 482 := ⟨by decide +kernel, rfl⟩
theorem D28_482 : rDec M28 482 (.goto 4) 3 485 := ⟨by decide +kernel, rfl⟩
theorem D28_485 : rDec M28 485 (.lconst 0) 1 486 := ⟨by decide +kernel, rfl⟩
theorem D28_486 : rDec M28 486 (.lcmp) 1 487 := ⟨by decide +kernel, rfl⟩
theorem D28_487 : rDec M28 487 (.ifCond .eq 5) 3 490 := ⟨by decide +kernel, rfl⟩
theorem D28_492 : rDec M28 492 (.goto 1852) 3 495 := ⟨by decide +kernel, rfl⟩
theorem D28_495 : rDec M28 495 (.aload_n 1) 1 496 := ⟨by decide +kernel, rfl⟩
theorem D28_496 : rDec M28 496 (.aload_n 0) 1 497 := ⟨by decide +kernel, rfl⟩
theorem D28_497 : rDec M28 497 (.iload 4) 2 499 := ⟨by decide +kernel, rfl⟩
theorem D28_499 : rDec M28 499 (.iconst 1) 1 500 := ⟨by decide +kernel, rfl⟩
theorem D28_500 : rDec M28 500 (.iadd) 1 501 := ⟨by decide +kernel, rfl⟩
theorem D28_501 : rDec M28 501 (.iaload) 1 502 := ⟨by decide +kernel, rfl⟩
theorem D28_502 : rDec M28 502 (.aload_n 0) 1 503 := ⟨by decide +kernel, rfl⟩
theorem D28_503 : rDec M28 503 (.iload 4) 2 505 := ⟨by decide +kernel, rfl⟩
theorem D28_505 : rDec M28 505 (.iconst 2) 1 506 := ⟨by decide +kernel, rfl⟩
theorem D28_506 : rDec M28 506 (.iadd) 1 507 := ⟨by decide +kernel, rfl⟩
theorem D28_507 : rDec M28 507 (.iaload) 1 508 := ⟨by decide +kernel, rfl⟩
theorem D28_508 : rDec M28 508 (.aload_n 3) 1 509 := ⟨by decide +kernel, rfl⟩
theorem D28_509 : rDec M28 509 (.invokestatic 137) 3 512 := ⟨by decide +kernel, rfl⟩
theorem D28_512 : rDec M28 512 (.istore 5) 2 514 := ⟨by decide +kernel, rfl⟩
theorem D28_514 : rDec M28 514 (.aload_n 2) 1 515 := ⟨by decide +kernel, rfl⟩
theorem D28_515 : rDec M28 515 (.aload_n 0) 1 516 := ⟨by decide +kernel, rfl⟩
theorem D28_516 : rDec M28 516 (.iload 4) 2 518 := ⟨by decide +kernel, rfl⟩
theorem D28_518 : rDec M28 518 (.iconst 1) 1 519 := ⟨by decide +kernel, rfl⟩
theorem D28_519 : rDec M28 519 (.iadd) 1 520 := ⟨by decide +kernel, rfl⟩
theorem D28_520 : rDec M28 520 (.iaload) 1 521 := ⟨by decide +kernel, rfl⟩
theorem D28_521 : rDec M28 521 (.aload_n 0) 1 522 := ⟨by decide +kernel, rfl⟩
theorem D28_522 : rDec M28 522 (.iload 4) 2 524 := ⟨by decide +kernel, rfl⟩
theorem D28_524 : rDec M28 524 (.iconst 2) 1 525 := ⟨by decide +kernel, rfl⟩
theorem D28_525 : rDec M28 525 (.iadd) 1 526 := ⟨by decide +kernel, rfl⟩
theorem D28_526 : rDec M28 526 (.iaload) 1 527 := ⟨by decide +kernel, rfl⟩
theorem D28_527 : rDec M28 527 (.invokevirtual 139) 3 530 := ⟨by decide +kernel, rfl⟩
theorem D28_530 : rDec M28 530 (.istore 6) 2 532 := ⟨by decide +kernel, rfl⟩
theorem D28_532 : rDec M28 532 (.aload_n 2) 1 533 := ⟨by decide +kernel, rfl⟩
theorem D28_533 : rDec M28 533 (.invokevirtual 124) 3 536 := ⟨by decide +kernel, rfl⟩
theorem D28_536 : rDec M28 536 (.iload 5) 2 538 := ⟨by decide +kernel, rfl⟩
theorem D28_538 : rDec M28 538 (.if_icmp .eq 5) 3 541 := ⟨by decide +kernel, rfl⟩
theorem D28_543 : rDec M28 543 (.iload 5) 2 545 := ⟨by decide +kernel, rfl⟩
theorem D28_545 : rDec M28 545 (.ifCond .ne 15) 3 548 := ⟨by decide +kernel, rfl⟩
theorem D28_548 : rDec M28 548 (.aload_n 3) 1 549 := ⟨by decide +kernel, rfl⟩
theorem D28_549 : rDec M28 549 (.iconst 0) 1 550 := ⟨by decide +kernel, rfl⟩
theorem D28_550 : rDec M28 550 (.laload) 1 551 := ⟨by decide +kernel, rfl⟩
theorem D28_551 : rDec M28 551 (.iload 6) 2 553 := ⟨by decide +kernel, rfl⟩
theorem D28_553 : rDec M28 553 (.i2l) 1 554 := ⟨by decide +kernel, rfl⟩
theorem D28_554 : rDec M28 554 (.lcmp) 1 555 := ⟨by decide +kernel, rfl⟩
theorem D28_555 : rDec M28 555 (.ifCond .eq 5) 3 558 := ⟨by decide +kernel, rfl⟩
theorem D28_560 : rDec M28 560 (.goto 1784) 3 563 := ⟨by decide +kernel, rfl⟩
theorem D28_563 : rDec M28 563 (.aload_n 1) 1 564 := ⟨by decide +kernel, rfl⟩
theorem D28_564 : rDec M28 564 (.aload_n 0) 1 565 := ⟨by decide +kernel, rfl⟩
theorem D28_565 : rDec M28 565 (.iload 4) 2 567 := ⟨by decide +kernel, rfl⟩
theorem D28_567 : rDec M28 567 (.iconst 1) 1 568 := ⟨by decide +kernel, rfl⟩
theorem D28_568 : rDec M28 568 (.iadd) 1 569 := ⟨by decide +kernel, rfl⟩
theorem D28_569 : rDec M28 569 (.iaload) 1 570 := ⟨by decide +kernel, rfl⟩
theorem D28_570 : rDec M28 570 (.aload_n 0) 1 571 := ⟨by decide +kernel, rfl⟩
theorem D28_571 : rDec M28 571 (.iload 4) 2 573 := ⟨by decide +kernel, rfl⟩
theorem D28_573 : rDec M28 573 (.iconst 2) 1 574 := ⟨by decide +kernel, rfl⟩
theorem D28_574 : rDec M28 574 (.iadd) 1 575 := ⟨by decide +kernel, rfl⟩
theorem D28_575 : rDec M28 575 (.iaload) 1 576 := ⟨by decide +kernel, rfl⟩
theorem D28_576 : rDec M28 576 (.aload_n 3) 1 577 := ⟨by decide +kernel, rfl⟩
theorem D28_577 : rDec M28 577 (.invokestatic 140) 3 580 := ⟨by decide +kernel, rfl⟩
theorem D28_580 : rDec M28 580 (.istore 5) 2 582 := ⟨by decide +kernel, rfl⟩
theorem D28_582 : rDec M28 582 (.aload_n 2) 1 583 := ⟨by decide +kernel, rfl⟩
theorem D28_583 : rDec M28 583 (.aload_n 0) 1 584 := ⟨by decide +kernel, rfl⟩
theorem D28_584 : rDec M28 584 (.iload 4) 2 586 := ⟨by decide +kernel, rfl⟩
theorem D28_586 : rDec M28 586 (.iconst 1) 1 587 := ⟨by decide +kernel, rfl⟩
theorem D28_587 : rDec M28 587 (.iadd) 1 588 := ⟨by decide +kernel, rfl⟩
theorem D28_588 : rDec M28 588 (.iaload) 1 589 := ⟨by decide +kernel, rfl⟩
theorem D28_589 : rDec M28 589 (.aload_n 0) 1 590 := ⟨by decide +kernel, rfl⟩
theorem D28_590 : rDec M28 590 (.iload 4) 2 592 := ⟨by decide +kernel, rfl⟩
theorem D28_592 : rDec M28 592 (.iconst 2) 1 593 := ⟨by decide +kernel, rfl⟩
theorem D28_593 : rDec M28 593 (.iadd) 1 594 := ⟨by decide +kernel, rfl⟩
theorem D28_594 : rDec M28 594 (.iaload) 1 595 := ⟨by decide +kernel, rfl⟩
theorem D28_595 : rDec M28 595 (.invokevirtual 142) 3 598 := ⟨by decide +kernel, rfl⟩
theorem D28_598 : rDec M28 598 (.istore 6) 2 600 := ⟨by decide +kernel, rfl⟩
theorem D28_600 : rDec M28 600 (.aload_n 2) 1 601 := ⟨by decide +kernel, rfl⟩
theorem D28_601 : rDec M28 601 (.invokevirtual 124) 3 604 := ⟨by decide +kernel, rfl⟩
theorem D28_604 : rDec M28 604 (.iload 5) 2 606 := ⟨by decide +kernel, rfl⟩
theorem D28_606 : rDec M28 606 (.if_icmp .eq 5) 3 609 := ⟨by decide +kernel, rfl⟩
theorem D28_611 : rDec M28 611 (.iload 5) 2 613 := ⟨by decide +kernel, rfl⟩
theorem D28_613 : rDec M28 613 (.ifCond .ne 15) 3 616 := ⟨by decide +kernel, rfl⟩
theorem D28_616 : rDec M28 616 (.aload_n 3) 1 617 := ⟨by decide +kernel, rfl⟩
theorem D28_617 : rDec M28 617 (.iconst 0) 1 618 := ⟨by decide +kernel, rfl⟩
theorem D28_618 : rDec M28 618 (.laload) 1 619 := ⟨by decide +kernel, rfl⟩
theorem D28_619 : rDec M28 619 (.iload 6) 2 621 := ⟨by decide +kernel, rfl⟩
theorem D28_621 : rDec M28 621 (.i2l) 1 622 := ⟨by decide +kernel, rfl⟩
theorem D28_622 : rDec M28 622 (.lcmp) 1 623 := ⟨by decide +kernel, rfl⟩
theorem D28_623 : rDec M28 623 (.ifCond .eq 5) 3 626 := ⟨by decide +kernel, rfl⟩
theorem D28_628 : rDec M28 628 (.goto 1716) 3 631 := ⟨by decide +kernel, rfl⟩
theorem D28_631 : rDec M28 631 (.aload_n 1) 1 632 := ⟨by decide +kernel, rfl⟩
theorem D28_632 : rDec M28 632 (.aload_n 3) 1 633 := ⟨by decide +kernel, rfl⟩
theorem D28_633 : rDec M28 633 (.invokestatic 143) 3 636 := ⟨by decide +kernel, rfl⟩
theorem D28_636 : rDec M28 636 (.istore 5) 2 638 := ⟨by decide +kernel, rfl⟩
theorem D28_638 : rDec M28 638 (.aload_n 2) 1 639 := ⟨by decide +kernel, rfl⟩
theorem D28_639 : rDec M28 639 (.invokevirtual 146) 3 642 := ⟨by decide +kernel, rfl⟩
theorem D28_642 : rDec M28 642 (.istore 6) 2 644 := ⟨by decide +kernel, rfl⟩
theorem D28_644 : rDec M28 644 (.aload_n 2) 1 645 := ⟨by decide +kernel, rfl⟩
theorem D28_645 : rDec M28 645 (.invokevirtual 124) 3 648 := ⟨by decide +kernel, rfl⟩
theorem D28_648 : rDec M28 648 (.iload 5) 2 650 := ⟨by decide +kernel, rfl⟩
theorem D28_650 : rDec M28 650 (.if_icmp .eq 5) 3 653 := ⟨by decide +kernel, rfl⟩
theorem D28_655 : rDec M28 655 (.iload 5) 2 657 := ⟨by decide +kernel, rfl⟩
theorem D28_657 : rDec M28 657 (.ifCond .ne 15) 3 660 := ⟨by decide +kernel, rfl⟩
theorem D28_660 : rDec M28 660 (.aload_n 3) 1 661 := ⟨by decide +kernel, rfl⟩
theorem D28_661 : rDec M28 661 (.iconst 0) 1 662 := ⟨by decide +kernel, rfl⟩
theorem D28_662 : rDec M28 662 (.laload) 1 663 := ⟨by decide +kernel, rfl⟩
theorem D28_663 : rDec M28 663 (.iload 6) 2 665 := ⟨by decide +kernel, rfl⟩
theorem D28_665 : rDec M28 665 (.i2l) 1 666 := ⟨by decide +kernel, rfl⟩
theorem D28_666 : rDec M28 666 (.lcmp) 1 667 := ⟨by decide +kernel, rfl⟩
theorem D28_667 : rDec M28 667 (.ifCond .eq 5) 3 670 := ⟨by decide +kernel, rfl⟩
theorem D28_672 : rDec M28 672 (.goto 1672) 3 675 := ⟨by decide +kernel, rfl⟩
theorem D28_675 : rDec M28 675 (.aload_n 1) 1 676 := ⟨by decide +kernel, rfl⟩
theorem D28_676 : rDec M28 676 (.aload_n 0) 1 677 := ⟨by decide +kernel, rfl⟩
theorem D28_677 : rDec M28 677 (.iload 4) 2 679 := ⟨by decide +kernel, rfl⟩
theorem D28_679 : rDec M28 679 (.iconst 1) 1 680 := ⟨by decide +kernel, rfl⟩
theorem D28_680 : rDec M28 680 (.iadd) 1 681 := ⟨by decide +kernel, rfl⟩
theorem D28_681 : rDec M28 681 (.iaload) 1 682 := ⟨by decide +kernel, rfl⟩
theorem D28_682 : rDec M28 682 (.aload_n 0) 1 683 := ⟨by decide +kernel, rfl⟩
theorem D28_683 : rDec M28 683 (.iload 4) 2 685 := ⟨by decide +kernel, rfl⟩
theorem D28_685 : rDec M28 685 (.iconst 2) 1 686 := ⟨by decide +kernel, rfl⟩
theorem D28_686 : rDec M28 686 (.iadd) 1 687 := ⟨by decide +kernel, rfl⟩
theorem D28_687 : rDec M28 687 (.iaload) 1 688 := ⟨by decide +kernel, rfl⟩
theorem D28_688 : rDec M28 688 (.aload_n 0) 1 689 := ⟨by decide +kernel, rfl⟩
theorem D28_689 : rDec M28 689 (.iload 4) 2 691 := ⟨by decide +kernel, rfl⟩
theorem D28_691 : rDec M28 691 (.iconst 3) 1 692 := ⟨by decide +kernel, rfl⟩
theorem D28_692 : rDec M28 692 (.iadd) 1 693 := ⟨by decide +kernel, rfl⟩
theorem D28_693 : rDec M28 693 (.iaload) 1 694 := ⟨by decide +kernel, rfl⟩
theorem D28_694 : rDec M28 694 (.aload_n 0) 1 695 := ⟨by decide +kernel, rfl⟩
theorem D28_695 : rDec M28 695 (.iload 4) 2 697 := ⟨by decide +kernel, rfl⟩
theorem D28_697 : rDec M28 697 (.iconst 4) 1 698 := ⟨by decide +kernel, rfl⟩
theorem D28_698 : rDec M28 698 (.iadd) 1 699 := ⟨by decide +kernel, rfl⟩
theorem D28_699 : rDec M28 699 (.iaload) 1 700 := ⟨by decide +kernel, rfl⟩
theorem D28_700 : rDec M28 700 (.aload_n 0) 1 701 := ⟨by decide +kernel, rfl⟩
theorem D28_701 : rDec M28 701 (.iload 4) 2 703 := ⟨by decide +kernel, rfl⟩
theorem D28_703 : rDec M28 703 (.iconst 5) 1 704 := ⟨by decide +kernel, rfl⟩
theorem D28_704 : rDec M28 704 (.iadd) 1 705 := ⟨by decide +kernel, rfl⟩
theorem D28_705 : rDec M28 705 (.iaload) 1 706 := ⟨by decide +kernel, rfl⟩
theorem D28_706 : rDec M28 706 (.aload_n 3) 1 707 := ⟨by decide +kernel, rfl⟩
theorem D28_707 : rDec M28 707 (.invokestatic 147) 3 710 := ⟨by decide +kernel, rfl⟩
theorem D28_710 : rDec M28 710 (.istore 5) 2 712 := ⟨by decide +kernel, rfl⟩
theorem D28_712 : rDec M28 712 (.aload_n 2) 1 713 := ⟨by decide +kernel, rfl⟩
theorem D28_713 : rDec M28 713 (.aload_n 0) 1 714 := ⟨by decide +kernel, rfl⟩
theorem D28_714 : rDec M28 714 (.iload 4) 2 716 := ⟨by decide +kernel, rfl⟩
theorem D28_716 : rDec M28 716 (.iconst 1) 1 717 := ⟨by decide +kernel, rfl⟩
theorem D28_717 : rDec M28 717 (.iadd) 1 718 := ⟨by decide +kernel, rfl⟩
theorem D28_718 : rDec M28 718 (.iaload) 1 719 := ⟨by decide +kernel, rfl⟩
theorem D28_719 : rDec M28 719 (.aload_n 0) 1 720 := ⟨by decide +kernel, rfl⟩
theorem D28_720 : rDec M28 720 (.iload 4) 2 722 := ⟨by decide +kernel, rfl⟩
theorem D28_722 : rDec M28 722 (.iconst 2) 1 723 := ⟨by decide +kernel, rfl⟩
theorem D28_723 : rDec M28 723 (.iadd) 1 724 := ⟨by decide +kernel, rfl⟩
theorem D28_724 : rDec M28 724 (.iaload) 1 725 := ⟨by decide +kernel, rfl⟩
theorem D28_725 : rDec M28 725 (.aload_n 0) 1 726 := ⟨by decide +kernel, rfl⟩
theorem D28_726 : rDec M28 726 (.iload 4) 2 728 := ⟨by decide +kernel, rfl⟩
theorem D28_728 : rDec M28 728 (.iconst 3) 1 729 := ⟨by decide +kernel, rfl⟩
theorem D28_729 : rDec M28 729 (.iadd) 1 730 := ⟨by decide +kernel, rfl⟩
theorem D28_730 : rDec M28 730 (.iaload) 1 731 := ⟨by decide +kernel, rfl⟩
theorem D28_731 : rDec M28 731 (.aload_n 0) 1 732 := ⟨by decide +kernel, rfl⟩
theorem D28_732 : rDec M28 732 (.iload 4) 2 734 := ⟨by decide +kernel, rfl⟩
theorem D28_734 : rDec M28 734 (.iconst 4) 1 735 := ⟨by decide +kernel, rfl⟩
theorem D28_735 : rDec M28 735 (.iadd) 1 736 := ⟨by decide +kernel, rfl⟩
theorem D28_736 : rDec M28 736 (.iaload) 1 737 := ⟨by decide +kernel, rfl⟩
theorem D28_737 : rDec M28 737 (.aload_n 0) 1 738 := ⟨by decide +kernel, rfl⟩
theorem D28_738 : rDec M28 738 (.iload 4) 2 740 := ⟨by decide +kernel, rfl⟩
theorem D28_740 : rDec M28 740 (.iconst 5) 1 741 := ⟨by decide +kernel, rfl⟩
theorem D28_741 : rDec M28 741 (.iadd) 1 742 := ⟨by decide +kernel, rfl⟩
theorem D28_742 : rDec M28 742 (.iaload) 1 743 := ⟨by decide +kernel, rfl⟩
theorem D28_743 : rDec M28 743 (.invokevirtual 150) 3 746 := ⟨by decide +kernel, rfl⟩
theorem D28_746 : rDec M28 746 (.istore 6) 2 748 := ⟨by decide +kernel, rfl⟩
theorem D28_748 : rDec M28 748 (.aload_n 2) 1 749 := ⟨by decide +kernel, rfl⟩
theorem D28_749 : rDec M28 749 (.invokevirtual 124) 3 752 := ⟨by decide +kernel, rfl⟩
theorem D28_752 : rDec M28 752 (.iload 5) 2 754 := ⟨by decide +kernel, rfl⟩
theorem D28_754 : rDec M28 754 (.if_icmp .eq 5) 3 757 := ⟨by decide +kernel, rfl⟩
theorem D28_759 : rDec M28 759 (.iload 5) 2 761 := ⟨by decide +kernel, rfl⟩
theorem D28_761 : rDec M28 761 (.ifCond .ne 15) 3 764 := ⟨by decide +kernel, rfl⟩
theorem D28_776 : rDec M28 776 (.goto 1568) 3 779 := ⟨by decide +kernel, rfl⟩
theorem D28_779 : rDec M28 779 (.aload_n 1) 1 780 := ⟨by decide +kernel, rfl⟩
theorem D28_780 : rDec M28 780 (.aload_n 0) 1 781 := ⟨by decide +kernel, rfl⟩
theorem D28_781 : rDec M28 781 (.iload 4) 2 783 := ⟨by decide +kernel, rfl⟩
theorem D28_783 : rDec M28 783 (.iconst 1) 1 784 := ⟨by decide +kernel, rfl⟩
theorem D28_784 : rDec M28 784 (.iadd) 1 785 := ⟨by decide +kernel, rfl⟩
theorem D28_785 : rDec M28 785 (.iaload) 1 786 := ⟨by decide +kernel, rfl⟩
theorem D28_786 : rDec M28 786 (.aload_n 0) 1 787 := ⟨by decide +kernel, rfl⟩
theorem D28_787 : rDec M28 787 (.iload 4) 2 789 := ⟨by decide +kernel, rfl⟩
theorem D28_789 : rDec M28 789 (.iconst 2) 1 790 := ⟨by decide +kernel, rfl⟩
theorem D28_790 : rDec M28 790 (.iadd) 1 791 := ⟨by decide +kernel, rfl⟩
theorem D28_791 : rDec M28 791 (.iaload) 1 792 := ⟨by decide +kernel, rfl⟩
theorem D28_792 : rDec M28 792 (.aload_n 3) 1 793 := ⟨by decide +kernel, rfl⟩
theorem D28_793 : rDec M28 793 (.invokestatic 151) 3 796 := ⟨by decide +kernel, rfl⟩
theorem D28_796 : rDec M28 796 (.istore 5) 2 798 := ⟨by decide +kernel, rfl⟩
theorem D28_798 : rDec M28 798 (.aload_n 2) 1 799 := ⟨by decide +kernel, rfl⟩
theorem D28_799 : rDec M28 799 (.aload_n 0) 1 800 := ⟨by decide +kernel, rfl⟩
theorem D28_800 : rDec M28 800 (.iload 4) 2 802 := ⟨by decide +kernel, rfl⟩
theorem D28_802 : rDec M28 802 (.iconst 1) 1 803 := ⟨by decide +kernel, rfl⟩
theorem D28_803 : rDec M28 803 (.iadd) 1 804 := ⟨by decide +kernel, rfl⟩
theorem D28_804 : rDec M28 804 (.iaload) 1 805 := ⟨by decide +kernel, rfl⟩
theorem D28_805 : rDec M28 805 (.aload_n 0) 1 806 := ⟨by decide +kernel, rfl⟩
theorem D28_806 : rDec M28 806 (.iload 4) 2 808 := ⟨by decide +kernel, rfl⟩
theorem D28_808 : rDec M28 808 (.iconst 2) 1 809 := ⟨by decide +kernel, rfl⟩
theorem D28_809 : rDec M28 809 (.iadd) 1 810 := ⟨by decide +kernel, rfl⟩
theorem D28_810 : rDec M28 810 (.iaload) 1 811 := ⟨by decide +kernel, rfl⟩
theorem D28_811 : rDec M28 811 (.invokevirtual 153) 3 814 := ⟨by decide +kernel, rfl⟩
theorem D28_814 : rDec M28 814 (.istore 6) 2 816 := ⟨by decide +kernel, rfl⟩
theorem D28_816 : rDec M28 816 (.aload_n 2) 1 817 := ⟨by decide +kernel, rfl⟩
theorem D28_817 : rDec M28 817 (.invokevirtual 124) 3 820 := ⟨by decide +kernel, rfl⟩
theorem D28_820 : rDec M28 820 (.iload 5) 2 822 := ⟨by decide +kernel, rfl⟩
theorem D28_822 : rDec M28 822 (.if_icmp .eq 5) 3 825 := ⟨by decide +kernel, rfl⟩
theorem D28_827 : rDec M28 827 (.iload 5) 2 829 := ⟨by decide +kernel, rfl⟩
theorem D28_829 : rDec M28 829 (.ifCond .ne 15) 3 832 := ⟨by decide +kernel, rfl⟩
theorem D28_844 : rDec M28 844 (.goto 1500) 3 847 := ⟨by decide +kernel, rfl⟩
theorem D28_847 : rDec M28 847 (.aload_n 1) 1 848 := ⟨by decide +kernel, rfl⟩
theorem D28_848 : rDec M28 848 (.aload_n 0) 1 849 := ⟨by decide +kernel, rfl⟩
theorem D28_849 : rDec M28 849 (.iload 4) 2 851 := ⟨by decide +kernel, rfl⟩
theorem D28_851 : rDec M28 851 (.iconst 1) 1 852 := ⟨by decide +kernel, rfl⟩
theorem D28_852 : rDec M28 852 (.iadd) 1 853 := ⟨by decide +kernel, rfl⟩
theorem D28_853 : rDec M28 853 (.iaload) 1 854 := ⟨by decide +kernel, rfl⟩
theorem D28_854 : rDec M28 854 (.aload_n 0) 1 855 := ⟨by decide +kernel, rfl⟩
theorem D28_855 : rDec M28 855 (.iload 4) 2 857 := ⟨by decide +kernel, rfl⟩
theorem D28_857 : rDec M28 857 (.iconst 2) 1 858 := ⟨by decide +kernel, rfl⟩
theorem D28_858 : rDec M28 858 (.iadd) 1 859 := ⟨by decide +kernel, rfl⟩
theorem D28_859 : rDec M28 859 (.iaload) 1 860 := ⟨by decide +kernel, rfl⟩
theorem D28_860 : rDec M28 860 (.aload_n 0) 1 861 := ⟨by decide +kernel, rfl⟩
theorem D28_861 : rDec M28 861 (.iload 4) 2 863 := ⟨by decide +kernel, rfl⟩
theorem D28_863 : rDec M28 863 (.iconst 3) 1 864 := ⟨by decide +kernel, rfl⟩
theorem D28_864 : rDec M28 864 (.iadd) 1 865 := ⟨by decide +kernel, rfl⟩
theorem D28_865 : rDec M28 865 (.iaload) 1 866 := ⟨by decide +kernel, rfl⟩
theorem D28_866 : rDec M28 866 (.aload_n 3) 1 867 := ⟨by decide +kernel, rfl⟩
theorem D28_867 : rDec M28 867 (.invokestatic 154) 3 870 := ⟨by decide +kernel, rfl⟩
theorem D28_870 : rDec M28 870 (.istore 5) 2 872 := ⟨by decide +kernel, rfl⟩
theorem D28_872 : rDec M28 872 (.aload_n 2) 1 873 := ⟨by decide +kernel, rfl⟩
theorem D28_873 : rDec M28 873 (.aload_n 0) 1 874 := ⟨by decide +kernel, rfl⟩
theorem D28_874 : rDec M28 874 (.iload 4) 2 876 := ⟨by decide +kernel, rfl⟩
theorem D28_876 : rDec M28 876 (.iconst 1) 1 877 := ⟨by decide +kernel, rfl⟩
theorem D28_877 : rDec M28 877 (.iadd) 1 878 := ⟨by decide +kernel, rfl⟩
theorem D28_878 : rDec M28 878 (.iaload) 1 879 := ⟨by decide +kernel, rfl⟩
theorem D28_879 : rDec M28 879 (.aload_n 0) 1 880 := ⟨by decide +kernel, rfl⟩
theorem D28_880 : rDec M28 880 (.iload 4) 2 882 := ⟨by decide +kernel, rfl⟩
theorem D28_882 : rDec M28 882 (.iconst 2) 1 883 := ⟨by decide +kernel, rfl⟩
theorem D28_883 : rDec M28 883 (.iadd) 1 884 := ⟨by decide +kernel, rfl⟩
theorem D28_884 : rDec M28 884 (.iaload) 1 885 := ⟨by decide +kernel, rfl⟩
theorem D28_885 : rDec M28 885 (.aload_n 0) 1 886 := ⟨by decide +kernel, rfl⟩
theorem D28_886 : rDec M28 886 (.iload 4) 2 888 := ⟨by decide +kernel, rfl⟩
theorem D28_888 : rDec M28 888 (.iconst 3) 1 889 := ⟨by decide +kernel, rfl⟩
theorem D28_889 : rDec M28 889 (.iadd) 1 890 := ⟨by decide +kernel, rfl⟩
theorem D28_890 : rDec M28 890 (.iaload) 1 891 := ⟨by decide +kernel, rfl⟩
theorem D28_891 : rDec M28 891 (.invokevirtual 156) 3 894 := ⟨by decide +kernel, rfl⟩
theorem D28_894 : rDec M28 894 (.istore 6) 2 896 := ⟨by decide +kernel, rfl⟩
theorem D28_896 : rDec M28 896 (.aload_n 2) 1 897 := ⟨by decide +kernel, rfl⟩
theorem D28_897 : rDec M28 897 (.invokevirtual 124) 3 900 := ⟨by decide +kernel, rfl⟩
theorem D28_900 : rDec M28 900 (.iload 5) 2 902 := ⟨by decide +kernel, rfl⟩
theorem D28_902 : rDec M28 902 (.if_icmp .eq 5) 3 905 := ⟨by decide +kernel, rfl⟩
theorem D28_907 : rDec M28 907 (.iload 5) 2 909 := ⟨by decide +kernel, rfl⟩
theorem D28_909 : rDec M28 909 (.ifCond .ne 15) 3 912 := ⟨by decide +kernel, rfl⟩
theorem D28_924 : rDec M28 924 (.goto 1420) 3 927 := ⟨by decide +kernel, rfl⟩
theorem D28_927 : rDec M28 927 (.aload_n 1) 1 928 := ⟨by decide +kernel, rfl⟩
theorem D28_928 : rDec M28 928 (.aload_n 0) 1 929 := ⟨by decide +kernel, rfl⟩
theorem D28_929 : rDec M28 929 (.iload 4) 2 931 := ⟨by decide +kernel, rfl⟩
theorem D28_931 : rDec M28 931 (.iconst 1) 1 932 := ⟨by decide +kernel, rfl⟩
theorem D28_932 : rDec M28 932 (.iadd) 1 933 := ⟨by decide +kernel, rfl⟩
theorem D28_933 : rDec M28 933 (.iaload) 1 934 := ⟨by decide +kernel, rfl⟩
theorem D28_934 : rDec M28 934 (.aload_n 0) 1 935 := ⟨by decide +kernel, rfl⟩
theorem D28_935 : rDec M28 935 (.iload 4) 2 937 := ⟨by decide +kernel, rfl⟩
theorem D28_937 : rDec M28 937 (.iconst 2) 1 938 := ⟨by decide +kernel, rfl⟩
theorem D28_938 : rDec M28 938 (.iadd) 1 939 := ⟨by decide +kernel, rfl⟩
theorem D28_939 : rDec M28 939 (.iaload) 1 940 := ⟨by decide +kernel, rfl⟩
theorem D28_940 : rDec M28 940 (.aload_n 3) 1 941 := ⟨by decide +kernel, rfl⟩
theorem D28_941 : rDec M28 941 (.invokestatic 157) 3 944 := ⟨by decide +kernel, rfl⟩
theorem D28_944 : rDec M28 944 (.istore 5) 2 946 := ⟨by decide +kernel, rfl⟩
theorem D28_946 : rDec M28 946 (.aload_n 2) 1 947 := ⟨by decide +kernel, rfl⟩
theorem D28_947 : rDec M28 947 (.aload_n 0) 1 948 := ⟨by decide +kernel, rfl⟩
theorem D28_948 : rDec M28 948 (.iload 4) 2 950 := ⟨by decide +kernel, rfl⟩
theorem D28_950 : rDec M28 950 (.iconst 1) 1 951 := ⟨by decide +kernel, rfl⟩
theorem D28_951 : rDec M28 951 (.iadd) 1 952 := ⟨by decide +kernel, rfl⟩
theorem D28_952 : rDec M28 952 (.iaload) 1 953 := ⟨by decide +kernel, rfl⟩
theorem D28_953 : rDec M28 953 (.aload_n 0) 1 954 := ⟨by decide +kernel, rfl⟩
theorem D28_954 : rDec M28 954 (.iload 4) 2 956 := ⟨by decide +kernel, rfl⟩
theorem D28_956 : rDec M28 956 (.iconst 2) 1 957 := ⟨by decide +kernel, rfl⟩
theorem D28_957 : rDec M28 957 (.iadd) 1 958 := ⟨by decide +kernel, rfl⟩
theorem D28_958 : rDec M28 958 (.iaload) 1 959 := ⟨by decide +kernel, rfl⟩
theorem D28_959 : rDec M28 959 (.invokevirtual 159) 3 962 := ⟨by decide +kernel, rfl⟩
theorem D28_962 : rDec M28 962 (.istore 6) 2 964 := ⟨by decide +kernel, rfl⟩
theorem D28_964 : rDec M28 964 (.aload_n 2) 1 965 := ⟨by decide +kernel, rfl⟩
theorem D28_965 : rDec M28 965 (.invokevirtual 124) 3 968 := ⟨by decide +kernel, rfl⟩
theorem D28_968 : rDec M28 968 (.iload 5) 2 970 := ⟨by decide +kernel, rfl⟩
theorem D28_970 : rDec M28 970 (.if_icmp .eq 5) 3 973 := ⟨by decide +kernel, rfl⟩
theorem D28_975 : rDec M28 975 (.iload 5) 2 977 := ⟨by decide +kernel, rfl⟩
theorem D28_977 : rDec M28 977 (.ifCond .ne 15) 3 980 := ⟨by decide +kernel, rfl⟩
theorem D28_992 : rDec M28 992 (.goto 1352) 3 995 := ⟨by decide +kernel, rfl⟩
theorem D28_995 : rDec M28 995 (.aload_n 1) 1 996 := ⟨by decide +kernel, rfl⟩
theorem D28_996 : rDec M28 996 (.aload_n 0) 1 997 := ⟨by decide +kernel, rfl⟩
theorem D28_997 : rDec M28 997 (.iload 4) 2 999 := ⟨by decide +kernel, rfl⟩
theorem D28_999 : rDec M28 999 (.iconst 1) 1 1000 := ⟨by decide +kernel, rfl⟩
theorem D28_1000 : rDec M28 1000 (.iadd) 1 1001 := ⟨by decide +kernel, rfl⟩
theorem D28_1001 : rDec M28 1001 (.iaload) 1 1002 := ⟨by decide +kernel, rfl⟩
theorem D28_1002 : rDec M28 1002 (.aload_n 0) 1 1003 := ⟨by decide +kernel, rfl⟩
theorem D28_1003 : rDec M28 1003 (.iload 4) 2 1005 := ⟨by decide +kernel, rfl⟩
theorem D28_1005 : rDec M28 1005 (.iconst 2) 1 1006 := ⟨by decide +kernel, rfl⟩
theorem D28_1006 : rDec M28 1006 (.iadd) 1 1007 := ⟨by decide +kernel, rfl⟩
theorem D28_1007 : rDec M28 1007 (.iaload) 1 1008 := ⟨by decide +kernel, rfl⟩
theorem D28_1008 : rDec M28 1008 (.aload_n 3) 1 1009 := ⟨by decide +kernel, rfl⟩
theorem D28_1009 : rDec M28 1009 (.invokestatic 160) 3 1012 := ⟨by decide +kernel, rfl⟩
theorem D28_1012 : rDec M28 1012 (.istore 5) 2 1014 := ⟨by decide +kernel, rfl⟩
theorem D28_1014 : rDec M28 1014 (.aload_n 2) 1 1015 := ⟨by decide +kernel, rfl⟩
theorem D28_1015 : rDec M28 1015 (.aload_n 0) 1 1016 := ⟨by decide +kernel, rfl⟩
theorem D28_1016 : rDec M28 1016 (.iload 4) 2 1018 := ⟨by decide +kernel, rfl⟩
theorem D28_1018 : rDec M28 1018 (.iconst 1) 1 1019 := ⟨by decide +kernel, rfl⟩
theorem D28_1019 : rDec M28 1019 (.iadd) 1 1020 := ⟨by decide +kernel, rfl⟩
theorem D28_1020 : rDec M28 1020 (.iaload) 1 1021 := ⟨by decide +kernel, rfl⟩
theorem D28_1021 : rDec M28 1021 (.aload_n 0) 1 1022 := ⟨by decide +kernel, rfl⟩
theorem D28_1022 : rDec M28 1022 (.iload 4) 2 1024 := ⟨by decide +kernel, rfl⟩
theorem D28_1024 : rDec M28 1024 (.iconst 2) 1 1025 := ⟨by decide +kernel, rfl⟩
theorem D28_1025 : rDec M28 1025 (.iadd) 1 1026 := ⟨by decide +kernel, rfl⟩
theorem D28_1026 : rDec M28 1026 (.iaload) 1 1027 := ⟨by decide +kernel, rfl⟩
theorem D28_1027 : rDec M28 1027 (.invokevirtual 162) 3 1030 := ⟨by decide +kernel, rfl⟩
theorem D28_1030 : rDec M28 1030 (.istore 6) 2 1032 := ⟨by decide +kernel, rfl⟩
theorem D28_1032 : rDec M28 1032 (.aload_n 2) 1 1033 := ⟨by decide +kernel, rfl⟩
theorem D28_1033 : rDec M28 1033 (.invokevirtual 124) 3 1036 := ⟨by decide +kernel, rfl⟩
theorem D28_1036 : rDec M28 1036 (.iload 5) 2 1038 := ⟨by decide +kernel, rfl⟩
theorem D28_1038 : rDec M28 1038 (.if_icmp .eq 5) 3 1041 := ⟨by decide +kernel, rfl⟩
theorem D28_1043 : rDec M28 1043 (.iload 5) 2 1045 := ⟨by decide +kernel, rfl⟩
theorem D28_1045 : rDec M28 1045 (.ifCond .ne 15) 3 1048 := ⟨by decide +kernel, rfl⟩
theorem D28_1060 : rDec M28 1060 (.goto 1284) 3 1063 := ⟨by decide +kernel, rfl⟩
theorem D28_1063 : rDec M28 1063 (.aload_n 1) 1 1064 := ⟨by decide +kernel, rfl⟩
theorem D28_1064 : rDec M28 1064 (.aload_n 0) 1 1065 := ⟨by decide +kernel, rfl⟩
theorem D28_1065 : rDec M28 1065 (.iload 4) 2 1067 := ⟨by decide +kernel, rfl⟩
theorem D28_1067 : rDec M28 1067 (.iconst 1) 1 1068 := ⟨by decide +kernel, rfl⟩
theorem D28_1068 : rDec M28 1068 (.iadd) 1 1069 := ⟨by decide +kernel, rfl⟩
theorem D28_1069 : rDec M28 1069 (.iaload) 1 1070 := ⟨by decide +kernel, rfl⟩
theorem D28_1070 : rDec M28 1070 (.aload_n 0) 1 1071 := ⟨by decide +kernel, rfl⟩
theorem D28_1071 : rDec M28 1071 (.iload 4) 2 1073 := ⟨by decide +kernel, rfl⟩
theorem D28_1073 : rDec M28 1073 (.iconst 2) 1 1074 := ⟨by decide +kernel, rfl⟩
theorem D28_1074 : rDec M28 1074 (.iadd) 1 1075 := ⟨by decide +kernel, rfl⟩
theorem D28_1075 : rDec M28 1075 (.iaload) 1 1076 := ⟨by decide +kernel, rfl⟩
theorem D28_1076 : rDec M28 1076 (.aload_n 0) 1 1077 := ⟨by decide +kernel, rfl⟩
theorem D28_1077 : rDec M28 1077 (.iload 4) 2 1079 := ⟨by decide +kernel, rfl⟩
theorem D28_1079 : rDec M28 1079 (.iconst 3) 1 1080 := ⟨by decide +kernel, rfl⟩
theorem D28_1080 : rDec M28 1080 (.iadd) 1 1081 := ⟨by decide +kernel, rfl⟩
theorem D28_1081 : rDec M28 1081 (.iaload) 1 1082 := ⟨by decide +kernel, rfl⟩
theorem D28_1082 : rDec M28 1082 (.aload_n 3) 1 1083 := ⟨by decide +kernel, rfl⟩
theorem D28_1083 : rDec M28 1083 (.invokestatic 163) 3 1086 := ⟨by decide +kernel, rfl⟩
theorem D28_1086 : rDec M28 1086 (.istore 5) 2 1088 := ⟨by decide +kernel, rfl⟩
theorem D28_1088 : rDec M28 1088 (.aload_n 2) 1 1089 := ⟨by decide +kernel, rfl⟩
theorem D28_1089 : rDec M28 1089 (.aload_n 0) 1 1090 := ⟨by decide +kernel, rfl⟩
theorem D28_1090 : rDec M28 1090 (.iload 4) 2 1092 := ⟨by decide +kernel, rfl⟩
theorem D28_1092 : rDec M28 1092 (.iconst 1) 1 1093 := ⟨by decide +kernel, rfl⟩
theorem D28_1093 : rDec M28 1093 (.iadd) 1 1094 := ⟨by decide +kernel, rfl⟩
theorem D28_1094 : rDec M28 1094 (.iaload) 1 1095 := ⟨by decide +kernel, rfl⟩
theorem D28_1095 : rDec M28 1095 (.aload_n 0) 1 1096 := ⟨by decide +kernel, rfl⟩
theorem D28_1096 : rDec M28 1096 (.iload 4) 2 1098 := ⟨by decide +kernel, rfl⟩
theorem D28_1098 : rDec M28 1098 (.iconst 2) 1 1099 := ⟨by decide +kernel, rfl⟩
theorem D28_1099 : rDec M28 1099 (.iadd) 1 1100 := ⟨by decide +kernel, rfl⟩
theorem D28_1100 : rDec M28 1100 (.iaload) 1 1101 := ⟨by decide +kernel, rfl⟩
theorem D28_1101 : rDec M28 1101 (.aload_n 0) 1 1102 := ⟨by decide +kernel, rfl⟩
theorem D28_1102 : rDec M28 1102 (.iload 4) 2 1104 := ⟨by decide +kernel, rfl⟩
theorem D28_1104 : rDec M28 1104 (.iconst 3) 1 1105 := ⟨by decide +kernel, rfl⟩
theorem D28_1105 : rDec M28 1105 (.iadd) 1 1106 := ⟨by decide +kernel, rfl⟩
theorem D28_1106 : rDec M28 1106 (.iaload) 1 1107 := ⟨by decide +kernel, rfl⟩
theorem D28_1107 : rDec M28 1107 (.invokevirtual 165) 3 1110 := ⟨by decide +kernel, rfl⟩
theorem D28_1110 : rDec M28 1110 (.istore 6) 2 1112 := ⟨by decide +kernel, rfl⟩
theorem D28_1112 : rDec M28 1112 (.aload_n 2) 1 1113 := ⟨by decide +kernel, rfl⟩
theorem D28_1113 : rDec M28 1113 (.invokevirtual 124) 3 1116 := ⟨by decide +kernel, rfl⟩
theorem D28_1116 : rDec M28 1116 (.iload 5) 2 1118 := ⟨by decide +kernel, rfl⟩
theorem D28_1118 : rDec M28 1118 (.if_icmp .eq 5) 3 1121 := ⟨by decide +kernel, rfl⟩
theorem D28_1123 : rDec M28 1123 (.iload 5) 2 1125 := ⟨by decide +kernel, rfl⟩
theorem D28_1125 : rDec M28 1125 (.ifCond .ne 15) 3 1128 := ⟨by decide +kernel, rfl⟩
theorem D28_1140 : rDec M28 1140 (.goto 1204) 3 1143 := ⟨by decide +kernel, rfl⟩
theorem D28_1143 : rDec M28 1143 (.aload_n 1) 1 1144 := ⟨by decide +kernel, rfl⟩
theorem D28_1144 : rDec M28 1144 (.aload_n 0) 1 1145 := ⟨by decide +kernel, rfl⟩
theorem D28_1145 : rDec M28 1145 (.iload 4) 2 1147 := ⟨by decide +kernel, rfl⟩
theorem D28_1147 : rDec M28 1147 (.iconst 1) 1 1148 := ⟨by decide +kernel, rfl⟩
theorem D28_1148 : rDec M28 1148 (.iadd) 1 1149 := ⟨by decide +kernel, rfl⟩
theorem D28_1149 : rDec M28 1149 (.iaload) 1 1150 := ⟨by decide +kernel, rfl⟩
theorem D28_1150 : rDec M28 1150 (.aload_n 0) 1 1151 := ⟨by decide +kernel, rfl⟩
theorem D28_1151 : rDec M28 1151 (.iload 4) 2 1153 := ⟨by decide +kernel, rfl⟩
theorem D28_1153 : rDec M28 1153 (.iconst 2) 1 1154 := ⟨by decide +kernel, rfl⟩
theorem D28_1154 : rDec M28 1154 (.iadd) 1 1155 := ⟨by decide +kernel, rfl⟩
theorem D28_1155 : rDec M28 1155 (.iaload) 1 1156 := ⟨by decide +kernel, rfl⟩
theorem D28_1156 : rDec M28 1156 (.aload_n 0) 1 1157 := ⟨by decide +kernel, rfl⟩
theorem D28_1157 : rDec M28 1157 (.iload 4) 2 1159 := ⟨by decide +kernel, rfl⟩
theorem D28_1159 : rDec M28 1159 (.iconst 3) 1 1160 := ⟨by decide +kernel, rfl⟩
theorem D28_1160 : rDec M28 1160 (.iadd) 1 1161 := ⟨by decide +kernel, rfl⟩
theorem D28_1161 : rDec M28 1161 (.iaload) 1 1162 := ⟨by decide +kernel, rfl⟩
theorem D28_1162 : rDec M28 1162 (.aload_n 3) 1 1163 := ⟨by decide +kernel, rfl⟩
theorem D28_1163 : rDec M28 1163 (.invokestatic 166) 3 1166 := ⟨by decide +kernel, rfl⟩
theorem D28_1166 : rDec M28 1166 (.istore 5) 2 1168 := ⟨by decide +kernel, rfl⟩
theorem D28_1168 : rDec M28 1168 (.aload_n 2) 1 1169 := ⟨by decide +kernel, rfl⟩
theorem D28_1169 : rDec M28 1169 (.aload_n 0) 1 1170 := ⟨by decide +kernel, rfl⟩
theorem D28_1170 : rDec M28 1170 (.iload 4) 2 1172 := ⟨by decide +kernel, rfl⟩
theorem D28_1172 : rDec M28 1172 (.iconst 1) 1 1173 := ⟨by decide +kernel, rfl⟩
theorem D28_1173 : rDec M28 1173 (.iadd) 1 1174 := ⟨by decide +kernel, rfl⟩
theorem D28_1174 : rDec M28 1174 (.iaload) 1 1175 := ⟨by decide +kernel, rfl⟩
theorem D28_1175 : rDec M28 1175 (.aload_n 0) 1 1176 := ⟨by decide +kernel, rfl⟩
theorem D28_1176 : rDec M28 1176 (.iload 4) 2 1178 := ⟨by decide +kernel, rfl⟩
theorem D28_1178 : rDec M28 1178 (.iconst 2) 1 1179 := ⟨by decide +kernel, rfl⟩
theorem D28_1179 : rDec M28 1179 (.iadd) 1 1180 := ⟨by decide +kernel, rfl⟩
theorem D28_1180 : rDec M28 1180 (.iaload) 1 1181 := ⟨by decide +kernel, rfl⟩
theorem D28_1181 : rDec M28 1181 (.aload_n 0) 1 1182 := ⟨by decide +kernel, rfl⟩
theorem D28_1182 : rDec M28 1182 (.iload 4) 2 1184 := ⟨by decide +kernel, rfl⟩
theorem D28_1184 : rDec M28 1184 (.iconst 3) 1 1185 := ⟨by decide +kernel, rfl⟩
theorem D28_1185 : rDec M28 1185 (.iadd) 1 1186 := ⟨by decide +kernel, rfl⟩
theorem D28_1186 : rDec M28 1186 (.iaload) 1 1187 := ⟨by decide +kernel, rfl⟩
theorem D28_1187 : rDec M28 1187 (.invokevirtual 168) 3 1190 := ⟨by decide +kernel, rfl⟩
theorem D28_1190 : rDec M28 1190 (.istore 6) 2 1192 := ⟨by decide +kernel, rfl⟩
theorem D28_1192 : rDec M28 1192 (.aload_n 2) 1 1193 := ⟨by decide +kernel, rfl⟩
theorem D28_1193 : rDec M28 1193 (.invokevirtual 124) 3 1196 := ⟨by decide +kernel, rfl⟩
theorem D28_1196 : rDec M28 1196 (.iload 5) 2 1198 := ⟨by decide +kernel, rfl⟩
theorem D28_1198 : rDec M28 1198 (.if_icmp .eq 5) 3 1201 := ⟨by decide +kernel, rfl⟩
theorem D28_1203 : rDec M28 1203 (.iload 5) 2 1205 := ⟨by decide +kernel, rfl⟩
theorem D28_1205 : rDec M28 1205 (.ifCond .ne 15) 3 1208 := ⟨by decide +kernel, rfl⟩
theorem D28_1208 : rDec M28 1208 (.aload_n 3) 1 1209 := ⟨by decide +kernel, rfl⟩
theorem D28_1209 : rDec M28 1209 (.iconst 0) 1 1210 := ⟨by decide +kernel, rfl⟩
theorem D28_1210 : rDec M28 1210 (.laload) 1 1211 := ⟨by decide +kernel, rfl⟩
theorem D28_1211 : rDec M28 1211 (.iload 6) 2 1213 := ⟨by decide +kernel, rfl⟩
theorem D28_1213 : rDec M28 1213 (.i2l) 1 1214 := ⟨by decide +kernel, rfl⟩
theorem D28_1214 : rDec M28 1214 (.lcmp) 1 1215 := ⟨by decide +kernel, rfl⟩
theorem D28_1215 : rDec M28 1215 (.ifCond .eq 5) 3 1218 := ⟨by decide +kernel, rfl⟩
theorem D28_1220 : rDec M28 1220 (.goto 1124) 3 1223 := ⟨by decide +kernel, rfl⟩
theorem D28_1223 : rDec M28 1223 (.aload_n 1) 1 1224 := ⟨by decide +kernel, rfl⟩
theorem D28_1224 : rDec M28 1224 (.aload_n 3) 1 1225 := ⟨by decide +kernel, rfl⟩
theorem D28_1225 : rDec M28 1225 (.invokestatic 169) 3 1228 := ⟨by decide +kernel, rfl⟩
theorem D28_1228 : rDec M28 1228 (.istore 5) 2 1230 := ⟨by decide +kernel, rfl⟩
theorem D28_1230 : rDec M28 1230 (.aload_n 2) 1 1231 := ⟨by decide +kernel, rfl⟩
theorem D28_1231 : rDec M28 1231 (.invokevirtual 171) 3 1234 := ⟨by decide +kernel, rfl⟩
theorem D28_1234 : rDec M28 1234 (.istore 6) 2 1236 := ⟨by decide +kernel, rfl⟩
theorem D28_1236 : rDec M28 1236 (.aload_n 2) 1 1237 := ⟨by decide +kernel, rfl⟩
theorem D28_1237 : rDec M28 1237 (.invokevirtual 124) 3 1240 := ⟨by decide +kernel, rfl⟩
theorem D28_1240 : rDec M28 1240 (.iload 5) 2 1242 := ⟨by decide +kernel, rfl⟩
theorem D28_1242 : rDec M28 1242 (.if_icmp .eq 5) 3 1245 := ⟨by decide +kernel, rfl⟩
theorem D28_1247 : rDec M28 1247 (.iload 5) 2 1249 := ⟨by decide +kernel, rfl⟩
theorem D28_1249 : rDec M28 1249 (.ifCond .ne 15) 3 1252 := ⟨by decide +kernel, rfl⟩
theorem D28_1252 : rDec M28 1252 (.aload_n 3) 1 1253 := ⟨by decide +kernel, rfl⟩
theorem D28_1253 : rDec M28 1253 (.iconst 0) 1 1254 := ⟨by decide +kernel, rfl⟩
theorem D28_1254 : rDec M28 1254 (.laload) 1 1255 := ⟨by decide +kernel, rfl⟩
theorem D28_1255 : rDec M28 1255 (.iload 6) 2 1257 := ⟨by decide +kernel, rfl⟩
theorem D28_1257 : rDec M28 1257 (.i2l) 1 1258 := ⟨by decide +kernel, rfl⟩
theorem D28_1258 : rDec M28 1258 (.lcmp) 1 1259 := ⟨by decide +kernel, rfl⟩
theorem D28_1259 : rDec M28 1259 (.ifCond .eq 5) 3 1262 := ⟨by decide +kernel, rfl⟩
theorem D28_1264 : rDec M28 1264 (.goto 1080) 3 1267 := ⟨by decide +kernel, rfl⟩
theorem D28_1267 : rDec M28 1267 (.aload_n 1) 1 1268 := ⟨by decide +kernel, rfl⟩
theorem D28_1268 : rDec M28 1268 (.aload_n 0) 1 1269 := ⟨by decide +kernel, rfl⟩
theorem D28_1269 : rDec M28 1269 (.iload 4) 2 1271 := ⟨by decide +kernel, rfl⟩
theorem D28_1271 : rDec M28 1271 (.iconst 1) 1 1272 := ⟨by decide +kernel, rfl⟩
theorem D28_1272 : rDec M28 1272 (.iadd) 1 1273 := ⟨by decide +kernel, rfl⟩
theorem D28_1273 : rDec M28 1273 (.iaload) 1 1274 := ⟨by decide +kernel, rfl⟩
theorem D28_1274 : rDec M28 1274 (.aload_n 0) 1 1275 := ⟨by decide +kernel, rfl⟩
theorem D28_1275 : rDec M28 1275 (.iload 4) 2 1277 := ⟨by decide +kernel, rfl⟩
theorem D28_1277 : rDec M28 1277 (.iconst 2) 1 1278 := ⟨by decide +kernel, rfl⟩
theorem D28_1278 : rDec M28 1278 (.iadd) 1 1279 := ⟨by decide +kernel, rfl⟩
theorem D28_1279 : rDec M28 1279 (.iaload) 1 1280 := ⟨by decide +kernel, rfl⟩
theorem D28_1280 : rDec M28 1280 (.aload_n 0) 1 1281 := ⟨by decide +kernel, rfl⟩
theorem D28_1281 : rDec M28 1281 (.iload 4) 2 1283 := ⟨by decide +kernel, rfl⟩
theorem D28_1283 : rDec M28 1283 (.iconst 3) 1 1284 := ⟨by decide +kernel, rfl⟩
theorem D28_1284 : rDec M28 1284 (.iadd) 1 1285 := ⟨by decide +kernel, rfl⟩
theorem D28_1285 : rDec M28 1285 (.iaload) 1 1286 := ⟨by decide +kernel, rfl⟩
theorem D28_1286 : rDec M28 1286 (.aload_n 3) 1 1287 := ⟨by decide +kernel, rfl⟩
theorem D28_1287 : rDec M28 1287 (.invokestatic 172) 3 1290 := ⟨by decide +kernel, rfl⟩
theorem D28_1290 : rDec M28 1290 (.istore 5) 2 1292 := ⟨by decide +kernel, rfl⟩
theorem D28_1292 : rDec M28 1292 (.aload_n 2) 1 1293 := ⟨by decide +kernel, rfl⟩
theorem D28_1293 : rDec M28 1293 (.aload_n 0) 1 1294 := ⟨by decide +kernel, rfl⟩
theorem D28_1294 : rDec M28 1294 (.iload 4) 2 1296 := ⟨by decide +kernel, rfl⟩
theorem D28_1296 : rDec M28 1296 (.iconst 1) 1 1297 := ⟨by decide +kernel, rfl⟩
theorem D28_1297 : rDec M28 1297 (.iadd) 1 1298 := ⟨by decide +kernel, rfl⟩
theorem D28_1298 : rDec M28 1298 (.iaload) 1 1299 := ⟨by decide +kernel, rfl⟩
theorem D28_1299 : rDec M28 1299 (.aload_n 0) 1 1300 := ⟨by decide +kernel, rfl⟩
theorem D28_1300 : rDec M28 1300 (.iload 4) 2 1302 := ⟨by decide +kernel, rfl⟩
theorem D28_1302 : rDec M28 1302 (.iconst 2) 1 1303 := ⟨by decide +kernel, rfl⟩
theorem D28_1303 : rDec M28 1303 (.iadd) 1 1304 := ⟨by decide +kernel, rfl⟩
theorem D28_1304 : rDec M28 1304 (.iaload) 1 1305 := ⟨by decide +kernel, rfl⟩
theorem D28_1305 : rDec M28 1305 (.aload_n 0) 1 1306 := ⟨by decide +kernel, rfl⟩
theorem D28_1306 : rDec M28 1306 (.iload 4) 2 1308 := ⟨by decide +kernel, rfl⟩
theorem D28_1308 : rDec M28 1308 (.iconst 3) 1 1309 := ⟨by decide +kernel, rfl⟩
theorem D28_1309 : rDec M28 1309 (.iadd) 1 1310 := ⟨by decide +kernel, rfl⟩
theorem D28_1310 : rDec M28 1310 (.iaload) 1 1311 := ⟨by decide +kernel, rfl⟩
theorem D28_1311 : rDec M28 1311 (.invokevirtual 174) 3 1314 := ⟨by decide +kernel, rfl⟩
theorem D28_1314 : rDec M28 1314 (.istore 6) 2 1316 := ⟨by decide +kernel, rfl⟩
theorem D28_1316 : rDec M28 1316 (.aload_n 2) 1 1317 := ⟨by decide +kernel, rfl⟩
theorem D28_1317 : rDec M28 1317 (.invokevirtual 124) 3 1320 := ⟨by decide +kernel, rfl⟩
theorem D28_1320 : rDec M28 1320 (.iload 5) 2 1322 := ⟨by decide +kernel, rfl⟩
theorem D28_1322 : rDec M28 1322 (.if_icmp .eq 5) 3 1325 := ⟨by decide +kernel, rfl⟩
theorem D28_1327 : rDec M28 1327 (.iload 5) 2 1329 := ⟨by decide +kernel, rfl⟩
theorem D28_1329 : rDec M28 1329 (.ifCond .ne 15) 3 1332 := ⟨by decide +kernel, rfl⟩
theorem D28_1344 : rDec M28 1344 (.goto 1000) 3 1347 := ⟨by decide +kernel, rfl⟩
theorem D28_1347 : rDec M28 1347 (.aload_n 1) 1 1348 := ⟨by decide +kernel, rfl⟩
theorem D28_1348 : rDec M28 1348 (.aload_n 3) 1 1349 := ⟨by decide +kernel, rfl⟩
theorem D28_1349 : rDec M28 1349 (.invokestatic 175) 3 1352 := ⟨by decide +kernel, rfl⟩
theorem D28_1352 : rDec M28 1352 (.istore 5) 2 1354 := ⟨by decide +kernel, rfl⟩
theorem D28_1354 : rDec M28 1354 (.aload_n 2) 1 1355 := ⟨by decide +kernel, rfl⟩
theorem D28_1355 : rDec M28 1355 (.invokevirtual 177) 3 1358 := ⟨by decide +kernel, rfl⟩
theorem D28_1358 : rDec M28 1358 (.istore 6) 2 1360 := ⟨by decide +kernel, rfl⟩
theorem D28_1360 : rDec M28 1360 (.aload_n 2) 1 1361 := ⟨by decide +kernel, rfl⟩
theorem D28_1361 : rDec M28 1361 (.invokevirtual 124) 3 1364 := ⟨by decide +kernel, rfl⟩
theorem D28_1364 : rDec M28 1364 (.iload 5) 2 1366 := ⟨by decide +kernel, rfl⟩
theorem D28_1366 : rDec M28 1366 (.if_icmp .eq 5) 3 1369 := ⟨by decide +kernel, rfl⟩
theorem D28_1371 : rDec M28 1371 (.iload 5) 2 1373 := ⟨by decide +kernel, rfl⟩
theorem D28_1373 : rDec M28 1373 (.ifCond .ne 15) 3 1376 := ⟨by decide +kernel, rfl⟩
theorem D28_1388 : rDec M28 1388 (.goto 956) 3 1391 := ⟨by decide +kernel, rfl⟩
theorem D28_1391 : rDec M28 1391 (.aload_n 1) 1 1392 := ⟨by decide +kernel, rfl⟩
theorem D28_1392 : rDec M28 1392 (.aload_n 0) 1 1393 := ⟨by decide +kernel, rfl⟩
theorem D28_1393 : rDec M28 1393 (.iload 4) 2 1395 := ⟨by decide +kernel, rfl⟩
theorem D28_1395 : rDec M28 1395 (.iconst 1) 1 1396 := ⟨by decide +kernel, rfl⟩
theorem D28_1396 : rDec M28 1396 (.iadd) 1 1397 := ⟨by decide +kernel, rfl⟩
theorem D28_1397 : rDec M28 1397 (.iaload) 1 1398 := ⟨by decide +kernel, rfl⟩
theorem D28_1398 : rDec M28 1398 (.aload_n 3) 1 1399 := ⟨by decide +kernel, rfl⟩
theorem D28_1399 : rDec M28 1399 (.invokestatic 178) 3 1402 := ⟨by decide +kernel, rfl⟩
theorem D28_1402 : rDec M28 1402 (.istore 5) 2 1404 := ⟨by decide +kernel, rfl⟩
theorem D28_1404 : rDec M28 1404 (.aload_n 2) 1 1405 := ⟨by decide +kernel, rfl⟩
theorem D28_1405 : rDec M28 1405 (.aload_n 0) 1 1406 := ⟨by decide +kernel, rfl⟩
theorem D28_1406 : rDec M28 1406 (.iload 4) 2 1408 := ⟨by decide +kernel, rfl⟩
theorem D28_1408 : rDec M28 1408 (.iconst 1) 1 1409 := ⟨by decide +kernel, rfl⟩
theorem D28_1409 : rDec M28 1409 (.iadd) 1 1410 := ⟨by decide +kernel, rfl⟩
theorem D28_1410 : rDec M28 1410 (.iaload) 1 1411 := ⟨by decide +kernel, rfl⟩
theorem D28_1411 : rDec M28 1411 (.invokevirtual 181) 3 1414 := ⟨by decide +kernel, rfl⟩
theorem D28_1414 : rDec M28 1414 (.istore 6) 2 1416 := ⟨by decide +kernel, rfl⟩
theorem D28_1416 : rDec M28 1416 (.aload_n 2) 1 1417 := ⟨by decide +kernel, rfl⟩
theorem D28_1417 : rDec M28 1417 (.invokevirtual 124) 3 1420 := ⟨by decide +kernel, rfl⟩
theorem D28_1420 : rDec M28 1420 (.iload 5) 2 1422 := ⟨by decide +kernel, rfl⟩
theorem D28_1422 : rDec M28 1422 (.if_icmp .eq 5) 3 1425 := ⟨by decide +kernel, rfl⟩
theorem D28_1427 : rDec M28 1427 (.iload 5) 2 1429 := ⟨by decide +kernel, rfl⟩
theorem D28_1429 : rDec M28 1429 (.ifCond .ne 15) 3 1432 := ⟨by decide +kernel, rfl⟩
theorem D28_1432 : rDec M28 1432 (.aload_n 3) 1 1433 := ⟨by decide +kernel, rfl⟩
theorem D28_1433 : rDec M28 1433 (.iconst 0) 1 1434 := ⟨by decide +kernel, rfl⟩
theorem D28_1434 : rDec M28 1434 (.laload) 1 1435 := ⟨by decide +kernel, rfl⟩
theorem D28_1435 : rDec M28 1435 (.iload 6) 2 1437 := ⟨by decide +kernel, rfl⟩
theorem D28_1437 : rDec M28 1437 (.i2l) 1 1438 := ⟨by decide +kernel, rfl⟩
theorem D28_1438 : rDec M28 1438 (.lcmp) 1 1439 := ⟨by decide +kernel, rfl⟩
theorem D28_1439 : rDec M28 1439 (.ifCond .eq 5) 3 1442 := ⟨by decide +kernel, rfl⟩
theorem D28_1444 : rDec M28 1444 (.goto 900) 3 1447 := ⟨by decide +kernel, rfl⟩
theorem D28_1447 : rDec M28 1447 (.aload_n 1) 1 1448 := ⟨by decide +kernel, rfl⟩
theorem D28_1448 : rDec M28 1448 (.invokevirtual 182) 3 1451 := ⟨by decide +kernel, rfl⟩
theorem D28_1451 : rDec M28 1451 (.aload_n 2) 1 1452 := ⟨by decide +kernel, rfl⟩
theorem D28_1452 : rDec M28 1452 (.invokevirtual 185) 3 1455 := ⟨by decide +kernel, rfl⟩
theorem D28_1455 : rDec M28 1455 (.if_icmp .eq 889) 3 1458 := ⟨by decide +kernel, rfl⟩
theorem D28_1460 : rDec M28 1460 (.aload_n 1) 1 1461 := ⟨by decide +kernel, rfl⟩
theorem D28_1461 : rDec M28 1461 (.aload_n 3) 1 1462 := ⟨by decide +kernel, rfl⟩
theorem D28_1462 : rDec M28 1462 (.invokestatic 186) 3 1465 := ⟨by decide +kernel, rfl⟩
theorem D28_1465 : rDec M28 1465 (.istore 5) 2 1467 := ⟨by decide +kernel, rfl⟩
theorem D28_1467 : rDec M28 1467 (.aload_n 2) 1 1468 := ⟨by decide +kernel, rfl⟩
theorem D28_1468 : rDec M28 1468 (.invokevirtual 188) 3 1471 := ⟨by decide +kernel, rfl⟩
theorem D28_1471 : rDec M28 1471 (.istore 6) 2 1473 := ⟨by decide +kernel, rfl⟩
theorem D28_1473 : rDec M28 1473 (.aload_n 2) 1 1474 := ⟨by decide +kernel, rfl⟩
theorem D28_1474 : rDec M28 1474 (.invokevirtual 124) 3 1477 := ⟨by decide +kernel, rfl⟩
theorem D28_1477 : rDec M28 1477 (.iload 5) 2 1479 := ⟨by decide +kernel, rfl⟩
theorem D28_1479 : rDec M28 1479 (.if_icmp .eq 5) 3 1482 := ⟨by decide +kernel, rfl⟩
theorem D28_1484 : rDec M28 1484 (.iload 5) 2 1486 := ⟨by decide +kernel, rfl⟩
theorem D28_1486 : rDec M28 1486 (.ifCond .ne 15) 3 1489 := ⟨by decide +kernel, rfl⟩
theorem D28_1489 : rDec M28 1489 (.aload_n 3) 1 1490 := ⟨by decide +kernel, rfl⟩
theorem D28_1490 : rDec M28 1490 (.iconst 0) 1 1491 := ⟨by decide +kernel, rfl⟩
theorem D28_1491 : rDec M28 1491 (.laload) 1 1492 := ⟨by decide +kernel, rfl⟩
theorem D28_1492 : rDec M28 1492 (.iload 6) 2 1494 := ⟨by decide +kernel, rfl⟩
theorem D28_1494 : rDec M28 1494 (.i2l) 1 1495 := ⟨by decide +kernel, rfl⟩
theorem D28_1495 : rDec M28 1495 (.lcmp) 1 1496 := ⟨by decide +kernel, rfl⟩
theorem D28_1496 : rDec M28 1496 (.ifCond .eq 5) 3 1499 := ⟨by decide +kernel, rfl⟩
theorem D28_1501 : rDec M28 1501 (.goto 843) 3 1504 := ⟨by decide +kernel, rfl⟩
theorem D28_1504 : rDec M28 1504 (.aload_n 1) 1 1505 := ⟨by decide +kernel, rfl⟩
theorem D28_1505 : rDec M28 1505 (.aload_n 0) 1 1506 := ⟨by decide +kernel, rfl⟩
theorem D28_1506 : rDec M28 1506 (.iload 4) 2 1508 := ⟨by decide +kernel, rfl⟩
theorem D28_1508 : rDec M28 1508 (.iconst 1) 1 1509 := ⟨by decide +kernel, rfl⟩
theorem D28_1509 : rDec M28 1509 (.iadd) 1 1510 := ⟨by decide +kernel, rfl⟩
theorem D28_1510 : rDec M28 1510 (.iaload) 1 1511 := ⟨by decide +kernel, rfl⟩
theorem D28_1511 : rDec M28 1511 (.aload_n 0) 1 1512 := ⟨by decide +kernel, rfl⟩
theorem D28_1512 : rDec M28 1512 (.iload 4) 2 1514 := ⟨by decide +kernel, rfl⟩
theorem D28_1514 : rDec M28 1514 (.iconst 2) 1 1515 := ⟨by decide +kernel, rfl⟩
theorem D28_1515 : rDec M28 1515 (.iadd) 1 1516 := ⟨by decide +kernel, rfl⟩
theorem D28_1516 : rDec M28 1516 (.iaload) 1 1517 := ⟨by decide +kernel, rfl⟩
theorem D28_1517 : rDec M28 1517 (.aload_n 0) 1 1518 := ⟨by decide +kernel, rfl⟩
theorem D28_1518 : rDec M28 1518 (.iload 4) 2 1520 := ⟨by decide +kernel, rfl⟩
theorem D28_1520 : rDec M28 1520 (.iconst 3) 1 1521 := ⟨by decide +kernel, rfl⟩
theorem D28_1521 : rDec M28 1521 (.iadd) 1 1522 := ⟨by decide +kernel, rfl⟩
theorem D28_1522 : rDec M28 1522 (.iaload) 1 1523 := ⟨by decide +kernel, rfl⟩
theorem D28_1523 : rDec M28 1523 (.aload_n 3) 1 1524 := ⟨by decide +kernel, rfl⟩
theorem D28_1524 : rDec M28 1524 (.invokestatic 189) 3 1527 := ⟨by decide +kernel, rfl⟩
theorem D28_1527 : rDec M28 1527 (.istore 5) 2 1529 := ⟨by decide +kernel, rfl⟩
theorem D28_1529 : rDec M28 1529 (.aload_n 2) 1 1530 := ⟨by decide +kernel, rfl⟩
theorem D28_1530 : rDec M28 1530 (.aload_n 0) 1 1531 := ⟨by decide +kernel, rfl⟩
theorem D28_1531 : rDec M28 1531 (.iload 4) 2 1533 := ⟨by decide +kernel, rfl⟩
theorem D28_1533 : rDec M28 1533 (.iconst 1) 1 1534 := ⟨by decide +kernel, rfl⟩
theorem D28_1534 : rDec M28 1534 (.iadd) 1 1535 := ⟨by decide +kernel, rfl⟩
theorem D28_1535 : rDec M28 1535 (.iaload) 1 1536 := ⟨by decide +kernel, rfl⟩
theorem D28_1536 : rDec M28 1536 (.aload_n 0) 1 1537 := ⟨by decide +kernel, rfl⟩
theorem D28_1537 : rDec M28 1537 (.iload 4) 2 1539 := ⟨by decide +kernel, rfl⟩
theorem D28_1539 : rDec M28 1539 (.iconst 2) 1 1540 := ⟨by decide +kernel, rfl⟩
theorem D28_1540 : rDec M28 1540 (.iadd) 1 1541 := ⟨by decide +kernel, rfl⟩
theorem D28_1541 : rDec M28 1541 (.iaload) 1 1542 := ⟨by decide +kernel, rfl⟩
theorem D28_1542 : rDec M28 1542 (.aload_n 0) 1 1543 := ⟨by decide +kernel, rfl⟩
theorem D28_1543 : rDec M28 1543 (.iload 4) 2 1545 := ⟨by decide +kernel, rfl⟩
theorem D28_1545 : rDec M28 1545 (.iconst 3) 1 1546 := ⟨by decide +kernel, rfl⟩
theorem D28_1546 : rDec M28 1546 (.iadd) 1 1547 := ⟨by decide +kernel, rfl⟩
theorem D28_1547 : rDec M28 1547 (.iaload) 1 1548 := ⟨by decide +kernel, rfl⟩
theorem D28_1548 : rDec M28 1548 (.invokevirtual 191) 3 1551 := ⟨by decide +kernel, rfl⟩
theorem D28_1551 : rDec M28 1551 (.istore 6) 2 1553 := ⟨by decide +kernel, rfl⟩
theorem D28_1553 : rDec M28 1553 (.aload_n 2) 1 1554 := ⟨by decide +kernel, rfl⟩
theorem D28_1554 : rDec M28 1554 (.invokevirtual 124) 3 1557 := ⟨by decide +kernel, rfl⟩
theorem D28_1557 : rDec M28 1557 (.iload 5) 2 1559 := ⟨by decide +kernel, rfl⟩
theorem D28_1559 : rDec M28 1559 (.if_icmp .eq 5) 3 1562 := ⟨by decide +kernel, rfl⟩
theorem D28_1564 : rDec M28 1564 (.iload 5) 2 1566 := ⟨by decide +kernel, rfl⟩
theorem D28_1566 : rDec M28 1566 (.ifCond .ne 15) 3 1569 := ⟨by decide +kernel, rfl⟩
theorem D28_1581 : rDec M28 1581 (.goto 763) 3 1584 := ⟨by decide +kernel, rfl⟩
theorem D28_1584 : rDec M28 1584 (.aload_n 1) 1 1585 := ⟨by decide +kernel, rfl⟩
theorem D28_1585 : rDec M28 1585 (.aload_n 0) 1 1586 := ⟨by decide +kernel, rfl⟩
theorem D28_1586 : rDec M28 1586 (.iload 4) 2 1588 := ⟨by decide +kernel, rfl⟩
theorem D28_1588 : rDec M28 1588 (.iconst 1) 1 1589 := ⟨by decide +kernel, rfl⟩
theorem D28_1589 : rDec M28 1589 (.iadd) 1 1590 := ⟨by decide +kernel, rfl⟩
theorem D28_1590 : rDec M28 1590 (.iaload) 1 1591 := ⟨by decide +kernel, rfl⟩
theorem D28_1591 : rDec M28 1591 (.aload_n 0) 1 1592 := ⟨by decide +kernel, rfl⟩
theorem D28_1592 : rDec M28 1592 (.iload 4) 2 1594 := ⟨by decide +kernel, rfl⟩
theorem D28_1594 : rDec M28 1594 (.iconst 2) 1 1595 := ⟨by decide +kernel, rfl⟩
theorem D28_1595 : rDec M28 1595 (.iadd) 1 1596 := ⟨by decide +kernel, rfl⟩
theorem D28_1596 : rDec M28 1596 (.iaload) 1 1597 := ⟨by decide +kernel, rfl⟩
theorem D28_1597 : rDec M28 1597 (.aload_n 3) 1 1598 := ⟨by decide +kernel, rfl⟩
theorem D28_1598 : rDec M28 1598 (.invokestatic 192) 3 1601 := ⟨by decide +kernel, rfl⟩
theorem D28_1601 : rDec M28 1601 (.istore 5) 2 1603 := ⟨by decide +kernel, rfl⟩
theorem D28_1603 : rDec M28 1603 (.aload_n 2) 1 1604 := ⟨by decide +kernel, rfl⟩
theorem D28_1604 : rDec M28 1604 (.aload_n 0) 1 1605 := ⟨by decide +kernel, rfl⟩
theorem D28_1605 : rDec M28 1605 (.iload 4) 2 1607 := ⟨by decide +kernel, rfl⟩
theorem D28_1607 : rDec M28 1607 (.iconst 1) 1 1608 := ⟨by decide +kernel, rfl⟩
theorem D28_1608 : rDec M28 1608 (.iadd) 1 1609 := ⟨by decide +kernel, rfl⟩
theorem D28_1609 : rDec M28 1609 (.iaload) 1 1610 := ⟨by decide +kernel, rfl⟩
theorem D28_1610 : rDec M28 1610 (.aload_n 0) 1 1611 := ⟨by decide +kernel, rfl⟩
theorem D28_1611 : rDec M28 1611 (.iload 4) 2 1613 := ⟨by decide +kernel, rfl⟩
theorem D28_1613 : rDec M28 1613 (.iconst 2) 1 1614 := ⟨by decide +kernel, rfl⟩
theorem D28_1614 : rDec M28 1614 (.iadd) 1 1615 := ⟨by decide +kernel, rfl⟩
theorem D28_1615 : rDec M28 1615 (.iaload) 1 1616 := ⟨by decide +kernel, rfl⟩
theorem D28_1616 : rDec M28 1616 (.invokevirtual 194) 3 1619 := ⟨by decide +kernel, rfl⟩
theorem D28_1619 : rDec M28 1619 (.istore 6) 2 1621 := ⟨by decide +kernel, rfl⟩
theorem D28_1621 : rDec M28 1621 (.aload_n 2) 1 1622 := ⟨by decide +kernel, rfl⟩
theorem D28_1622 : rDec M28 1622 (.invokevirtual 124) 3 1625 := ⟨by decide +kernel, rfl⟩
theorem D28_1625 : rDec M28 1625 (.iload 5) 2 1627 := ⟨by decide +kernel, rfl⟩
theorem D28_1627 : rDec M28 1627 (.if_icmp .eq 5) 3 1630 := ⟨by decide +kernel, rfl⟩
theorem D28_1632 : rDec M28 1632 (.iload 5) 2 1634 := ⟨by decide +kernel, rfl⟩
theorem D28_1634 : rDec M28 1634 (.ifCond .ne 15) 3 1637 := ⟨by decide +kernel, rfl⟩
theorem D28_1637 : rDec M28 1637 (.aload_n 3) 1 1638 := ⟨by decide +kernel, rfl⟩
theorem D28_1638 : rDec M28 1638 (.iconst 0) 1 1639 := ⟨by decide +kernel, rfl⟩
theorem D28_1639 : rDec M28 1639 (.laload) 1 1640 := ⟨by decide +kernel, rfl⟩
theorem D28_1640 : rDec M28 1640 (.iload 6) 2 1642 := ⟨by decide +kernel, rfl⟩
theorem D28_1642 : rDec M28 1642 (.i2l) 1 1643 := ⟨by decide +kernel, rfl⟩
theorem D28_1643 : rDec M28 1643 (.lcmp) 1 1644 := ⟨by decide +kernel, rfl⟩
theorem D28_1644 : rDec M28 1644 (.ifCond .eq 5) 3 1647 := ⟨by decide +kernel, rfl⟩
theorem D28_1649 : rDec M28 1649 (.goto 695) 3 1652 := ⟨by decide +kernel, rfl⟩
theorem D28_1652 : rDec M28 1652 (.aload_n 1) 1 1653 := ⟨by decide +kernel, rfl⟩
theorem D28_1653 : rDec M28 1653 (.aload_n 0) 1 1654 := ⟨by decide +kernel, rfl⟩
theorem D28_1654 : rDec M28 1654 (.iload 4) 2 1656 := ⟨by decide +kernel, rfl⟩
theorem D28_1656 : rDec M28 1656 (.iconst 1) 1 1657 := ⟨by decide +kernel, rfl⟩
theorem D28_1657 : rDec M28 1657 (.iadd) 1 1658 := ⟨by decide +kernel, rfl⟩
theorem D28_1658 : rDec M28 1658 (.iaload) 1 1659 := ⟨by decide +kernel, rfl⟩
theorem D28_1659 : rDec M28 1659 (.aload_n 3) 1 1660 := ⟨by decide +kernel, rfl⟩
theorem D28_1660 : rDec M28 1660 (.invokestatic 195) 3 1663 := ⟨by decide +kernel, rfl⟩
theorem D28_1663 : rDec M28 1663 (.istore 5) 2 1665 := ⟨by decide +kernel, rfl⟩
theorem D28_1665 : rDec M28 1665 (.aload_n 2) 1 1666 := ⟨by decide +kernel, rfl⟩
theorem D28_1666 : rDec M28 1666 (.aload_n 0) 1 1667 := ⟨by decide +kernel, rfl⟩
theorem D28_1667 : rDec M28 1667 (.iload 4) 2 1669 := ⟨by decide +kernel, rfl⟩
theorem D28_1669 : rDec M28 1669 (.iconst 1) 1 1670 := ⟨by decide +kernel, rfl⟩
theorem D28_1670 : rDec M28 1670 (.iadd) 1 1671 := ⟨by decide +kernel, rfl⟩
theorem D28_1671 : rDec M28 1671 (.iaload) 1 1672 := ⟨by decide +kernel, rfl⟩
theorem D28_1672 : rDec M28 1672 (.invokevirtual 197) 3 1675 := ⟨by decide +kernel, rfl⟩
theorem D28_1675 : rDec M28 1675 (.istore 6) 2 1677 := ⟨by decide +kernel, rfl⟩
theorem D28_1677 : rDec M28 1677 (.aload_n 2) 1 1678 := ⟨by decide +kernel, rfl⟩
theorem D28_1678 : rDec M28 1678 (.invokevirtual 124) 3 1681 := ⟨by decide +kernel, rfl⟩
theorem D28_1681 : rDec M28 1681 (.iload 5) 2 1683 := ⟨by decide +kernel, rfl⟩
theorem D28_1683 : rDec M28 1683 (.if_icmp .eq 5) 3 1686 := ⟨by decide +kernel, rfl⟩
theorem D28_1688 : rDec M28 1688 (.iload 5) 2 1690 := ⟨by decide +kernel, rfl⟩
theorem D28_1690 : rDec M28 1690 (.ifCond .ne 15) 3 1693 := ⟨by decide +kernel, rfl⟩
theorem D28_1705 : rDec M28 1705 (.goto 639) 3 1708 := ⟨by decide +kernel, rfl⟩
theorem D28_1708 : rDec M28 1708 (.aload_n 1) 1 1709 := ⟨by decide +kernel, rfl⟩
theorem D28_1709 : rDec M28 1709 (.aload_n 0) 1 1710 := ⟨by decide +kernel, rfl⟩
theorem D28_1710 : rDec M28 1710 (.iload 4) 2 1712 := ⟨by decide +kernel, rfl⟩
theorem D28_1712 : rDec M28 1712 (.iconst 1) 1 1713 := ⟨by decide +kernel, rfl⟩
theorem D28_1713 : rDec M28 1713 (.iadd) 1 1714 := ⟨by decide +kernel, rfl⟩
theorem D28_1714 : rDec M28 1714 (.iaload) 1 1715 := ⟨by decide +kernel, rfl⟩
theorem D28_1715 : rDec M28 1715 (.aload_n 0) 1 1716 := ⟨by decide +kernel, rfl⟩
theorem D28_1716 : rDec M28 1716 (.iload 4) 2 1718 := ⟨by decide +kernel, rfl⟩
theorem D28_1718 : rDec M28 1718 (.iconst 2) 1 1719 := ⟨by decide +kernel, rfl⟩
theorem D28_1719 : rDec M28 1719 (.iadd) 1 1720 := ⟨by decide +kernel, rfl⟩
theorem D28_1720 : rDec M28 1720 (.iaload) 1 1721 := ⟨by decide +kernel, rfl⟩
theorem D28_1721 : rDec M28 1721 (.aload_n 3) 1 1722 := ⟨by decide +kernel, rfl⟩
theorem D28_1722 : rDec M28 1722 (.invokestatic 198) 3 1725 := ⟨by decide +kernel, rfl⟩
theorem D28_1725 : rDec M28 1725 (.istore 5) 2 1727 := ⟨by decide +kernel, rfl⟩
theorem D28_1727 : rDec M28 1727 (.aload_n 2) 1 1728 := ⟨by decide +kernel, rfl⟩
theorem D28_1728 : rDec M28 1728 (.aload_n 0) 1 1729 := ⟨by decide +kernel, rfl⟩
theorem D28_1729 : rDec M28 1729 (.iload 4) 2 1731 := ⟨by decide +kernel, rfl⟩
theorem D28_1731 : rDec M28 1731 (.iconst 1) 1 1732 := ⟨by decide +kernel, rfl⟩
theorem D28_1732 : rDec M28 1732 (.iadd) 1 1733 := ⟨by decide +kernel, rfl⟩
theorem D28_1733 : rDec M28 1733 (.iaload) 1 1734 := ⟨by decide +kernel, rfl⟩
theorem D28_1734 : rDec M28 1734 (.aload_n 0) 1 1735 := ⟨by decide +kernel, rfl⟩
theorem D28_1735 : rDec M28 1735 (.iload 4) 2 1737 := ⟨by decide +kernel, rfl⟩
theorem D28_1737 : rDec M28 1737 (.iconst 2) 1 1738 := ⟨by decide +kernel, rfl⟩
theorem D28_1738 : rDec M28 1738 (.iadd) 1 1739 := ⟨by decide +kernel, rfl⟩
theorem D28_1739 : rDec M28 1739 (.iaload) 1 1740 := ⟨by decide +kernel, rfl⟩
theorem D28_1740 : rDec M28 1740 (.invokevirtual 200) 3 1743 := ⟨by decide +kernel, rfl⟩
theorem D28_1743 : rDec M28 1743 (.istore 6) 2 1745 := ⟨by decide +kernel, rfl⟩
theorem D28_1745 : rDec M28 1745 (.aload_n 2) 1 1746 := ⟨by decide +kernel, rfl⟩
theorem D28_1746 : rDec M28 1746 (.invokevirtual 124) 3 1749 := ⟨by decide +kernel, rfl⟩
theorem D28_1749 : rDec M28 1749 (.iload 5) 2 1751 := ⟨by decide +kernel, rfl⟩
theorem D28_1751 : rDec M28 1751 (.if_icmp .eq 5) 3 1754 := ⟨by decide +kernel, rfl⟩
theorem D28_1756 : rDec M28 1756 (.iload 5) 2 1758 := ⟨by decide +kernel, rfl⟩
theorem D28_1758 : rDec M28 1758 (.ifCond .ne 15) 3 1761 := ⟨by decide +kernel, rfl⟩
theorem D28_1773 : rDec M28 1773 (.goto 571) 3 1776 := ⟨by decide +kernel, rfl⟩
theorem D28_1776 : rDec M28 1776 (.aload_n 1) 1 1777 := ⟨by decide +kernel, rfl⟩
theorem D28_1777 : rDec M28 1777 (.aload_n 0) 1 1778 := ⟨by decide +kernel, rfl⟩
theorem D28_1778 : rDec M28 1778 (.iload 4) 2 1780 := ⟨by decide +kernel, rfl⟩
theorem D28_1780 : rDec M28 1780 (.iconst 1) 1 1781 := ⟨by decide +kernel, rfl⟩
theorem D28_1781 : rDec M28 1781 (.iadd) 1 1782 := ⟨by decide +kernel, rfl⟩
theorem D28_1782 : rDec M28 1782 (.iaload) 1 1783 := ⟨by decide +kernel, rfl⟩
theorem D28_1783 : rDec M28 1783 (.aload_n 0) 1 1784 := ⟨by decide +kernel, rfl⟩
theorem D28_1784 : rDec M28 1784 (.iload 4) 2 1786 := ⟨by decide +kernel, rfl⟩
theorem D28_1786 : rDec M28 1786 (.iconst 2) 1 1787 := ⟨by decide +kernel, rfl⟩
theorem D28_1787 : rDec M28 1787 (.iadd) 1 1788 := ⟨by decide +kernel, rfl⟩
theorem D28_1788 : rDec M28 1788 (.iaload) 1 1789 := ⟨by decide +kernel, rfl⟩
theorem D28_1789 : rDec M28 1789 (.aload_n 3) 1 1790 := ⟨by decide +kernel, rfl⟩
theorem D28_1790 : rDec M28 1790 (.invokestatic 201) 3 1793 := ⟨by decide +kernel, rfl⟩
theorem D28_1793 : rDec M28 1793 (.istore 5) 2 1795 := ⟨by decide +kernel, rfl⟩
theorem D28_1795 : rDec M28 1795 (.aload_n 2) 1 1796 := ⟨by decide +kernel, rfl⟩
theorem D28_1796 : rDec M28 1796 (.aload_n 0) 1 1797 := ⟨by decide +kernel, rfl⟩
theorem D28_1797 : rDec M28 1797 (.iload 4) 2 1799 := ⟨by decide +kernel, rfl⟩
theorem D28_1799 : rDec M28 1799 (.iconst 1) 1 1800 := ⟨by decide +kernel, rfl⟩
theorem D28_1800 : rDec M28 1800 (.iadd) 1 1801 := ⟨by decide +kernel, rfl⟩
theorem D28_1801 : rDec M28 1801 (.iaload) 1 1802 := ⟨by decide +kernel, rfl⟩
theorem D28_1802 : rDec M28 1802 (.aload_n 0) 1 1803 := ⟨by decide +kernel, rfl⟩
theorem D28_1803 : rDec M28 1803 (.iload 4) 2 1805 := ⟨by decide +kernel, rfl⟩
theorem D28_1805 : rDec M28 1805 (.iconst 2) 1 1806 := ⟨by decide +kernel, rfl⟩
theorem D28_1806 : rDec M28 1806 (.iadd) 1 1807 := ⟨by decide +kernel, rfl⟩
theorem D28_1807 : rDec M28 1807 (.iaload) 1 1808 := ⟨by decide +kernel, rfl⟩
theorem D28_1808 : rDec M28 1808 (.invokevirtual 203) 3 1811 := ⟨by decide +kernel, rfl⟩
theorem D28_1811 : rDec M28 1811 (.istore 6) 2 1813 := ⟨by decide +kernel, rfl⟩
theorem D28_1813 : rDec M28 1813 (.aload_n 2) 1 1814 := ⟨by decide +kernel, rfl⟩
theorem D28_1814 : rDec M28 1814 (.invokevirtual 124) 3 1817 := ⟨by decide +kernel, rfl⟩
theorem D28_1817 : rDec M28 1817 (.iload 5) 2 1819 := ⟨by decide +kernel, rfl⟩
theorem D28_1819 : rDec M28 1819 (.if_icmp .eq 5) 3 1822 := ⟨by decide +kernel, rfl⟩
theorem D28_1824 : rDec M28 1824 (.iload 5) 2 1826 := ⟨by decide +kernel, rfl⟩
theorem D28_1826 : rDec M28 1826 (.ifCond .ne 15) 3 1829 := ⟨by decide +kernel, rfl⟩
theorem D28_1841 : rDec M28 1841 (.goto 503) 3 1844 := ⟨by decide +kernel, rfl⟩
theorem D28_1844 : rDec M28 1844 (.aload_n 1) 1 1845 := ⟨by decide +kernel, rfl⟩
theorem D28_1845 : rDec M28 1845 (.aload_n 0) 1 1846 := ⟨by decide +kernel, rfl⟩
theorem D28_1846 : rDec M28 1846 (.iload 4) 2 1848 := ⟨by decide +kernel, rfl⟩
theorem D28_1848 : rDec M28 1848 (.iconst 1) 1 1849 := ⟨by decide +kernel, rfl⟩
theorem D28_1849 : rDec M28 1849 (.iadd) 1 1850 := ⟨by decide +kernel, rfl⟩
theorem D28_1850 : rDec M28 1850 (.iaload) 1 1851 := ⟨by decide +kernel, rfl⟩
theorem D28_1851 : rDec M28 1851 (.aload_n 0) 1 1852 := ⟨by decide +kernel, rfl⟩
theorem D28_1852 : rDec M28 1852 (.iload 4) 2 1854 := ⟨by decide +kernel, rfl⟩
theorem D28_1854 : rDec M28 1854 (.iconst 2) 1 1855 := ⟨by decide +kernel, rfl⟩
theorem D28_1855 : rDec M28 1855 (.iadd) 1 1856 := ⟨by decide +kernel, rfl⟩
theorem D28_1856 : rDec M28 1856 (.iaload) 1 1857 := ⟨by decide +kernel, rfl⟩
theorem D28_1857 : rDec M28 1857 (.aload_n 0) 1 1858 := ⟨by decide +kernel, rfl⟩
theorem D28_1858 : rDec M28 1858 (.iload 4) 2 1860 := ⟨by decide +kernel, rfl⟩
theorem D28_1860 : rDec M28 1860 (.iconst 3) 1 1861 := ⟨by decide +kernel, rfl⟩
theorem D28_1861 : rDec M28 1861 (.iadd) 1 1862 := ⟨by decide +kernel, rfl⟩
theorem D28_1862 : rDec M28 1862 (.iaload) 1 1863 := ⟨by decide +kernel, rfl⟩
theorem D28_1863 : rDec M28 1863 (.aload_n 0) 1 1864 := ⟨by decide +kernel, rfl⟩
theorem D28_1864 : rDec M28 1864 (.iload 4) 2 1866 := ⟨by decide +kernel, rfl⟩
theorem D28_1866 : rDec M28 1866 (.iconst 4) 1 1867 := ⟨by decide +kernel, rfl⟩
theorem D28_1867 : rDec M28 1867 (.iadd) 1 1868 := ⟨by decide +kernel, rfl⟩
theorem D28_1868 : rDec M28 1868 (.iaload) 1 1869 := ⟨by decide +kernel, rfl⟩
theorem D28_1869 : rDec M28 1869 (.aload_n 3) 1 1870 := ⟨by decide +kernel, rfl⟩
theorem D28_1870 : rDec M28 1870 (.invokestatic 204) 3 1873 := ⟨by decide +kernel, rfl⟩
theorem D28_1873 : rDec M28 1873 (.istore 5) 2 1875 := ⟨by decide +kernel, rfl⟩
theorem D28_1875 : rDec M28 1875 (.aload_n 2) 1 1876 := ⟨by decide +kernel, rfl⟩
theorem D28_1876 : rDec M28 1876 (.aload_n 0) 1 1877 := ⟨by decide +kernel, rfl⟩
theorem D28_1877 : rDec M28 1877 (.iload 4) 2 1879 := ⟨by decide +kernel, rfl⟩
theorem D28_1879 : rDec M28 1879 (.iconst 1) 1 1880 := ⟨by decide +kernel, rfl⟩
theorem D28_1880 : rDec M28 1880 (.iadd) 1 1881 := ⟨by decide +kernel, rfl⟩
theorem D28_1881 : rDec M28 1881 (.iaload) 1 1882 := ⟨by decide +kernel, rfl⟩
theorem D28_1882 : rDec M28 1882 (.aload_n 0) 1 1883 := ⟨by decide +kernel, rfl⟩
theorem D28_1883 : rDec M28 1883 (.iload 4) 2 1885 := ⟨by decide +kernel, rfl⟩
theorem D28_1885 : rDec M28 1885 (.iconst 2) 1 1886 := ⟨by decide +kernel, rfl⟩
theorem D28_1886 : rDec M28 1886 (.iadd) 1 1887 := ⟨by decide +kernel, rfl⟩
theorem D28_1887 : rDec M28 1887 (.iaload) 1 1888 := ⟨by decide +kernel, rfl⟩
theorem D28_1888 : rDec M28 1888 (.aload_n 0) 1 1889 := ⟨by decide +kernel, rfl⟩
theorem D28_1889 : rDec M28 1889 (.iload 4) 2 1891 := ⟨by decide +kernel, rfl⟩
theorem D28_1891 : rDec M28 1891 (.iconst 3) 1 1892 := ⟨by decide +kernel, rfl⟩
theorem D28_1892 : rDec M28 1892 (.iadd) 1 1893 := ⟨by decide +kernel, rfl⟩
theorem D28_1893 : rDec M28 1893 (.iaload) 1 1894 := ⟨by decide +kernel, rfl⟩
theorem D28_1894 : rDec M28 1894 (.aload_n 0) 1 1895 := ⟨by decide +kernel, rfl⟩
theorem D28_1895 : rDec M28 1895 (.iload 4) 2 1897 := ⟨by decide +kernel, rfl⟩
theorem D28_1897 : rDec M28 1897 (.iconst 4) 1 1898 := ⟨by decide +kernel, rfl⟩
theorem D28_1898 : rDec M28 1898 (.iadd) 1 1899 := ⟨by decide +kernel, rfl⟩
theorem D28_1899 : rDec M28 1899 (.iaload) 1 1900 := ⟨by decide +kernel, rfl⟩
theorem D28_1900 : rDec M28 1900 (.invokevirtual 207) 3 1903 := ⟨by decide +kernel, rfl⟩
theorem D28_1903 : rDec M28 1903 (.istore 6) 2 1905 := ⟨by decide +kernel, rfl⟩
theorem D28_1905 : rDec M28 1905 (.aload_n 2) 1 1906 := ⟨by decide +kernel, rfl⟩
theorem D28_1906 : rDec M28 1906 (.invokevirtual 124) 3 1909 := ⟨by decide +kernel, rfl⟩
theorem D28_1909 : rDec M28 1909 (.iload 5) 2 1911 := ⟨by decide +kernel, rfl⟩
theorem D28_1911 : rDec M28 1911 (.if_icmp .eq 5) 3 1914 := ⟨by decide +kernel, rfl⟩
theorem D28_1916 : rDec M28 1916 (.iload 5) 2 1918 := ⟨by decide +kernel, rfl⟩
theorem D28_1918 : rDec M28 1918 (.ifCond .ne 15) 3 1921 := ⟨by decide +kernel, rfl⟩
theorem D28_1921 : rDec M28 1921 (.aload_n 3) 1 1922 := ⟨by decide +kernel, rfl⟩
theorem D28_1922 : rDec M28 1922 (.iconst 0) 1 1923 := ⟨by decide +kernel, rfl⟩
theorem D28_1923 : rDec M28 1923 (.laload) 1 1924 := ⟨by decide +kernel, rfl⟩
theorem D28_1924 : rDec M28 1924 (.iload 6) 2 1926 := ⟨by decide +kernel, rfl⟩
theorem D28_1926 : rDec M28 1926 (.i2l) 1 1927 := ⟨by decide +kernel, rfl⟩
theorem D28_1927 : rDec M28 1927 (.lcmp) 1 1928 := ⟨by decide +kernel, rfl⟩
theorem D28_1928 : rDec M28 1928 (.ifCond .eq 5) 3 1931 := ⟨by decide +kernel, rfl⟩
theorem D28_1933 : rDec M28 1933 (.goto 411) 3 1936 := ⟨by decide +kernel, rfl⟩
theorem D28_1936 : rDec M28 1936 (.aload_n 1) 1 1937 := ⟨by decide +kernel, rfl⟩
theorem D28_1937 : rDec M28 1937 (.invokevirtual 208) 3 1940 := ⟨by decide +kernel, rfl⟩
theorem D28_1940 : rDec M28 1940 (.aload_n 2) 1 1941 := ⟨by decide +kernel, rfl⟩
theorem D28_1941 : rDec M28 1941 (.invokevirtual 211) 3 1944 := ⟨by decide +kernel, rfl⟩
theorem D28_1944 : rDec M28 1944 (.if_icmp .eq 400) 3 1947 := ⟨by decide +kernel, rfl⟩
theorem D28_1949 : rDec M28 1949 (.aload_n 1) 1 1950 := ⟨by decide +kernel, rfl⟩
theorem D28_1950 : rDec M28 1950 (.aload_n 0) 1 1951 := ⟨by decide +kernel, rfl⟩
theorem D28_1951 : rDec M28 1951 (.iload 4) 2 1953 := ⟨by decide +kernel, rfl⟩
theorem D28_1953 : rDec M28 1953 (.iconst 1) 1 1954 := ⟨by decide +kernel, rfl⟩
theorem D28_1954 : rDec M28 1954 (.iadd) 1 1955 := ⟨by decide +kernel, rfl⟩
theorem D28_1955 : rDec M28 1955 (.iaload) 1 1956 := ⟨by decide +kernel, rfl⟩
theorem D28_1956 : rDec M28 1956 (.aload_n 0) 1 1957 := ⟨by decide +kernel, rfl⟩
theorem D28_1957 : rDec M28 1957 (.iload 4) 2 1959 := ⟨by decide +kernel, rfl⟩
theorem D28_1959 : rDec M28 1959 (.iconst 2) 1 1960 := ⟨by decide +kernel, rfl⟩
theorem D28_1960 : rDec M28 1960 (.iadd) 1 1961 := ⟨by decide +kernel, rfl⟩
theorem D28_1961 : rDec M28 1961 (.iaload) 1 1962 := ⟨by decide +kernel, rfl⟩
theorem D28_1962 : rDec M28 1962 (.aload_n 0) 1 1963 := ⟨by decide +kernel, rfl⟩
theorem D28_1963 : rDec M28 1963 (.iload 4) 2 1965 := ⟨by decide +kernel, rfl⟩
theorem D28_1965 : rDec M28 1965 (.iconst 3) 1 1966 := ⟨by decide +kernel, rfl⟩
theorem D28_1966 : rDec M28 1966 (.iadd) 1 1967 := ⟨by decide +kernel, rfl⟩
theorem D28_1967 : rDec M28 1967 (.iaload) 1 1968 := ⟨by decide +kernel, rfl⟩
theorem D28_1968 : rDec M28 1968 (.aload_n 3) 1 1969 := ⟨by decide +kernel, rfl⟩
theorem D28_1969 : rDec M28 1969 (.invokestatic 212) 3 1972 := ⟨by decide +kernel, rfl⟩
theorem D28_1972 : rDec M28 1972 (.istore 5) 2 1974 := ⟨by decide +kernel, rfl⟩
theorem D28_1974 : rDec M28 1974 (.aload_n 2) 1 1975 := ⟨by decide +kernel, rfl⟩
theorem D28_1975 : rDec M28 1975 (.aload_n 0) 1 1976 := ⟨by decide +kernel, rfl⟩
theorem D28_1976 : rDec M28 1976 (.iload 4) 2 1978 := ⟨by decide +kernel, rfl⟩
theorem D28_1978 : rDec M28 1978 (.iconst 1) 1 1979 := ⟨by decide +kernel, rfl⟩
theorem D28_1979 : rDec M28 1979 (.iadd) 1 1980 := ⟨by decide +kernel, rfl⟩
theorem D28_1980 : rDec M28 1980 (.iaload) 1 1981 := ⟨by decide +kernel, rfl⟩
theorem D28_1981 : rDec M28 1981 (.aload_n 0) 1 1982 := ⟨by decide +kernel, rfl⟩
theorem D28_1982 : rDec M28 1982 (.iload 4) 2 1984 := ⟨by decide +kernel, rfl⟩
theorem D28_1984 : rDec M28 1984 (.iconst 2) 1 1985 := ⟨by decide +kernel, rfl⟩
theorem D28_1985 : rDec M28 1985 (.iadd) 1 1986 := ⟨by decide +kernel, rfl⟩
theorem D28_1986 : rDec M28 1986 (.iaload) 1 1987 := ⟨by decide +kernel, rfl⟩
theorem D28_1987 : rDec M28 1987 (.aload_n 0) 1 1988 := ⟨by decide +kernel, rfl⟩
theorem D28_1988 : rDec M28 1988 (.iload 4) 2 1990 := ⟨by decide +kernel, rfl⟩
theorem D28_1990 : rDec M28 1990 (.iconst 3) 1 1991 := ⟨by decide +kernel, rfl⟩
theorem D28_1991 : rDec M28 1991 (.iadd) 1 1992 := ⟨by decide +kernel, rfl⟩
theorem D28_1992 : rDec M28 1992 (.iaload) 1 1993 := ⟨by decide +kernel, rfl⟩
theorem D28_1993 : rDec M28 1993 (.invokevirtual 214) 3 1996 := ⟨by decide +kernel, rfl⟩
theorem D28_1996 : rDec M28 1996 (.istore 6) 2 1998 := ⟨by decide +kernel, rfl⟩
theorem D28_1998 : rDec M28 1998 (.aload_n 2) 1 1999 := ⟨by decide +kernel, rfl⟩
theorem D28_1999 : rDec M28 1999 (.invokevirtual 124) 3 2002 := ⟨by decide +kernel, rfl⟩
theorem D28_2002 : rDec M28 2002 (.iload 5) 2 2004 := ⟨by decide +kernel, rfl⟩
theorem D28_2004 : rDec M28 2004 (.if_icmp .eq 5) 3 2007 := ⟨by decide +kernel, rfl⟩
theorem D28_2009 : rDec M28 2009 (.iload 5) 2 2011 := ⟨by decide +kernel, rfl⟩
theorem D28_2011 : rDec M28 2011 (.ifCond .ne 15) 3 2014 := ⟨by decide +kernel, rfl⟩
theorem D28_2014 : rDec M28 2014 (.aload_n 3) 1 2015 := ⟨by decide +kernel, rfl⟩
theorem D28_2015 : rDec M28 2015 (.iconst 0) 1 2016 := ⟨by decide +kernel, rfl⟩
theorem D28_2016 : rDec M28 2016 (.laload) 1 2017 := ⟨by decide +kernel, rfl⟩
theorem D28_2017 : rDec M28 2017 (.iload 6) 2 2019 := ⟨by decide +kernel, rfl⟩
theorem D28_2019 : rDec M28 2019 (.i2l) 1 2020 := ⟨by decide +kernel, rfl⟩
theorem D28_2020 : rDec M28 2020 (.lcmp) 1 2021 := ⟨by decide +kernel, rfl⟩
theorem D28_2021 : rDec M28 2021 (.ifCond .eq 5) 3 2024 := ⟨by decide +kernel, rfl⟩
theorem D28_2026 : rDec M28 2026 (.goto 318) 3 2029 := ⟨by decide +kernel, rfl⟩
theorem D28_2029 : rDec M28 2029 (.aload_n 1) 1 2030 := ⟨by decide +kernel, rfl⟩
theorem D28_2030 : rDec M28 2030 (.aload_n 0) 1 2031 := ⟨by decide +kernel, rfl⟩
theorem D28_2031 : rDec M28 2031 (.iload 4) 2 2033 := ⟨by decide +kernel, rfl⟩
theorem D28_2033 : rDec M28 2033 (.iconst 1) 1 2034 := ⟨by decide +kernel, rfl⟩
theorem D28_2034 : rDec M28 2034 (.iadd) 1 2035 := ⟨by decide +kernel, rfl⟩
theorem D28_2035 : rDec M28 2035 (.iaload) 1 2036 := ⟨by decide +kernel, rfl⟩
theorem D28_2036 : rDec M28 2036 (.aload_n 3) 1 2037 := ⟨by decide +kernel, rfl⟩
theorem D28_2037 : rDec M28 2037 (.invokestatic 215) 3 2040 := ⟨by decide +kernel, rfl⟩
theorem D28_2040 : rDec M28 2040 (.istore 5) 2 2042 := ⟨by decide +kernel, rfl⟩
theorem D28_2042 : rDec M28 2042 (.aload_n 2) 1 2043 := ⟨by decide +kernel, rfl⟩
theorem D28_2043 : rDec M28 2043 (.aload_n 0) 1 2044 := ⟨by decide +kernel, rfl⟩
theorem D28_2044 : rDec M28 2044 (.iload 4) 2 2046 := ⟨by decide +kernel, rfl⟩
theorem D28_2046 : rDec M28 2046 (.iconst 1) 1 2047 := ⟨by decide +kernel, rfl⟩
theorem D28_2047 : rDec M28 2047 (.iadd) 1 2048 := ⟨by decide +kernel, rfl⟩
theorem D28_2048 : rDec M28 2048 (.iaload) 1 2049 := ⟨by decide +kernel, rfl⟩
theorem D28_2049 : rDec M28 2049 (.invokevirtual 217) 3 2052 := ⟨by decide +kernel, rfl⟩
theorem D28_2052 : rDec M28 2052 (.istore 6) 2 2054 := ⟨by decide +kernel, rfl⟩
theorem D28_2054 : rDec M28 2054 (.aload_n 2) 1 2055 := ⟨by decide +kernel, rfl⟩
theorem D28_2055 : rDec M28 2055 (.invokevirtual 124) 3 2058 := ⟨by decide +kernel, rfl⟩
theorem D28_2058 : rDec M28 2058 (.iload 5) 2 2060 := ⟨by decide +kernel, rfl⟩
theorem D28_2060 : rDec M28 2060 (.if_icmp .eq 5) 3 2063 := ⟨by decide +kernel, rfl⟩
theorem D28_2065 : rDec M28 2065 (.iload 5) 2 2067 := ⟨by decide +kernel, rfl⟩
theorem D28_2067 : rDec M28 2067 (.ifCond .ne 15) 3 2070 := ⟨by decide +kernel, rfl⟩
theorem D28_2082 : rDec M28 2082 (.goto 262) 3 2085 := ⟨by decide +kernel, rfl⟩
theorem D28_2085 : rDec M28 2085 (.aload_n 1) 1 2086 := ⟨by decide +kernel, rfl⟩
theorem D28_2086 : rDec M28 2086 (.aload_n 0) 1 2087 := ⟨by decide +kernel, rfl⟩
theorem D28_2087 : rDec M28 2087 (.iload 4) 2 2089 := ⟨by decide +kernel, rfl⟩
theorem D28_2089 : rDec M28 2089 (.iconst 1) 1 2090 := ⟨by decide +kernel, rfl⟩
theorem D28_2090 : rDec M28 2090 (.iadd) 1 2091 := ⟨by decide +kernel, rfl⟩
theorem D28_2091 : rDec M28 2091 (.iaload) 1 2092 := ⟨by decide +kernel, rfl⟩
theorem D28_2092 : rDec M28 2092 (.aload_n 3) 1 2093 := ⟨by decide +kernel, rfl⟩
theorem D28_2093 : rDec M28 2093 (.invokestatic 218) 3 2096 := ⟨by decide +kernel, rfl⟩
theorem D28_2096 : rDec M28 2096 (.istore 5) 2 2098 := ⟨by decide +kernel, rfl⟩
theorem D28_2098 : rDec M28 2098 (.aload_n 2) 1 2099 := ⟨by decide +kernel, rfl⟩
theorem D28_2099 : rDec M28 2099 (.aload_n 0) 1 2100 := ⟨by decide +kernel, rfl⟩
theorem D28_2100 : rDec M28 2100 (.iload 4) 2 2102 := ⟨by decide +kernel, rfl⟩
theorem D28_2102 : rDec M28 2102 (.iconst 1) 1 2103 := ⟨by decide +kernel, rfl⟩
theorem D28_2103 : rDec M28 2103 (.iadd) 1 2104 := ⟨by decide +kernel, rfl⟩
theorem D28_2104 : rDec M28 2104 (.iaload) 1 2105 := ⟨by decide +kernel, rfl⟩
theorem D28_2105 : rDec M28 2105 (.invokevirtual 220) 3 2108 := ⟨by decide +kernel, rfl⟩
theorem D28_2108 : rDec M28 2108 (.istore 6) 2 2110 := ⟨by decide +kernel, rfl⟩
theorem D28_2110 : rDec M28 2110 (.aload_n 2) 1 2111 := ⟨by decide +kernel, rfl⟩
theorem D28_2111 : rDec M28 2111 (.invokevirtual 124) 3 2114 := ⟨by decide +kernel, rfl⟩
theorem D28_2114 : rDec M28 2114 (.iload 5) 2 2116 := ⟨by decide +kernel, rfl⟩
theorem D28_2116 : rDec M28 2116 (.if_icmp .eq 5) 3 2119 := ⟨by decide +kernel, rfl⟩
theorem D28_2121 : rDec M28 2121 (.iload 5) 2 2123 := ⟨by decide +kernel, rfl⟩
theorem D28_2123 : rDec M28 2123 (.ifCond .ne 15) 3 2126 := ⟨by decide +kernel, rfl⟩
theorem D28_2126 : rDec M28 2126 (.aload_n 3) 1 2127 := ⟨by decide +kernel, rfl⟩
theorem D28_2127 : rDec M28 2127 (.iconst 0) 1 2128 := ⟨by decide +kernel, rfl⟩
theorem D28_2128 : rDec M28 2128 (.laload) 1 2129 := ⟨by decide +kernel, rfl⟩
theorem D28_2129 : rDec M28 2129 (.iload 6) 2 2131 := ⟨by decide +kernel, rfl⟩
theorem D28_2131 : rDec M28 2131 (.i2l) 1 2132 := ⟨by decide +kernel, rfl⟩
theorem D28_2132 : rDec M28 2132 (.lcmp) 1 2133 := ⟨by decide +kernel, rfl⟩
theorem D28_2133 : rDec M28 2133 (.ifCond .eq 5) 3 2136 := ⟨by decide +kernel, rfl⟩
theorem D28_2138 : rDec M28 2138 (.goto 206) 3 2141 := ⟨by decide +kernel, rfl⟩
theorem D28_2141 : rDec M28 2141 (.aload_n 1) 1 2142 := ⟨by decide +kernel, rfl⟩
theorem D28_2142 : rDec M28 2142 (.invokevirtual 221) 3 2145 := ⟨by decide +kernel, rfl⟩
theorem D28_2145 : rDec M28 2145 (.dstore 5) 2 2147 := ⟨by decide +kernel, rfl⟩
theorem D28_2147 : rDec M28 2147 (.aload_n 2) 1 2148 := ⟨by decide +kernel, rfl⟩
theorem D28_2148 : rDec M28 2148 (.invokevirtual 225) 3 2151 := ⟨by decide +kernel, rfl⟩
theorem D28_2151 : rDec M28 2151 (.dstore 7) 2 2153 := ⟨by decide +kernel, rfl⟩
theorem D28_2153 : rDec M28 2153 (.dload 5) 2 2155 := ⟨by decide +kernel, rfl⟩
theorem D28_2155 : rDec M28 2155 (.dload 7) 2 2157 := ⟨by decide +kernel, rfl⟩
theorem D28_2157 : rDec M28 2157 (.dcmp .l) 1 2158 := ⟨by decide +kernel, rfl⟩
theorem D28_2158 : rDec M28 2158 (.ifCond .eq 21) 3 2161 := ⟨by decide +kernel, rfl⟩
theorem D28_2179 : rDec M28 2179 (.goto 165) 3 2182 := ⟨by decide +kernel, rfl⟩
theorem D28_2182 : rDec M28 2182 (.aload_n 1) 1 2183 := ⟨by decide +kernel, rfl⟩
theorem D28_2183 : rDec M28 2183 (.aload_n 0) 1 2184 := ⟨by decide +kernel, rfl⟩
theorem D28_2184 : rDec M28 2184 (.iload 4) 2 2186 := ⟨by decide +kernel, rfl⟩
theorem D28_2186 : rDec M28 2186 (.iconst 1) 1 2187 := ⟨by decide +kernel, rfl⟩
theorem D28_2187 : rDec M28 2187 (.iadd) 1 2188 := ⟨by decide +kernel, rfl⟩
theorem D28_2188 : rDec M28 2188 (.iaload) 1 2189 := ⟨by decide +kernel, rfl⟩
theorem D28_2189 : rDec M28 2189 (.aload_n 0) 1 2190 := ⟨by decide +kernel, rfl⟩
theorem D28_2190 : rDec M28 2190 (.iload 4) 2 2192 := ⟨by decide +kernel, rfl⟩
theorem D28_2192 : rDec M28 2192 (.iconst 2) 1 2193 := ⟨by decide +kernel, rfl⟩
theorem D28_2193 : rDec M28 2193 (.iadd) 1 2194 := ⟨by decide +kernel, rfl⟩
theorem D28_2194 : rDec M28 2194 (.iaload) 1 2195 := ⟨by decide +kernel, rfl⟩
theorem D28_2195 : rDec M28 2195 (.aload_n 0) 1 2196 := ⟨by decide +kernel, rfl⟩
theorem D28_2196 : rDec M28 2196 (.iload 4) 2 2198 := ⟨by decide +kernel, rfl⟩
theorem D28_2198 : rDec M28 2198 (.iconst 3) 1 2199 := ⟨by decide +kernel, rfl⟩
theorem D28_2199 : rDec M28 2199 (.iadd) 1 2200 := ⟨by decide +kernel, rfl⟩
theorem D28_2200 : rDec M28 2200 (.iaload) 1 2201 := ⟨by decide +kernel, rfl⟩
theorem D28_2201 : rDec M28 2201 (.aload_n 3) 1 2202 := ⟨by decide +kernel, rfl⟩
theorem D28_2202 : rDec M28 2202 (.invokestatic 226) 3 2205 := ⟨by decide +kernel, rfl⟩
theorem D28_2205 : rDec M28 2205 (.istore 5) 2 2207 := ⟨by decide +kernel, rfl⟩
theorem D28_2207 : rDec M28 2207 (.aload_n 2) 1 2208 := ⟨by decide +kernel, rfl⟩
theorem D28_2208 : rDec M28 2208 (.aload_n 0) 1 2209 := ⟨by decide +kernel, rfl⟩
theorem D28_2209 : rDec M28 2209 (.iload 4) 2 2211 := ⟨by decide +kernel, rfl⟩
theorem D28_2211 : rDec M28 2211 (.iconst 1) 1 2212 := ⟨by decide +kernel, rfl⟩
theorem D28_2212 : rDec M28 2212 (.iadd) 1 2213 := ⟨by decide +kernel, rfl⟩
theorem D28_2213 : rDec M28 2213 (.iaload) 1 2214 := ⟨by decide +kernel, rfl⟩
theorem D28_2214 : rDec M28 2214 (.aload_n 0) 1 2215 := ⟨by decide +kernel, rfl⟩
theorem D28_2215 : rDec M28 2215 (.iload 4) 2 2217 := ⟨by decide +kernel, rfl⟩
theorem D28_2217 : rDec M28 2217 (.iconst 2) 1 2218 := ⟨by decide +kernel, rfl⟩
theorem D28_2218 : rDec M28 2218 (.iadd) 1 2219 := ⟨by decide +kernel, rfl⟩
theorem D28_2219 : rDec M28 2219 (.iaload) 1 2220 := ⟨by decide +kernel, rfl⟩
theorem D28_2220 : rDec M28 2220 (.aload_n 0) 1 2221 := ⟨by decide +kernel, rfl⟩
theorem D28_2221 : rDec M28 2221 (.iload 4) 2 2223 := ⟨by decide +kernel, rfl⟩
theorem D28_2223 : rDec M28 2223 (.iconst 3) 1 2224 := ⟨by decide +kernel, rfl⟩
theorem D28_2224 : rDec M28 2224 (.iadd) 1 2225 := ⟨by decide +kernel, rfl⟩
theorem D28_2225 : rDec M28 2225 (.iaload) 1 2226 := ⟨by decide +kernel, rfl⟩
theorem D28_2226 : rDec M28 2226 (.invokevirtual 228) 3 2229 := ⟨by decide +kernel, rfl⟩
theorem D28_2229 : rDec M28 2229 (.istore 6) 2 2231 := ⟨by decide +kernel, rfl⟩
theorem D28_2231 : rDec M28 2231 (.aload_n 2) 1 2232 := ⟨by decide +kernel, rfl⟩
theorem D28_2232 : rDec M28 2232 (.invokevirtual 124) 3 2235 := ⟨by decide +kernel, rfl⟩
theorem D28_2235 : rDec M28 2235 (.iload 5) 2 2237 := ⟨by decide +kernel, rfl⟩
theorem D28_2237 : rDec M28 2237 (.if_icmp .eq 5) 3 2240 := ⟨by decide +kernel, rfl⟩
theorem D28_2242 : rDec M28 2242 (.iload 5) 2 2244 := ⟨by decide +kernel, rfl⟩
theorem D28_2244 : rDec M28 2244 (.ifCond .ne 15) 3 2247 := ⟨by decide +kernel, rfl⟩
theorem D28_2247 : rDec M28 2247 (.aload_n 3) 1 2248 := ⟨by decide +kernel, rfl⟩
theorem D28_2248 : rDec M28 2248 (.iconst 0) 1 2249 := ⟨by decide +kernel, rfl⟩
theorem D28_2249 : rDec M28 2249 (.laload) 1 2250 := ⟨by decide +kernel, rfl⟩
theorem D28_2250 : rDec M28 2250 (.iload 6) 2 2252 := ⟨by decide +kernel, rfl⟩
theorem D28_2252 : rDec M28 2252 (.i2l) 1 2253 := ⟨by decide +kernel, rfl⟩
theorem D28_2253 : rDec M28 2253 (.lcmp) 1 2254 := ⟨by decide +kernel, rfl⟩
theorem D28_2254 : rDec M28 2254 (.ifCond .eq 5) 3 2257 := ⟨by decide +kernel, rfl⟩
theorem D28_2259 : rDec M28 2259 (.goto 85) 3 2262 := ⟨by decide +kernel, rfl⟩
theorem D28_2262 : rDec M28 2262 (.aload_n 1) 1 2263 := ⟨by decide +kernel, rfl⟩
theorem D28_2263 : rDec M28 2263 (.aload_n 0) 1 2264 := ⟨by decide +kernel, rfl⟩
theorem D28_2264 : rDec M28 2264 (.iload 4) 2 2266 := ⟨by decide +kernel, rfl⟩
theorem D28_2266 : rDec M28 2266 (.iconst 1) 1 2267 := ⟨by decide +kernel, rfl⟩
theorem D28_2267 : rDec M28 2267 (.iadd) 1 2268 := ⟨by decide +kernel, rfl⟩
theorem D28_2268 : rDec M28 2268 (.iaload) 1 2269 := ⟨by decide +kernel, rfl⟩
theorem D28_2269 : rDec M28 2269 (.aload_n 0) 1 2270 := ⟨by decide +kernel, rfl⟩
theorem D28_2270 : rDec M28 2270 (.iload 4) 2 2272 := ⟨by decide +kernel, rfl⟩
theorem D28_2272 : rDec M28 2272 (.iconst 2) 1 2273 := ⟨by decide +kernel, rfl⟩
theorem D28_2273 : rDec M28 2273 (.iadd) 1 2274 := ⟨by decide +kernel, rfl⟩
theorem D28_2274 : rDec M28 2274 (.iaload) 1 2275 := ⟨by decide +kernel, rfl⟩
theorem D28_2275 : rDec M28 2275 (.aload_n 3) 1 2276 := ⟨by decide +kernel, rfl⟩
theorem D28_2276 : rDec M28 2276 (.invokestatic 229) 3 2279 := ⟨by decide +kernel, rfl⟩
theorem D28_2279 : rDec M28 2279 (.istore 5) 2 2281 := ⟨by decide +kernel, rfl⟩
theorem D28_2281 : rDec M28 2281 (.aload_n 2) 1 2282 := ⟨by decide +kernel, rfl⟩
theorem D28_2282 : rDec M28 2282 (.aload_n 0) 1 2283 := ⟨by decide +kernel, rfl⟩
theorem D28_2283 : rDec M28 2283 (.iload 4) 2 2285 := ⟨by decide +kernel, rfl⟩
theorem D28_2285 : rDec M28 2285 (.iconst 1) 1 2286 := ⟨by decide +kernel, rfl⟩
theorem D28_2286 : rDec M28 2286 (.iadd) 1 2287 := ⟨by decide +kernel, rfl⟩
theorem D28_2287 : rDec M28 2287 (.iaload) 1 2288 := ⟨by decide +kernel, rfl⟩
theorem D28_2288 : rDec M28 2288 (.aload_n 0) 1 2289 := ⟨by decide +kernel, rfl⟩
theorem D28_2289 : rDec M28 2289 (.iload 4) 2 2291 := ⟨by decide +kernel, rfl⟩
theorem D28_2291 : rDec M28 2291 (.iconst 2) 1 2292 := ⟨by decide +kernel, rfl⟩
theorem D28_2292 : rDec M28 2292 (.iadd) 1 2293 := ⟨by decide +kernel, rfl⟩
theorem D28_2293 : rDec M28 2293 (.iaload) 1 2294 := ⟨by decide +kernel, rfl⟩
theorem D28_2294 : rDec M28 2294 (.invokevirtual 231) 3 2297 := ⟨by decide +kernel, rfl⟩
theorem D28_2297 : rDec M28 2297 (.istore 6) 2 2299 := ⟨by decide +kernel, rfl⟩
theorem D28_2299 : rDec M28 2299 (.aload_n 2) 1 2300 := ⟨by decide +kernel, rfl⟩
theorem D28_2300 : rDec M28 2300 (.invokevirtual 124) 3 2303 := ⟨by decide +kernel, rfl⟩
theorem D28_2303 : rDec M28 2303 (.iload 5) 2 2305 := ⟨by decide +kernel, rfl⟩
theorem D28_2305 : rDec M28 2305 (.if_icmp .eq 5) 3 2308 := ⟨by decide +kernel, rfl⟩
theorem D28_2310 : rDec M28 2310 (.iload 5) 2 2312 := ⟨by decide +kernel, rfl⟩
theorem D28_2312 : rDec M28 2312 (.ifCond .ne 15) 3 2315 := ⟨by decide +kernel, rfl⟩
theorem D28_2315 : rDec M28 2315 (.aload_n 3) 1 2316 := ⟨by decide +kernel, rfl⟩
theorem D28_2316 : rDec M28 2316 (.iconst 0) 1 2317 := ⟨by decide +kernel, rfl⟩
theorem D28_2317 : rDec M28 2317 (.laload) 1 2318 := ⟨by decide +kernel, rfl⟩
theorem D28_2318 : rDec M28 2318 (.iload 6) 2 2320 := ⟨by decide +kernel, rfl⟩
theorem D28_2320 : rDec M28 2320 (.i2l) 1 2321 := ⟨by decide +kernel, rfl⟩
theorem D28_2321 : rDec M28 2321 (.lcmp) 1 2322 := ⟨by decide +kernel, rfl⟩
theorem D28_2322 : rDec M28 2322 (.ifCond .eq 5) 3 2325 := ⟨by decide +kernel, rfl⟩
theorem D28_2327 : rDec M28 2327 (.goto 17) 3 2330 := ⟨by decide +kernel, rfl⟩
theorem D28_2330 : rDec M28 2330 (.aload_n 1) 1 2331 := ⟨by decide +kernel, rfl⟩
theorem D28_2331 : rDec M28 2331 (.invokevirtual 232) 3 2334 := ⟨by decide +kernel, rfl⟩
theorem D28_2334 : rDec M28 2334 (.aload_n 2) 1 2335 := ⟨by decide +kernel, rfl⟩
theorem D28_2335 : rDec M28 2335 (.invokevirtual 236) 3 2338 := ⟨by decide +kernel, rfl⟩
theorem D28_2338 : rDec M28 2338 (.lcmp) 1 2339 := ⟨by decide +kernel, rfl⟩
theorem D28_2339 : rDec M28 2339 (.ifCond .eq 5) 3 2342 := ⟨by decide +kernel, rfl⟩
theorem D28_2344 : rDec M28 2344 (.iinc 4 6) 3 2347 := ⟨by decide +kernel, rfl⟩
theorem D28_2347 : rDec M28 2347 (.goto (-2324)) 3 2350 := ⟨by decide +kernel, rfl⟩
theorem D28_2350 : rDec M28 2350 (.iconst 1) 1 2351 := ⟨by decide +kernel, rfl⟩
theorem D28_2351 : rDec M28 2351 (.ireturn) 1 2352 := ⟨by decide +kernel, rfl⟩
theorem P28_2350 : rSnd lab M28 2350 B28_2350 := by
  refine s_ic D28_2350 kc_i_1 (by decide) ?_
  exact s_Ri (Or.inr ⟨rfl, by decide⟩) D28_2351.1
theorem P28_2344 : rSnd lab M28 2344 B28_2344 := by
  refine s_Inc gk4 sk4 (show 4 < 9 from by decide) kc_i_6 D28_2344 ?_
  exact s_Go (pc' := 23) D28_2347.1 (by decide) (s_Jb rfl)
theorem P28_2330 : rSnd lab M28 2330 B28_2330 := by
  refine s_Al gk1 (Or.inr ⟨1, D28_2330, rfl⟩) ?_
  refine s_Cv (ln := 3) (kd := 2) (C := "WordWright") (by decide) (by decide +kernel) rfl (l_V rfl ok67 rfl wd602 wd603 wd604 D28_2331.1) (?_ : rSnd _ _ 2334 _)
  refine s_Al gk2 (Or.inr ⟨2, D28_2334, rfl⟩) ?_
  refine s_Cv (ln := 3) (kd := 24) (C := "WordWrightModel") (by decide) (by decide +kernel) rfl (l_V rfl ok178 rfl wd2849 wd2850 wd2851 D28_2335.1) (?_ : rSnd _ _ 2338 _)
  refine s_Lcmp D28_2338 ?_
  refine s_If c_eq (fun _ => rfl) (fun _ _ => rfl) (b_eq (tg := 2344) (by decide)) D28_2339.1 P28_2344 (?_ : rSnd _ _ 2342 _)
  exact rSnd_none
theorem P28_2327 : rSnd lab M28 2327 B28_2327 := by
  exact s_Go (pc' := 2344) D28_2327.1 (by decide) P28_2344
theorem P28_2310 : rSnd lab M28 2310 B28_2310 := by
  refine s_Il gk5 (Or.inl D28_2310) ?_
  refine s_If c_ne (fun _ => rfl) (fun _ _ => rfl) (b_ne (tg := 2327) (by decide)) D28_2312.1 P28_2327 (?_ : rSnd _ _ 2315 _)
  refine s_Al gk3 (Or.inr ⟨3, D28_2315, rfl⟩) ?_
  refine s_ic D28_2316 kc_i_0 (by decide) ?_
  refine s_Ald (t := 2) (ty := .long) rfl q_lald rfl D28_2317 ?_
  refine s_Il gk6 (Or.inl D28_2318) ?_
  refine s_I2l D28_2320 ?_
  refine s_Lcmp D28_2321 ?_
  refine s_If c_eq (fun _ => rfl) (fun _ _ => rfl) (b_eq (tg := 2327) (by decide)) D28_2322.1 P28_2327 (?_ : rSnd _ _ 2325 _)
  exact rSnd_none
theorem P28_2262 : rSnd lab M28 2262 B28_2262 := by
  refine s_Al gk1 (Or.inr ⟨1, D28_2262, rfl⟩) ?_
  refine s_Al gk0 (Or.inr ⟨0, D28_2263, rfl⟩) ?_
  refine s_Il gk4 (Or.inl D28_2264) ?_
  refine s_ic D28_2266 kc_i_1 (by decide) ?_
  refine s_Bin q_iadd n_add rG2_x e_add D28_2267 ?_
  refine s_Ial D28_2268 ?_
  refine s_Al gk0 (Or.inr ⟨0, D28_2269, rfl⟩) ?_
  refine s_Il gk4 (Or.inl D28_2270) ?_
  refine s_ic D28_2272 kc_i_2 (by decide) ?_
  refine s_Bin q_iadd n_add rG2_x e_add D28_2273 ?_
  refine s_Ial D28_2274 ?_
  refine s_Al gk3 (Or.inr ⟨3, D28_2275, rfl⟩) ?_
  refine s_Cs (id := 42) rfl (l_SX rfl ok40 rfl wd1658 wd1659 D28_2276.1) (?_ : rSnd _ _ 2279 _)
  refine s_Is sk5 (show 5 < 9 from by decide) (Or.inl D28_2279) ?_
  refine s_Al gk2 (Or.inr ⟨2, D28_2281, rfl⟩) ?_
  refine s_Al gk0 (Or.inr ⟨0, D28_2282, rfl⟩) ?_
  refine s_Il gk4 (Or.inl D28_2283) ?_
  refine s_ic D28_2285 kc_i_1 (by decide) ?_
  refine s_Bin q_iadd n_add rG2_x e_add D28_2286 ?_
  refine s_Ial D28_2287 ?_
  refine s_Al gk0 (Or.inr ⟨0, D28_2288, rfl⟩) ?_
  refine s_Il gk4 (Or.inl D28_2289) ?_
  refine s_ic D28_2291 kc_i_2 (by decide) ?_
  refine s_Bin q_iadd n_add rG2_x e_add D28_2292 ?_
  refine s_Ial D28_2293 ?_
  refine s_Cv (ln := 3) (kd := 24) (C := "WordWrightModel") (by decide) (by decide +kernel) rfl (l_V rfl ok217 rfl wd2845 wd2846 wd2847 D28_2294.1) (?_ : rSnd _ _ 2297 _)
  refine s_Is sk6 (show 6 < 9 from by decide) (Or.inl D28_2297) ?_
  refine s_Al gk2 (Or.inr ⟨2, D28_2299, rfl⟩) ?_
  refine s_Cv (ln := 3) (kd := 24) (C := "WordWrightModel") (by decide) (by decide +kernel) rfl (l_V rfl ok225 rfl wd2060 wd2061 wd2062 D28_2300.1) (?_ : rSnd _ _ 2303 _)
  refine s_Il gk5 (Or.inl D28_2303) ?_
  refine s_Ic c_eq (i_eq (tg := 2310) (by decide)) D28_2305.1 P28_2310 (?_ : rSnd _ _ 2308 _)
  exact rSnd_none
theorem P28_2259 : rSnd lab M28 2259 B28_2259 := by
  exact s_Go (pc' := 2344) D28_2259.1 (by decide) P28_2344
theorem P28_2242 : rSnd lab M28 2242 B28_2242 := by
  refine s_Il gk5 (Or.inl D28_2242) ?_
  refine s_If c_ne (fun _ => rfl) (fun _ _ => rfl) (b_ne (tg := 2259) (by decide)) D28_2244.1 P28_2259 (?_ : rSnd _ _ 2247 _)
  refine s_Al gk3 (Or.inr ⟨3, D28_2247, rfl⟩) ?_
  refine s_ic D28_2248 kc_i_0 (by decide) ?_
  refine s_Ald (t := 2) (ty := .long) rfl q_lald rfl D28_2249 ?_
  refine s_Il gk6 (Or.inl D28_2250) ?_
  refine s_I2l D28_2252 ?_
  refine s_Lcmp D28_2253 ?_
  refine s_If c_eq (fun _ => rfl) (fun _ _ => rfl) (b_eq (tg := 2259) (by decide)) D28_2254.1 P28_2259 (?_ : rSnd _ _ 2257 _)
  exact rSnd_none
theorem P28_2182 : rSnd lab M28 2182 B28_2182 := by
  refine s_Al gk1 (Or.inr ⟨1, D28_2182, rfl⟩) ?_
  refine s_Al gk0 (Or.inr ⟨0, D28_2183, rfl⟩) ?_
  refine s_Il gk4 (Or.inl D28_2184) ?_
  refine s_ic D28_2186 kc_i_1 (by decide) ?_
  refine s_Bin q_iadd n_add rG2_x e_add D28_2187 ?_
  refine s_Ial D28_2188 ?_
  refine s_Al gk0 (Or.inr ⟨0, D28_2189, rfl⟩) ?_
  refine s_Il gk4 (Or.inl D28_2190) ?_
  refine s_ic D28_2192 kc_i_2 (by decide) ?_
  refine s_Bin q_iadd n_add rG2_x e_add D28_2193 ?_
  refine s_Ial D28_2194 ?_
  refine s_Al gk0 (Or.inr ⟨0, D28_2195, rfl⟩) ?_
  refine s_Il gk4 (Or.inl D28_2196) ?_
  refine s_ic D28_2198 kc_i_3 (by decide) ?_
  refine s_Bin q_iadd n_add rG2_x e_add D28_2199 ?_
  refine s_Ial D28_2200 ?_
  refine s_Al gk3 (Or.inr ⟨3, D28_2201, rfl⟩) ?_
  refine s_Cs (id := 49) rfl (l_SX rfl ok47 rfl wd1651 wd1652 D28_2202.1) (?_ : rSnd _ _ 2205 _)
  refine s_Is sk5 (show 5 < 9 from by decide) (Or.inl D28_2205) ?_
  refine s_Al gk2 (Or.inr ⟨2, D28_2207, rfl⟩) ?_
  refine s_Al gk0 (Or.inr ⟨0, D28_2208, rfl⟩) ?_
  refine s_Il gk4 (Or.inl D28_2209) ?_
  refine s_ic D28_2211 kc_i_1 (by decide) ?_
  refine s_Bin q_iadd n_add rG2_x e_add D28_2212 ?_
  refine s_Ial D28_2213 ?_
  refine s_Al gk0 (Or.inr ⟨0, D28_2214, rfl⟩) ?_
  refine s_Il gk4 (Or.inl D28_2215) ?_
  refine s_ic D28_2217 kc_i_2 (by decide) ?_
  refine s_Bin q_iadd n_add rG2_x e_add D28_2218 ?_
  refine s_Ial D28_2219 ?_
  refine s_Al gk0 (Or.inr ⟨0, D28_2220, rfl⟩) ?_
  refine s_Il gk4 (Or.inl D28_2221) ?_
  refine s_ic D28_2223 kc_i_3 (by decide) ?_
  refine s_Bin q_iadd n_add rG2_x e_add D28_2224 ?_
  refine s_Ial D28_2225 ?_
  refine s_Cv (ln := 3) (kd := 24) (C := "WordWrightModel") (by decide) (by decide +kernel) rfl (l_V rfl ok229 rfl wd2841 wd2842 wd2843 D28_2226.1) (?_ : rSnd _ _ 2229 _)
  refine s_Is sk6 (show 6 < 9 from by decide) (Or.inl D28_2229) ?_
  refine s_Al gk2 (Or.inr ⟨2, D28_2231, rfl⟩) ?_
  refine s_Cv (ln := 3) (kd := 24) (C := "WordWrightModel") (by decide) (by decide +kernel) rfl (l_V rfl ok225 rfl wd2060 wd2061 wd2062 D28_2232.1) (?_ : rSnd _ _ 2235 _)
  refine s_Il gk5 (Or.inl D28_2235) ?_
  refine s_Ic c_eq (i_eq (tg := 2242) (by decide)) D28_2237.1 P28_2242 (?_ : rSnd _ _ 2240 _)
  exact rSnd_none
theorem P28_2179 : rSnd lab M28 2179 B28_2179 := by
  exact s_Go (pc' := 2344) D28_2179.1 (by decide) P28_2344
theorem P28_2141 : rSnd lab M28 2141 B28_2141 := by
  refine s_Al gk1 (Or.inr ⟨1, D28_2141, rfl⟩) ?_
  refine s_Cv (ln := 3) (kd := 2) (C := "WordWright") (by decide) (by decide +kernel) rfl (l_V rfl ok89 rfl wd598 wd599 wd600 D28_2142.1) (?_ : rSnd _ _ 2145 _)
  refine s_Ds dk5 (show 6 < 9 from by decide) (Or.inl D28_2145) ?_
  refine s_Al gk2 (Or.inr ⟨2, D28_2147, rfl⟩) ?_
  refine s_Cv (ln := 3) (kd := 24) (C := "WordWrightModel") (by decide) (by decide +kernel) rfl (l_V rfl ok203 rfl wd2837 wd2838 wd2839 D28_2148.1) (?_ : rSnd _ _ 2151 _)
  refine s_Ds dk7 (show 8 < 9 from by decide) (Or.inl D28_2151) ?_
  refine s_Dl gk5 (Or.inl D28_2153) ?_
  refine s_Dl gk7 (Or.inl D28_2155) ?_
  refine s_Dcmp D28_2157 ?_
  refine s_If c_eq (fun _ => rfl) (fun _ _ => rfl) (b_eq (tg := 2179) (by decide)) D28_2158.1 P28_2179 (?_ : rSnd _ _ 2161 _)
  exact rSnd_none
theorem P28_2138 : rSnd lab M28 2138 B28_2138 := by
  exact s_Go (pc' := 2344) D28_2138.1 (by decide) P28_2344
theorem P28_2121 : rSnd lab M28 2121 B28_2121 := by
  refine s_Il gk5 (Or.inl D28_2121) ?_
  refine s_If c_ne (fun _ => rfl) (fun _ _ => rfl) (b_ne (tg := 2138) (by decide)) D28_2123.1 P28_2138 (?_ : rSnd _ _ 2126 _)
  refine s_Al gk3 (Or.inr ⟨3, D28_2126, rfl⟩) ?_
  refine s_ic D28_2127 kc_i_0 (by decide) ?_
  refine s_Ald (t := 2) (ty := .long) rfl q_lald rfl D28_2128 ?_
  refine s_Il gk6 (Or.inl D28_2129) ?_
  refine s_I2l D28_2131 ?_
  refine s_Lcmp D28_2132 ?_
  refine s_If c_eq (fun _ => rfl) (fun _ _ => rfl) (b_eq (tg := 2138) (by decide)) D28_2133.1 P28_2138 (?_ : rSnd _ _ 2136 _)
  exact rSnd_none
theorem P28_2085 : rSnd lab M28 2085 B28_2085 := by
  refine s_Al gk1 (Or.inr ⟨1, D28_2085, rfl⟩) ?_
  refine s_Al gk0 (Or.inr ⟨0, D28_2086, rfl⟩) ?_
  refine s_Il gk4 (Or.inl D28_2087) ?_
  refine s_ic D28_2089 kc_i_1 (by decide) ?_
  refine s_Bin q_iadd n_add rG2_x e_add D28_2090 ?_
  refine s_Ial D28_2091 ?_
  refine s_Al gk3 (Or.inr ⟨3, D28_2092, rfl⟩) ?_
  refine s_Cs (id := 35) rfl (l_SX rfl ok33 rfl wd1643 wd1644 D28_2093.1) (?_ : rSnd _ _ 2096 _)
  refine s_Is sk5 (show 5 < 9 from by decide) (Or.inl D28_2096) ?_
  refine s_Al gk2 (Or.inr ⟨2, D28_2098, rfl⟩) ?_
  refine s_Al gk0 (Or.inr ⟨0, D28_2099, rfl⟩) ?_
  refine s_Il gk4 (Or.inl D28_2100) ?_
  refine s_ic D28_2102 kc_i_1 (by decide) ?_
  refine s_Bin q_iadd n_add rG2_x e_add D28_2103 ?_
  refine s_Ial D28_2104 ?_
  refine s_Cv (ln := 3) (kd := 24) (C := "WordWrightModel") (by decide) (by decide +kernel) rfl (l_V rfl ok201 rfl wd2829 wd2830 wd2831 D28_2105.1) (?_ : rSnd _ _ 2108 _)
  refine s_Is sk6 (show 6 < 9 from by decide) (Or.inl D28_2108) ?_
  refine s_Al gk2 (Or.inr ⟨2, D28_2110, rfl⟩) ?_
  refine s_Cv (ln := 3) (kd := 24) (C := "WordWrightModel") (by decide) (by decide +kernel) rfl (l_V rfl ok225 rfl wd2060 wd2061 wd2062 D28_2111.1) (?_ : rSnd _ _ 2114 _)
  refine s_Il gk5 (Or.inl D28_2114) ?_
  refine s_Ic c_eq (i_eq (tg := 2121) (by decide)) D28_2116.1 P28_2121 (?_ : rSnd _ _ 2119 _)
  exact rSnd_none
theorem P28_2082 : rSnd lab M28 2082 B28_2082 := by
  exact s_Go (pc' := 2344) D28_2082.1 (by decide) P28_2344
theorem P28_2065 : rSnd lab M28 2065 B28_2065 := by
  refine s_Il gk5 (Or.inl D28_2065) ?_
  refine s_If c_ne (fun _ => rfl) (fun _ _ => rfl) (b_ne (tg := 2082) (by decide)) D28_2067.1 P28_2082 (?_ : rSnd _ _ 2070 _)
  exact rSnd_none
theorem P28_2029 : rSnd lab M28 2029 B28_2029 := by
  refine s_Al gk1 (Or.inr ⟨1, D28_2029, rfl⟩) ?_
  refine s_Al gk0 (Or.inr ⟨0, D28_2030, rfl⟩) ?_
  refine s_Il gk4 (Or.inl D28_2031) ?_
  refine s_ic D28_2033 kc_i_1 (by decide) ?_
  refine s_Bin q_iadd n_add rG2_x e_add D28_2034 ?_
  refine s_Ial D28_2035 ?_
  refine s_Al gk3 (Or.inr ⟨3, D28_2036, rfl⟩) ?_
  refine s_Cs (id := 20) rfl (l_SX rfl ok19 rfl wd1635 wd1636 D28_2037.1) (?_ : rSnd _ _ 2040 _)
  refine s_Is sk5 (show 5 < 9 from by decide) (Or.inl D28_2040) ?_
  refine s_Al gk2 (Or.inr ⟨2, D28_2042, rfl⟩) ?_
  refine s_Al gk0 (Or.inr ⟨0, D28_2043, rfl⟩) ?_
  refine s_Il gk4 (Or.inl D28_2044) ?_
  refine s_ic D28_2046 kc_i_1 (by decide) ?_
  refine s_Bin q_iadd n_add rG2_x e_add D28_2047 ?_
  refine s_Ial D28_2048 ?_
  refine s_Cv (ln := 3) (kd := 24) (C := "WordWrightModel") (by decide) (by decide +kernel) rfl (l_V rfl ok171 rfl wd2821 wd2822 wd2823 D28_2049.1) (?_ : rSnd _ _ 2052 _)
  refine s_Is sk6 (show 6 < 9 from by decide) (Or.inl D28_2052) ?_
  refine s_Al gk2 (Or.inr ⟨2, D28_2054, rfl⟩) ?_
  refine s_Cv (ln := 3) (kd := 24) (C := "WordWrightModel") (by decide) (by decide +kernel) rfl (l_V rfl ok225 rfl wd2060 wd2061 wd2062 D28_2055.1) (?_ : rSnd _ _ 2058 _)
  refine s_Il gk5 (Or.inl D28_2058) ?_
  refine s_Ic c_eq (i_eq (tg := 2065) (by decide)) D28_2060.1 P28_2065 (?_ : rSnd _ _ 2063 _)
  exact rSnd_none
theorem P28_2026 : rSnd lab M28 2026 B28_2026 := by
  exact s_Go (pc' := 2344) D28_2026.1 (by decide) P28_2344
theorem P28_2009 : rSnd lab M28 2009 B28_2009 := by
  refine s_Il gk5 (Or.inl D28_2009) ?_
  refine s_If c_ne (fun _ => rfl) (fun _ _ => rfl) (b_ne (tg := 2026) (by decide)) D28_2011.1 P28_2026 (?_ : rSnd _ _ 2014 _)
  refine s_Al gk3 (Or.inr ⟨3, D28_2014, rfl⟩) ?_
  refine s_ic D28_2015 kc_i_0 (by decide) ?_
  refine s_Ald (t := 2) (ty := .long) rfl q_lald rfl D28_2016 ?_
  refine s_Il gk6 (Or.inl D28_2017) ?_
  refine s_I2l D28_2019 ?_
  refine s_Lcmp D28_2020 ?_
  refine s_If c_eq (fun _ => rfl) (fun _ _ => rfl) (b_eq (tg := 2026) (by decide)) D28_2021.1 P28_2026 (?_ : rSnd _ _ 2024 _)
  exact rSnd_none
theorem P28_1949 : rSnd lab M28 1949 B28_1949 := by
  refine s_Al gk1 (Or.inr ⟨1, D28_1949, rfl⟩) ?_
  refine s_Al gk0 (Or.inr ⟨0, D28_1950, rfl⟩) ?_
  refine s_Il gk4 (Or.inl D28_1951) ?_
  refine s_ic D28_1953 kc_i_1 (by decide) ?_
  refine s_Bin q_iadd n_add rG2_x e_add D28_1954 ?_
  refine s_Ial D28_1955 ?_
  refine s_Al gk0 (Or.inr ⟨0, D28_1956, rfl⟩) ?_
  refine s_Il gk4 (Or.inl D28_1957) ?_
  refine s_ic D28_1959 kc_i_2 (by decide) ?_
  refine s_Bin q_iadd n_add rG2_x e_add D28_1960 ?_
  refine s_Ial D28_1961 ?_
  refine s_Al gk0 (Or.inr ⟨0, D28_1962, rfl⟩) ?_
  refine s_Il gk4 (Or.inl D28_1963) ?_
  refine s_ic D28_1965 kc_i_3 (by decide) ?_
  refine s_Bin q_iadd n_add rG2_x e_add D28_1966 ?_
  refine s_Ial D28_1967 ?_
  refine s_Al gk3 (Or.inr ⟨3, D28_1968, rfl⟩) ?_
  refine s_Cs (id := 44) rfl (l_SX rfl ok42 rfl wd1626 wd1627 D28_1969.1) (?_ : rSnd _ _ 1972 _)
  refine s_Is sk5 (show 5 < 9 from by decide) (Or.inl D28_1972) ?_
  refine s_Al gk2 (Or.inr ⟨2, D28_1974, rfl⟩) ?_
  refine s_Al gk0 (Or.inr ⟨0, D28_1975, rfl⟩) ?_
  refine s_Il gk4 (Or.inl D28_1976) ?_
  refine s_ic D28_1978 kc_i_1 (by decide) ?_
  refine s_Bin q_iadd n_add rG2_x e_add D28_1979 ?_
  refine s_Ial D28_1980 ?_
  refine s_Al gk0 (Or.inr ⟨0, D28_1981, rfl⟩) ?_
  refine s_Il gk4 (Or.inl D28_1982) ?_
  refine s_ic D28_1984 kc_i_2 (by decide) ?_
  refine s_Bin q_iadd n_add rG2_x e_add D28_1985 ?_
  refine s_Ial D28_1986 ?_
  refine s_Al gk0 (Or.inr ⟨0, D28_1987, rfl⟩) ?_
  refine s_Il gk4 (Or.inl D28_1988) ?_
  refine s_ic D28_1990 kc_i_3 (by decide) ?_
  refine s_Bin q_iadd n_add rG2_x e_add D28_1991 ?_
  refine s_Ial D28_1992 ?_
  refine s_Cv (ln := 3) (kd := 24) (C := "WordWrightModel") (by decide) (by decide +kernel) rfl (l_V rfl ok219 rfl wd2755 wd2756 wd2757 D28_1993.1) (?_ : rSnd _ _ 1996 _)
  refine s_Is sk6 (show 6 < 9 from by decide) (Or.inl D28_1996) ?_
  refine s_Al gk2 (Or.inr ⟨2, D28_1998, rfl⟩) ?_
  refine s_Cv (ln := 3) (kd := 24) (C := "WordWrightModel") (by decide) (by decide +kernel) rfl (l_V rfl ok225 rfl wd2060 wd2061 wd2062 D28_1999.1) (?_ : rSnd _ _ 2002 _)
  refine s_Il gk5 (Or.inl D28_2002) ?_
  refine s_Ic c_eq (i_eq (tg := 2009) (by decide)) D28_2004.1 P28_2009 (?_ : rSnd _ _ 2007 _)
  exact rSnd_none
theorem P28_1936 : rSnd lab M28 1936 B28_1936 := by
  refine s_Al gk1 (Or.inr ⟨1, D28_1936, rfl⟩) ?_
  refine s_Cv (ln := 3) (kd := 2) (C := "WordWright") (by decide) (by decide +kernel) rfl (l_V rfl ok66 rfl wd590 wd591 wd592 D28_1937.1) (?_ : rSnd _ _ 1940 _)
  refine s_Al gk2 (Or.inr ⟨2, D28_1940, rfl⟩) ?_
  refine s_Cv (ln := 3) (kd := 24) (C := "WordWrightModel") (by decide) (by decide +kernel) rfl (l_V rfl ok176 rfl wd2742 wd2743 wd2744 D28_1941.1) (?_ : rSnd _ _ 1944 _)
  refine s_Ic c_eq (i_eq (tg := 2344) (by decide)) D28_1944.1 P28_2344 (?_ : rSnd _ _ 1947 _)
  exact rSnd_none
theorem P28_1933 : rSnd lab M28 1933 B28_1933 := by
  exact s_Go (pc' := 2344) D28_1933.1 (by decide) P28_2344
theorem P28_1916 : rSnd lab M28 1916 B28_1916 := by
  refine s_Il gk5 (Or.inl D28_1916) ?_
  refine s_If c_ne (fun _ => rfl) (fun _ _ => rfl) (b_ne (tg := 1933) (by decide)) D28_1918.1 P28_1933 (?_ : rSnd _ _ 1921 _)
  refine s_Al gk3 (Or.inr ⟨3, D28_1921, rfl⟩) ?_
  refine s_ic D28_1922 kc_i_0 (by decide) ?_
  refine s_Ald (t := 2) (ty := .long) rfl q_lald rfl D28_1923 ?_
  refine s_Il gk6 (Or.inl D28_1924) ?_
  refine s_I2l D28_1926 ?_
  refine s_Lcmp D28_1927 ?_
  refine s_If c_eq (fun _ => rfl) (fun _ _ => rfl) (b_eq (tg := 1933) (by decide)) D28_1928.1 P28_1933 (?_ : rSnd _ _ 1931 _)
  exact rSnd_none
theorem P28_1844 : rSnd lab M28 1844 B28_1844 := by
  refine s_Al gk1 (Or.inr ⟨1, D28_1844, rfl⟩) ?_
  refine s_Al gk0 (Or.inr ⟨0, D28_1845, rfl⟩) ?_
  refine s_Il gk4 (Or.inl D28_1846) ?_
  refine s_ic D28_1848 kc_i_1 (by decide) ?_
  refine s_Bin q_iadd n_add rG2_x e_add D28_1849 ?_
  refine s_Ial D28_1850 ?_
  refine s_Al gk0 (Or.inr ⟨0, D28_1851, rfl⟩) ?_
  refine s_Il gk4 (Or.inl D28_1852) ?_
  refine s_ic D28_1854 kc_i_2 (by decide) ?_
  refine s_Bin q_iadd n_add rG2_x e_add D28_1855 ?_
  refine s_Ial D28_1856 ?_
  refine s_Al gk0 (Or.inr ⟨0, D28_1857, rfl⟩) ?_
  refine s_Il gk4 (Or.inl D28_1858) ?_
  refine s_ic D28_1860 kc_i_3 (by decide) ?_
  refine s_Bin q_iadd n_add rG2_x e_add D28_1861 ?_
  refine s_Ial D28_1862 ?_
  refine s_Al gk0 (Or.inr ⟨0, D28_1863, rfl⟩) ?_
  refine s_Il gk4 (Or.inl D28_1864) ?_
  refine s_ic D28_1866 kc_i_4 (by decide) ?_
  refine s_Bin q_iadd n_add rG2_x e_add D28_1867 ?_
  refine s_Ial D28_1868 ?_
  refine s_Al gk3 (Or.inr ⟨3, D28_1869, rfl⟩) ?_
  refine s_Cs (id := 45) rfl (l_SX rfl ok43 rfl wd1605 wd1606 D28_1870.1) (?_ : rSnd _ _ 1873 _)
  refine s_Is sk5 (show 5 < 9 from by decide) (Or.inl D28_1873) ?_
  refine s_Al gk2 (Or.inr ⟨2, D28_1875, rfl⟩) ?_
  refine s_Al gk0 (Or.inr ⟨0, D28_1876, rfl⟩) ?_
  refine s_Il gk4 (Or.inl D28_1877) ?_
  refine s_ic D28_1879 kc_i_1 (by decide) ?_
  refine s_Bin q_iadd n_add rG2_x e_add D28_1880 ?_
  refine s_Ial D28_1881 ?_
  refine s_Al gk0 (Or.inr ⟨0, D28_1882, rfl⟩) ?_
  refine s_Il gk4 (Or.inl D28_1883) ?_
  refine s_ic D28_1885 kc_i_2 (by decide) ?_
  refine s_Bin q_iadd n_add rG2_x e_add D28_1886 ?_
  refine s_Ial D28_1887 ?_
  refine s_Al gk0 (Or.inr ⟨0, D28_1888, rfl⟩) ?_
  refine s_Il gk4 (Or.inl D28_1889) ?_
  refine s_ic D28_1891 kc_i_3 (by decide) ?_
  refine s_Bin q_iadd n_add rG2_x e_add D28_1892 ?_
  refine s_Ial D28_1893 ?_
  refine s_Al gk0 (Or.inr ⟨0, D28_1894, rfl⟩) ?_
  refine s_Il gk4 (Or.inl D28_1895) ?_
  refine s_ic D28_1897 kc_i_4 (by decide) ?_
  refine s_Bin q_iadd n_add rG2_x e_add D28_1898 ?_
  refine s_Ial D28_1899 ?_
  refine s_Cv (ln := 3) (kd := 24) (C := "WordWrightModel") (by decide) (by decide +kernel) rfl (l_V rfl ok223 rfl wd2712 wd2713 wd2714 D28_1900.1) (?_ : rSnd _ _ 1903 _)
  refine s_Is sk6 (show 6 < 9 from by decide) (Or.inl D28_1903) ?_
  refine s_Al gk2 (Or.inr ⟨2, D28_1905, rfl⟩) ?_
  refine s_Cv (ln := 3) (kd := 24) (C := "WordWrightModel") (by decide) (by decide +kernel) rfl (l_V rfl ok225 rfl wd2060 wd2061 wd2062 D28_1906.1) (?_ : rSnd _ _ 1909 _)
  refine s_Il gk5 (Or.inl D28_1909) ?_
  refine s_Ic c_eq (i_eq (tg := 1916) (by decide)) D28_1911.1 P28_1916 (?_ : rSnd _ _ 1914 _)
  exact rSnd_none
theorem P28_1841 : rSnd lab M28 1841 B28_1841 := by
  exact s_Go (pc' := 2344) D28_1841.1 (by decide) P28_2344
theorem P28_1824 : rSnd lab M28 1824 B28_1824 := by
  refine s_Il gk5 (Or.inl D28_1824) ?_
  refine s_If c_ne (fun _ => rfl) (fun _ _ => rfl) (b_ne (tg := 1841) (by decide)) D28_1826.1 P28_1841 (?_ : rSnd _ _ 1829 _)
  exact rSnd_none
theorem P28_1776 : rSnd lab M28 1776 B28_1776 := by
  refine s_Al gk1 (Or.inr ⟨1, D28_1776, rfl⟩) ?_
  refine s_Al gk0 (Or.inr ⟨0, D28_1777, rfl⟩) ?_
  refine s_Il gk4 (Or.inl D28_1778) ?_
  refine s_ic D28_1780 kc_i_1 (by decide) ?_
  refine s_Bin q_iadd n_add rG2_x e_add D28_1781 ?_
  refine s_Ial D28_1782 ?_
  refine s_Al gk0 (Or.inr ⟨0, D28_1783, rfl⟩) ?_
  refine s_Il gk4 (Or.inl D28_1784) ?_
  refine s_ic D28_1786 kc_i_2 (by decide) ?_
  refine s_Bin q_iadd n_add rG2_x e_add D28_1787 ?_
  refine s_Ial D28_1788 ?_
  refine s_Al gk3 (Or.inr ⟨3, D28_1789, rfl⟩) ?_
  refine s_Cs (id := 48) rfl (l_SX rfl ok46 rfl wd1598 wd1599 D28_1790.1) (?_ : rSnd _ _ 1793 _)
  refine s_Is sk5 (show 5 < 9 from by decide) (Or.inl D28_1793) ?_
  refine s_Al gk2 (Or.inr ⟨2, D28_1795, rfl⟩) ?_
  refine s_Al gk0 (Or.inr ⟨0, D28_1796, rfl⟩) ?_
  refine s_Il gk4 (Or.inl D28_1797) ?_
  refine s_ic D28_1799 kc_i_1 (by decide) ?_
  refine s_Bin q_iadd n_add rG2_x e_add D28_1800 ?_
  refine s_Ial D28_1801 ?_
  refine s_Al gk0 (Or.inr ⟨0, D28_1802, rfl⟩) ?_
  refine s_Il gk4 (Or.inl D28_1803) ?_
  refine s_ic D28_1805 kc_i_2 (by decide) ?_
  refine s_Bin q_iadd n_add rG2_x e_add D28_1806 ?_
  refine s_Ial D28_1807 ?_
  refine s_Cv (ln := 3) (kd := 24) (C := "WordWrightModel") (by decide) (by decide +kernel) rfl (l_V rfl ok228 rfl wd2702 wd2703 wd2704 D28_1808.1) (?_ : rSnd _ _ 1811 _)
  refine s_Is sk6 (show 6 < 9 from by decide) (Or.inl D28_1811) ?_
  refine s_Al gk2 (Or.inr ⟨2, D28_1813, rfl⟩) ?_
  refine s_Cv (ln := 3) (kd := 24) (C := "WordWrightModel") (by decide) (by decide +kernel) rfl (l_V rfl ok225 rfl wd2060 wd2061 wd2062 D28_1814.1) (?_ : rSnd _ _ 1817 _)
  refine s_Il gk5 (Or.inl D28_1817) ?_
  refine s_Ic c_eq (i_eq (tg := 1824) (by decide)) D28_1819.1 P28_1824 (?_ : rSnd _ _ 1822 _)
  exact rSnd_none
theorem P28_1773 : rSnd lab M28 1773 B28_1773 := by
  exact s_Go (pc' := 2344) D28_1773.1 (by decide) P28_2344
theorem P28_1756 : rSnd lab M28 1756 B28_1756 := by
  refine s_Il gk5 (Or.inl D28_1756) ?_
  refine s_If c_ne (fun _ => rfl) (fun _ _ => rfl) (b_ne (tg := 1773) (by decide)) D28_1758.1 P28_1773 (?_ : rSnd _ _ 1761 _)
  exact rSnd_none
theorem P28_1708 : rSnd lab M28 1708 B28_1708 := by
  refine s_Al gk1 (Or.inr ⟨1, D28_1708, rfl⟩) ?_
  refine s_Al gk0 (Or.inr ⟨0, D28_1709, rfl⟩) ?_
  refine s_Il gk4 (Or.inl D28_1710) ?_
  refine s_ic D28_1712 kc_i_1 (by decide) ?_
  refine s_Bin q_iadd n_add rG2_x e_add D28_1713 ?_
  refine s_Ial D28_1714 ?_
  refine s_Al gk0 (Or.inr ⟨0, D28_1715, rfl⟩) ?_
  refine s_Il gk4 (Or.inl D28_1716) ?_
  refine s_ic D28_1718 kc_i_2 (by decide) ?_
  refine s_Bin q_iadd n_add rG2_x e_add D28_1719 ?_
  refine s_Ial D28_1720 ?_
  refine s_Al gk3 (Or.inr ⟨3, D28_1721, rfl⟩) ?_
  refine s_Cs (id := 31) rfl (l_SX rfl ok29 rfl wd1591 wd1592 D28_1722.1) (?_ : rSnd _ _ 1725 _)
  refine s_Is sk5 (show 5 < 9 from by decide) (Or.inl D28_1725) ?_
  refine s_Al gk2 (Or.inr ⟨2, D28_1727, rfl⟩) ?_
  refine s_Al gk0 (Or.inr ⟨0, D28_1728, rfl⟩) ?_
  refine s_Il gk4 (Or.inl D28_1729) ?_
  refine s_ic D28_1731 kc_i_1 (by decide) ?_
  refine s_Bin q_iadd n_add rG2_x e_add D28_1732 ?_
  refine s_Ial D28_1733 ?_
  refine s_Al gk0 (Or.inr ⟨0, D28_1734, rfl⟩) ?_
  refine s_Il gk4 (Or.inl D28_1735) ?_
  refine s_ic D28_1737 kc_i_2 (by decide) ?_
  refine s_Bin q_iadd n_add rG2_x e_add D28_1738 ?_
  refine s_Ial D28_1739 ?_
  refine s_Cv (ln := 3) (kd := 24) (C := "WordWrightModel") (by decide) (by decide +kernel) rfl (l_V rfl ok193 rfl wd2690 wd2691 wd2692 D28_1740.1) (?_ : rSnd _ _ 1743 _)
  refine s_Is sk6 (show 6 < 9 from by decide) (Or.inl D28_1743) ?_
  refine s_Al gk2 (Or.inr ⟨2, D28_1745, rfl⟩) ?_
  refine s_Cv (ln := 3) (kd := 24) (C := "WordWrightModel") (by decide) (by decide +kernel) rfl (l_V rfl ok225 rfl wd2060 wd2061 wd2062 D28_1746.1) (?_ : rSnd _ _ 1749 _)
  refine s_Il gk5 (Or.inl D28_1749) ?_
  refine s_Ic c_eq (i_eq (tg := 1756) (by decide)) D28_1751.1 P28_1756 (?_ : rSnd _ _ 1754 _)
  exact rSnd_none
theorem P28_1705 : rSnd lab M28 1705 B28_1705 := by
  exact s_Go (pc' := 2344) D28_1705.1 (by decide) P28_2344
theorem P28_1688 : rSnd lab M28 1688 B28_1688 := by
  refine s_Il gk5 (Or.inl D28_1688) ?_
  refine s_If c_ne (fun _ => rfl) (fun _ _ => rfl) (b_ne (tg := 1705) (by decide)) D28_1690.1 P28_1705 (?_ : rSnd _ _ 1693 _)
  exact rSnd_none
theorem P28_1652 : rSnd lab M28 1652 B28_1652 := by
  refine s_Al gk1 (Or.inr ⟨1, D28_1652, rfl⟩) ?_
  refine s_Al gk0 (Or.inr ⟨0, D28_1653, rfl⟩) ?_
  refine s_Il gk4 (Or.inl D28_1654) ?_
  refine s_ic D28_1656 kc_i_1 (by decide) ?_
  refine s_Bin q_iadd n_add rG2_x e_add D28_1657 ?_
  refine s_Ial D28_1658 ?_
  refine s_Al gk3 (Or.inr ⟨3, D28_1659, rfl⟩) ?_
  refine s_Cs (id := 36) rfl (l_SX rfl ok34 rfl wd1582 wd1583 D28_1660.1) (?_ : rSnd _ _ 1663 _)
  refine s_Is sk5 (show 5 < 9 from by decide) (Or.inl D28_1663) ?_
  refine s_Al gk2 (Or.inr ⟨2, D28_1665, rfl⟩) ?_
  refine s_Al gk0 (Or.inr ⟨0, D28_1666, rfl⟩) ?_
  refine s_Il gk4 (Or.inl D28_1667) ?_
  refine s_ic D28_1669 kc_i_1 (by decide) ?_
  refine s_Bin q_iadd n_add rG2_x e_add D28_1670 ?_
  refine s_Ial D28_1671 ?_
  refine s_Cv (ln := 3) (kd := 24) (C := "WordWrightModel") (by decide) (by decide +kernel) rfl (l_V rfl ok205 rfl wd2682 wd2683 wd2684 D28_1672.1) (?_ : rSnd _ _ 1675 _)
  refine s_Is sk6 (show 6 < 9 from by decide) (Or.inl D28_1675) ?_
  refine s_Al gk2 (Or.inr ⟨2, D28_1677, rfl⟩) ?_
  refine s_Cv (ln := 3) (kd := 24) (C := "WordWrightModel") (by decide) (by decide +kernel) rfl (l_V rfl ok225 rfl wd2060 wd2061 wd2062 D28_1678.1) (?_ : rSnd _ _ 1681 _)
  refine s_Il gk5 (Or.inl D28_1681) ?_
  refine s_Ic c_eq (i_eq (tg := 1688) (by decide)) D28_1683.1 P28_1688 (?_ : rSnd _ _ 1686 _)
  exact rSnd_none
theorem P28_1649 : rSnd lab M28 1649 B28_1649 := by
  exact s_Go (pc' := 2344) D28_1649.1 (by decide) P28_2344
theorem P28_1632 : rSnd lab M28 1632 B28_1632 := by
  refine s_Il gk5 (Or.inl D28_1632) ?_
  refine s_If c_ne (fun _ => rfl) (fun _ _ => rfl) (b_ne (tg := 1649) (by decide)) D28_1634.1 P28_1649 (?_ : rSnd _ _ 1637 _)
  refine s_Al gk3 (Or.inr ⟨3, D28_1637, rfl⟩) ?_
  refine s_ic D28_1638 kc_i_0 (by decide) ?_
  refine s_Ald (t := 2) (ty := .long) rfl q_lald rfl D28_1639 ?_
  refine s_Il gk6 (Or.inl D28_1640) ?_
  refine s_I2l D28_1642 ?_
  refine s_Lcmp D28_1643 ?_
  refine s_If c_eq (fun _ => rfl) (fun _ _ => rfl) (b_eq (tg := 1649) (by decide)) D28_1644.1 P28_1649 (?_ : rSnd _ _ 1647 _)
  exact rSnd_none
theorem P28_1584 : rSnd lab M28 1584 B28_1584 := by
  refine s_Al gk1 (Or.inr ⟨1, D28_1584, rfl⟩) ?_
  refine s_Al gk0 (Or.inr ⟨0, D28_1585, rfl⟩) ?_
  refine s_Il gk4 (Or.inl D28_1586) ?_
  refine s_ic D28_1588 kc_i_1 (by decide) ?_
  refine s_Bin q_iadd n_add rG2_x e_add D28_1589 ?_
  refine s_Ial D28_1590 ?_
  refine s_Al gk0 (Or.inr ⟨0, D28_1591, rfl⟩) ?_
  refine s_Il gk4 (Or.inl D28_1592) ?_
  refine s_ic D28_1594 kc_i_2 (by decide) ?_
  refine s_Bin q_iadd n_add rG2_x e_add D28_1595 ?_
  refine s_Ial D28_1596 ?_
  refine s_Al gk3 (Or.inr ⟨3, D28_1597, rfl⟩) ?_
  refine s_Cs (id := 38) rfl (l_SX rfl ok36 rfl wd1565 wd1566 D28_1598.1) (?_ : rSnd _ _ 1601 _)
  refine s_Is sk5 (show 5 < 9 from by decide) (Or.inl D28_1601) ?_
  refine s_Al gk2 (Or.inr ⟨2, D28_1603, rfl⟩) ?_
  refine s_Al gk0 (Or.inr ⟨0, D28_1604, rfl⟩) ?_
  refine s_Il gk4 (Or.inl D28_1605) ?_
  refine s_ic D28_1607 kc_i_1 (by decide) ?_
  refine s_Bin q_iadd n_add rG2_x e_add D28_1608 ?_
  refine s_Ial D28_1609 ?_
  refine s_Al gk0 (Or.inr ⟨0, D28_1610, rfl⟩) ?_
  refine s_Il gk4 (Or.inl D28_1611) ?_
  refine s_ic D28_1613 kc_i_2 (by decide) ?_
  refine s_Bin q_iadd n_add rG2_x e_add D28_1614 ?_
  refine s_Ial D28_1615 ?_
  refine s_Cv (ln := 3) (kd := 24) (C := "WordWrightModel") (by decide) (by decide +kernel) rfl (l_V rfl ok208 rfl wd2678 wd2679 wd2680 D28_1616.1) (?_ : rSnd _ _ 1619 _)
  refine s_Is sk6 (show 6 < 9 from by decide) (Or.inl D28_1619) ?_
  refine s_Al gk2 (Or.inr ⟨2, D28_1621, rfl⟩) ?_
  refine s_Cv (ln := 3) (kd := 24) (C := "WordWrightModel") (by decide) (by decide +kernel) rfl (l_V rfl ok225 rfl wd2060 wd2061 wd2062 D28_1622.1) (?_ : rSnd _ _ 1625 _)
  refine s_Il gk5 (Or.inl D28_1625) ?_
  refine s_Ic c_eq (i_eq (tg := 1632) (by decide)) D28_1627.1 P28_1632 (?_ : rSnd _ _ 1630 _)
  exact rSnd_none
theorem P28_1581 : rSnd lab M28 1581 B28_1581 := by
  exact s_Go (pc' := 2344) D28_1581.1 (by decide) P28_2344
theorem P28_1564 : rSnd lab M28 1564 B28_1564 := by
  refine s_Il gk5 (Or.inl D28_1564) ?_
  refine s_If c_ne (fun _ => rfl) (fun _ _ => rfl) (b_ne (tg := 1581) (by decide)) D28_1566.1 P28_1581 (?_ : rSnd _ _ 1569 _)
  exact rSnd_none
theorem P28_1504 : rSnd lab M28 1504 B28_1504 := by
  refine s_Al gk1 (Or.inr ⟨1, D28_1504, rfl⟩) ?_
  refine s_Al gk0 (Or.inr ⟨0, D28_1505, rfl⟩) ?_
  refine s_Il gk4 (Or.inl D28_1506) ?_
  refine s_ic D28_1508 kc_i_1 (by decide) ?_
  refine s_Bin q_iadd n_add rG2_x e_add D28_1509 ?_
  refine s_Ial D28_1510 ?_
  refine s_Al gk0 (Or.inr ⟨0, D28_1511, rfl⟩) ?_
  refine s_Il gk4 (Or.inl D28_1512) ?_
  refine s_ic D28_1514 kc_i_2 (by decide) ?_
  refine s_Bin q_iadd n_add rG2_x e_add D28_1515 ?_
  refine s_Ial D28_1516 ?_
  refine s_Al gk0 (Or.inr ⟨0, D28_1517, rfl⟩) ?_
  refine s_Il gk4 (Or.inl D28_1518) ?_
  refine s_ic D28_1520 kc_i_3 (by decide) ?_
  refine s_Bin q_iadd n_add rG2_x e_add D28_1521 ?_
  refine s_Ial D28_1522 ?_
  refine s_Al gk3 (Or.inr ⟨3, D28_1523, rfl⟩) ?_
  refine s_Cs (id := 21) rfl (l_SX rfl ok20 rfl wd1553 wd1554 D28_1524.1) (?_ : rSnd _ _ 1527 _)
  refine s_Is sk5 (show 5 < 9 from by decide) (Or.inl D28_1527) ?_
  refine s_Al gk2 (Or.inr ⟨2, D28_1529, rfl⟩) ?_
  refine s_Al gk0 (Or.inr ⟨0, D28_1530, rfl⟩) ?_
  refine s_Il gk4 (Or.inl D28_1531) ?_
  refine s_ic D28_1533 kc_i_1 (by decide) ?_
  refine s_Bin q_iadd n_add rG2_x e_add D28_1534 ?_
  refine s_Ial D28_1535 ?_
  refine s_Al gk0 (Or.inr ⟨0, D28_1536, rfl⟩) ?_
  refine s_Il gk4 (Or.inl D28_1537) ?_
  refine s_ic D28_1539 kc_i_2 (by decide) ?_
  refine s_Bin q_iadd n_add rG2_x e_add D28_1540 ?_
  refine s_Ial D28_1541 ?_
  refine s_Al gk0 (Or.inr ⟨0, D28_1542, rfl⟩) ?_
  refine s_Il gk4 (Or.inl D28_1543) ?_
  refine s_ic D28_1545 kc_i_3 (by decide) ?_
  refine s_Bin q_iadd n_add rG2_x e_add D28_1546 ?_
  refine s_Ial D28_1547 ?_
  refine s_Cv (ln := 3) (kd := 24) (C := "WordWrightModel") (by decide) (by decide +kernel) rfl (l_V rfl ok172 rfl wd2673 wd2674 wd2675 D28_1548.1) (?_ : rSnd _ _ 1551 _)
  refine s_Is sk6 (show 6 < 9 from by decide) (Or.inl D28_1551) ?_
  refine s_Al gk2 (Or.inr ⟨2, D28_1553, rfl⟩) ?_
  refine s_Cv (ln := 3) (kd := 24) (C := "WordWrightModel") (by decide) (by decide +kernel) rfl (l_V rfl ok225 rfl wd2060 wd2061 wd2062 D28_1554.1) (?_ : rSnd _ _ 1557 _)
  refine s_Il gk5 (Or.inl D28_1557) ?_
  refine s_Ic c_eq (i_eq (tg := 1564) (by decide)) D28_1559.1 P28_1564 (?_ : rSnd _ _ 1562 _)
  exact rSnd_none
theorem P28_1501 : rSnd lab M28 1501 B28_1501 := by
  exact s_Go (pc' := 2344) D28_1501.1 (by decide) P28_2344
theorem P28_1484 : rSnd lab M28 1484 B28_1484 := by
  refine s_Il gk5 (Or.inl D28_1484) ?_
  refine s_If c_ne (fun _ => rfl) (fun _ _ => rfl) (b_ne (tg := 1501) (by decide)) D28_1486.1 P28_1501 (?_ : rSnd _ _ 1489 _)
  refine s_Al gk3 (Or.inr ⟨3, D28_1489, rfl⟩) ?_
  refine s_ic D28_1490 kc_i_0 (by decide) ?_
  refine s_Ald (t := 2) (ty := .long) rfl q_lald rfl D28_1491 ?_
  refine s_Il gk6 (Or.inl D28_1492) ?_
  refine s_I2l D28_1494 ?_
  refine s_Lcmp D28_1495 ?_
  refine s_If c_eq (fun _ => rfl) (fun _ _ => rfl) (b_eq (tg := 1501) (by decide)) D28_1496.1 P28_1501 (?_ : rSnd _ _ 1499 _)
  exact rSnd_none
theorem P28_1460 : rSnd lab M28 1460 B28_1460 := by
  refine s_Al gk1 (Or.inr ⟨1, D28_1460, rfl⟩) ?_
  refine s_Al gk3 (Or.inr ⟨3, D28_1461, rfl⟩) ?_
  refine s_Cs (id := 40) rfl (l_SX rfl ok38 rfl wd1545 wd1546 D28_1462.1) (?_ : rSnd _ _ 1465 _)
  refine s_Is sk5 (show 5 < 9 from by decide) (Or.inl D28_1465) ?_
  refine s_Al gk2 (Or.inr ⟨2, D28_1467, rfl⟩) ?_
  refine s_Cv (ln := 3) (kd := 24) (C := "WordWrightModel") (by decide) (by decide +kernel) rfl (l_V rfl ok213 rfl wd2669 wd2670 wd2671 D28_1468.1) (?_ : rSnd _ _ 1471 _)
  refine s_Is sk6 (show 6 < 9 from by decide) (Or.inl D28_1471) ?_
  refine s_Al gk2 (Or.inr ⟨2, D28_1473, rfl⟩) ?_
  refine s_Cv (ln := 3) (kd := 24) (C := "WordWrightModel") (by decide) (by decide +kernel) rfl (l_V rfl ok225 rfl wd2060 wd2061 wd2062 D28_1474.1) (?_ : rSnd _ _ 1477 _)
  refine s_Il gk5 (Or.inl D28_1477) ?_
  refine s_Ic c_eq (i_eq (tg := 1484) (by decide)) D28_1479.1 P28_1484 (?_ : rSnd _ _ 1482 _)
  exact rSnd_none
theorem P28_1447 : rSnd lab M28 1447 B28_1447 := by
  refine s_Al gk1 (Or.inr ⟨1, D28_1447, rfl⟩) ?_
  refine s_Cv (ln := 3) (kd := 2) (C := "WordWright") (by decide) (by decide +kernel) rfl (l_V rfl ok100 rfl wd476 wd477 wd478 D28_1448.1) (?_ : rSnd _ _ 1451 _)
  refine s_Al gk2 (Or.inr ⟨2, D28_1451, rfl⟩) ?_
  refine s_Cv (ln := 3) (kd := 24) (C := "WordWrightModel") (by decide) (by decide +kernel) rfl (l_V rfl ok216 rfl wd2665 wd2666 wd2667 D28_1452.1) (?_ : rSnd _ _ 1455 _)
  refine s_Ic c_eq (i_eq (tg := 2344) (by decide)) D28_1455.1 P28_2344 (?_ : rSnd _ _ 1458 _)
  exact rSnd_none
theorem P28_1444 : rSnd lab M28 1444 B28_1444 := by
  exact s_Go (pc' := 2344) D28_1444.1 (by decide) P28_2344
theorem P28_1427 : rSnd lab M28 1427 B28_1427 := by
  refine s_Il gk5 (Or.inl D28_1427) ?_
  refine s_If c_ne (fun _ => rfl) (fun _ _ => rfl) (b_ne (tg := 1444) (by decide)) D28_1429.1 P28_1444 (?_ : rSnd _ _ 1432 _)
  refine s_Al gk3 (Or.inr ⟨3, D28_1432, rfl⟩) ?_
  refine s_ic D28_1433 kc_i_0 (by decide) ?_
  refine s_Ald (t := 2) (ty := .long) rfl q_lald rfl D28_1434 ?_
  refine s_Il gk6 (Or.inl D28_1435) ?_
  refine s_I2l D28_1437 ?_
  refine s_Lcmp D28_1438 ?_
  refine s_If c_eq (fun _ => rfl) (fun _ _ => rfl) (b_eq (tg := 1444) (by decide)) D28_1439.1 P28_1444 (?_ : rSnd _ _ 1442 _)
  exact rSnd_none
theorem P28_1391 : rSnd lab M28 1391 B28_1391 := by
  refine s_Al gk1 (Or.inr ⟨1, D28_1391, rfl⟩) ?_
  refine s_Al gk0 (Or.inr ⟨0, D28_1392, rfl⟩) ?_
  refine s_Il gk4 (Or.inl D28_1393) ?_
  refine s_ic D28_1395 kc_i_1 (by decide) ?_
  refine s_Bin q_iadd n_add rG2_x e_add D28_1396 ?_
  refine s_Ial D28_1397 ?_
  refine s_Al gk3 (Or.inr ⟨3, D28_1398, rfl⟩) ?_
  refine s_Cs (id := 43) rfl (l_SX rfl ok41 rfl wd1538 wd1539 D28_1399.1) (?_ : rSnd _ _ 1402 _)
  refine s_Is sk5 (show 5 < 9 from by decide) (Or.inl D28_1402) ?_
  refine s_Al gk2 (Or.inr ⟨2, D28_1404, rfl⟩) ?_
  refine s_Al gk0 (Or.inr ⟨0, D28_1405, rfl⟩) ?_
  refine s_Il gk4 (Or.inl D28_1406) ?_
  refine s_ic D28_1408 kc_i_1 (by decide) ?_
  refine s_Bin q_iadd n_add rG2_x e_add D28_1409 ?_
  refine s_Ial D28_1410 ?_
  refine s_Cv (ln := 3) (kd := 24) (C := "WordWrightModel") (by decide) (by decide +kernel) rfl (l_V rfl ok218 rfl wd2614 wd2615 wd2616 D28_1411.1) (?_ : rSnd _ _ 1414 _)
  refine s_Is sk6 (show 6 < 9 from by decide) (Or.inl D28_1414) ?_
  refine s_Al gk2 (Or.inr ⟨2, D28_1416, rfl⟩) ?_
  refine s_Cv (ln := 3) (kd := 24) (C := "WordWrightModel") (by decide) (by decide +kernel) rfl (l_V rfl ok225 rfl wd2060 wd2061 wd2062 D28_1417.1) (?_ : rSnd _ _ 1420 _)
  refine s_Il gk5 (Or.inl D28_1420) ?_
  refine s_Ic c_eq (i_eq (tg := 1427) (by decide)) D28_1422.1 P28_1427 (?_ : rSnd _ _ 1425 _)
  exact rSnd_none
theorem P28_1388 : rSnd lab M28 1388 B28_1388 := by
  exact s_Go (pc' := 2344) D28_1388.1 (by decide) P28_2344
theorem P28_1371 : rSnd lab M28 1371 B28_1371 := by
  refine s_Il gk5 (Or.inl D28_1371) ?_
  refine s_If c_ne (fun _ => rfl) (fun _ _ => rfl) (b_ne (tg := 1388) (by decide)) D28_1373.1 P28_1388 (?_ : rSnd _ _ 1376 _)
  exact rSnd_none
theorem P28_1347 : rSnd lab M28 1347 B28_1347 := by
  refine s_Al gk1 (Or.inr ⟨1, D28_1347, rfl⟩) ?_
  refine s_Al gk3 (Or.inr ⟨3, D28_1348, rfl⟩) ?_
  refine s_Cs (id := 47) rfl (l_SX rfl ok45 rfl wd1526 wd1527 D28_1349.1) (?_ : rSnd _ _ 1352 _)
  refine s_Is sk5 (show 5 < 9 from by decide) (Or.inl D28_1352) ?_
  refine s_Al gk2 (Or.inr ⟨2, D28_1354, rfl⟩) ?_
  refine s_Cv (ln := 3) (kd := 24) (C := "WordWrightModel") (by decide) (by decide +kernel) rfl (l_V rfl ok227 rfl wd2587 wd2588 wd2589 D28_1355.1) (?_ : rSnd _ _ 1358 _)
  refine s_Is sk6 (show 6 < 9 from by decide) (Or.inl D28_1358) ?_
  refine s_Al gk2 (Or.inr ⟨2, D28_1360, rfl⟩) ?_
  refine s_Cv (ln := 3) (kd := 24) (C := "WordWrightModel") (by decide) (by decide +kernel) rfl (l_V rfl ok225 rfl wd2060 wd2061 wd2062 D28_1361.1) (?_ : rSnd _ _ 1364 _)
  refine s_Il gk5 (Or.inl D28_1364) ?_
  refine s_Ic c_eq (i_eq (tg := 1371) (by decide)) D28_1366.1 P28_1371 (?_ : rSnd _ _ 1369 _)
  exact rSnd_none
theorem P28_1344 : rSnd lab M28 1344 B28_1344 := by
  exact s_Go (pc' := 2344) D28_1344.1 (by decide) P28_2344
theorem P28_1327 : rSnd lab M28 1327 B28_1327 := by
  refine s_Il gk5 (Or.inl D28_1327) ?_
  refine s_If c_ne (fun _ => rfl) (fun _ _ => rfl) (b_ne (tg := 1344) (by decide)) D28_1329.1 P28_1344 (?_ : rSnd _ _ 1332 _)
  exact rSnd_none
theorem P28_1267 : rSnd lab M28 1267 B28_1267 := by
  refine s_Al gk1 (Or.inr ⟨1, D28_1267, rfl⟩) ?_
  refine s_Al gk0 (Or.inr ⟨0, D28_1268, rfl⟩) ?_
  refine s_Il gk4 (Or.inl D28_1269) ?_
  refine s_ic D28_1271 kc_i_1 (by decide) ?_
  refine s_Bin q_iadd n_add rG2_x e_add D28_1272 ?_
  refine s_Ial D28_1273 ?_
  refine s_Al gk0 (Or.inr ⟨0, D28_1274, rfl⟩) ?_
  refine s_Il gk4 (Or.inl D28_1275) ?_
  refine s_ic D28_1277 kc_i_2 (by decide) ?_
  refine s_Bin q_iadd n_add rG2_x e_add D28_1278 ?_
  refine s_Ial D28_1279 ?_
  refine s_Al gk0 (Or.inr ⟨0, D28_1280, rfl⟩) ?_
  refine s_Il gk4 (Or.inl D28_1281) ?_
  refine s_ic D28_1283 kc_i_3 (by decide) ?_
  refine s_Bin q_iadd n_add rG2_x e_add D28_1284 ?_
  refine s_Ial D28_1285 ?_
  refine s_Al gk3 (Or.inr ⟨3, D28_1286, rfl⟩) ?_
  refine s_Cs (id := 46) rfl (l_SX rfl ok44 rfl wd1511 wd1512 D28_1287.1) (?_ : rSnd _ _ 1290 _)
  refine s_Is sk5 (show 5 < 9 from by decide) (Or.inl D28_1290) ?_
  refine s_Al gk2 (Or.inr ⟨2, D28_1292, rfl⟩) ?_
  refine s_Al gk0 (Or.inr ⟨0, D28_1293, rfl⟩) ?_
  refine s_Il gk4 (Or.inl D28_1294) ?_
  refine s_ic D28_1296 kc_i_1 (by decide) ?_
  refine s_Bin q_iadd n_add rG2_x e_add D28_1297 ?_
  refine s_Ial D28_1298 ?_
  refine s_Al gk0 (Or.inr ⟨0, D28_1299, rfl⟩) ?_
  refine s_Il gk4 (Or.inl D28_1300) ?_
  refine s_ic D28_1302 kc_i_2 (by decide) ?_
  refine s_Bin q_iadd n_add rG2_x e_add D28_1303 ?_
  refine s_Ial D28_1304 ?_
  refine s_Al gk0 (Or.inr ⟨0, D28_1305, rfl⟩) ?_
  refine s_Il gk4 (Or.inl D28_1306) ?_
  refine s_ic D28_1308 kc_i_3 (by decide) ?_
  refine s_Bin q_iadd n_add rG2_x e_add D28_1309 ?_
  refine s_Ial D28_1310 ?_
  refine s_Cv (ln := 3) (kd := 24) (C := "WordWrightModel") (by decide) (by decide +kernel) rfl (l_V rfl ok224 rfl wd2562 wd2563 wd2564 D28_1311.1) (?_ : rSnd _ _ 1314 _)
  refine s_Is sk6 (show 6 < 9 from by decide) (Or.inl D28_1314) ?_
  refine s_Al gk2 (Or.inr ⟨2, D28_1316, rfl⟩) ?_
  refine s_Cv (ln := 3) (kd := 24) (C := "WordWrightModel") (by decide) (by decide +kernel) rfl (l_V rfl ok225 rfl wd2060 wd2061 wd2062 D28_1317.1) (?_ : rSnd _ _ 1320 _)
  refine s_Il gk5 (Or.inl D28_1320) ?_
  refine s_Ic c_eq (i_eq (tg := 1327) (by decide)) D28_1322.1 P28_1327 (?_ : rSnd _ _ 1325 _)
  exact rSnd_none
theorem P28_1264 : rSnd lab M28 1264 B28_1264 := by
  exact s_Go (pc' := 2344) D28_1264.1 (by decide) P28_2344
theorem P28_1247 : rSnd lab M28 1247 B28_1247 := by
  refine s_Il gk5 (Or.inl D28_1247) ?_
  refine s_If c_ne (fun _ => rfl) (fun _ _ => rfl) (b_ne (tg := 1264) (by decide)) D28_1249.1 P28_1264 (?_ : rSnd _ _ 1252 _)
  refine s_Al gk3 (Or.inr ⟨3, D28_1252, rfl⟩) ?_
  refine s_ic D28_1253 kc_i_0 (by decide) ?_
  refine s_Ald (t := 2) (ty := .long) rfl q_lald rfl D28_1254 ?_
  refine s_Il gk6 (Or.inl D28_1255) ?_
  refine s_I2l D28_1257 ?_
  refine s_Lcmp D28_1258 ?_
  refine s_If c_eq (fun _ => rfl) (fun _ _ => rfl) (b_eq (tg := 1264) (by decide)) D28_1259.1 P28_1264 (?_ : rSnd _ _ 1262 _)
  exact rSnd_none
theorem P28_1223 : rSnd lab M28 1223 B28_1223 := by
  refine s_Al gk1 (Or.inr ⟨1, D28_1223, rfl⟩) ?_
  refine s_Al gk3 (Or.inr ⟨3, D28_1224, rfl⟩) ?_
  refine s_Cs (id := 25) rfl (l_SX rfl ok24 rfl wd1499 wd1500 D28_1225.1) (?_ : rSnd _ _ 1228 _)
  refine s_Is sk5 (show 5 < 9 from by decide) (Or.inl D28_1228) ?_
  refine s_Al gk2 (Or.inr ⟨2, D28_1230, rfl⟩) ?_
  refine s_Cv (ln := 3) (kd := 24) (C := "WordWrightModel") (by decide) (by decide +kernel) rfl (l_V rfl ok180 rfl wd2558 wd2559 wd2560 D28_1231.1) (?_ : rSnd _ _ 1234 _)
  refine s_Is sk6 (show 6 < 9 from by decide) (Or.inl D28_1234) ?_
  refine s_Al gk2 (Or.inr ⟨2, D28_1236, rfl⟩) ?_
  refine s_Cv (ln := 3) (kd := 24) (C := "WordWrightModel") (by decide) (by decide +kernel) rfl (l_V rfl ok225 rfl wd2060 wd2061 wd2062 D28_1237.1) (?_ : rSnd _ _ 1240 _)
  refine s_Il gk5 (Or.inl D28_1240) ?_
  refine s_Ic c_eq (i_eq (tg := 1247) (by decide)) D28_1242.1 P28_1247 (?_ : rSnd _ _ 1245 _)
  exact rSnd_none
theorem P28_1220 : rSnd lab M28 1220 B28_1220 := by
  exact s_Go (pc' := 2344) D28_1220.1 (by decide) P28_2344
theorem P28_1203 : rSnd lab M28 1203 B28_1203 := by
  refine s_Il gk5 (Or.inl D28_1203) ?_
  refine s_If c_ne (fun _ => rfl) (fun _ _ => rfl) (b_ne (tg := 1220) (by decide)) D28_1205.1 P28_1220 (?_ : rSnd _ _ 1208 _)
  refine s_Al gk3 (Or.inr ⟨3, D28_1208, rfl⟩) ?_
  refine s_ic D28_1209 kc_i_0 (by decide) ?_
  refine s_Ald (t := 2) (ty := .long) rfl q_lald rfl D28_1210 ?_
  refine s_Il gk6 (Or.inl D28_1211) ?_
  refine s_I2l D28_1213 ?_
  refine s_Lcmp D28_1214 ?_
  refine s_If c_eq (fun _ => rfl) (fun _ _ => rfl) (b_eq (tg := 1220) (by decide)) D28_1215.1 P28_1220 (?_ : rSnd _ _ 1218 _)
  exact rSnd_none
theorem P28_1143 : rSnd lab M28 1143 B28_1143 := by
  refine s_Al gk1 (Or.inr ⟨1, D28_1143, rfl⟩) ?_
  refine s_Al gk0 (Or.inr ⟨0, D28_1144, rfl⟩) ?_
  refine s_Il gk4 (Or.inl D28_1145) ?_
  refine s_ic D28_1147 kc_i_1 (by decide) ?_
  refine s_Bin q_iadd n_add rG2_x e_add D28_1148 ?_
  refine s_Ial D28_1149 ?_
  refine s_Al gk0 (Or.inr ⟨0, D28_1150, rfl⟩) ?_
  refine s_Il gk4 (Or.inl D28_1151) ?_
  refine s_ic D28_1153 kc_i_2 (by decide) ?_
  refine s_Bin q_iadd n_add rG2_x e_add D28_1154 ?_
  refine s_Ial D28_1155 ?_
  refine s_Al gk0 (Or.inr ⟨0, D28_1156, rfl⟩) ?_
  refine s_Il gk4 (Or.inl D28_1157) ?_
  refine s_ic D28_1159 kc_i_3 (by decide) ?_
  refine s_Bin q_iadd n_add rG2_x e_add D28_1160 ?_
  refine s_Ial D28_1161 ?_
  refine s_Al gk3 (Or.inr ⟨3, D28_1162, rfl⟩) ?_
  refine s_Cs (id := 24) rfl (l_SX rfl ok23 rfl wd1483 wd1484 D28_1163.1) (?_ : rSnd _ _ 1166 _)
  refine s_Is sk5 (show 5 < 9 from by decide) (Or.inl D28_1166) ?_
  refine s_Al gk2 (Or.inr ⟨2, D28_1168, rfl⟩) ?_
  refine s_Al gk0 (Or.inr ⟨0, D28_1169, rfl⟩) ?_
  refine s_Il gk4 (Or.inl D28_1170) ?_
  refine s_ic D28_1172 kc_i_1 (by decide) ?_
  refine s_Bin q_iadd n_add rG2_x e_add D28_1173 ?_
  refine s_Ial D28_1174 ?_
  refine s_Al gk0 (Or.inr ⟨0, D28_1175, rfl⟩) ?_
  refine s_Il gk4 (Or.inl D28_1176) ?_
  refine s_ic D28_1178 kc_i_2 (by decide) ?_
  refine s_Bin q_iadd n_add rG2_x e_add D28_1179 ?_
  refine s_Ial D28_1180 ?_
  refine s_Al gk0 (Or.inr ⟨0, D28_1181, rfl⟩) ?_
  refine s_Il gk4 (Or.inl D28_1182) ?_
  refine s_ic D28_1184 kc_i_3 (by decide) ?_
  refine s_Bin q_iadd n_add rG2_x e_add D28_1185 ?_
  refine s_Ial D28_1186 ?_
  refine s_Cv (ln := 3) (kd := 24) (C := "WordWrightModel") (by decide) (by decide +kernel) rfl (l_V rfl ok179 rfl wd2554 wd2555 wd2556 D28_1187.1) (?_ : rSnd _ _ 1190 _)
  refine s_Is sk6 (show 6 < 9 from by decide) (Or.inl D28_1190) ?_
  refine s_Al gk2 (Or.inr ⟨2, D28_1192, rfl⟩) ?_
  refine s_Cv (ln := 3) (kd := 24) (C := "WordWrightModel") (by decide) (by decide +kernel) rfl (l_V rfl ok225 rfl wd2060 wd2061 wd2062 D28_1193.1) (?_ : rSnd _ _ 1196 _)
  refine s_Il gk5 (Or.inl D28_1196) ?_
  refine s_Ic c_eq (i_eq (tg := 1203) (by decide)) D28_1198.1 P28_1203 (?_ : rSnd _ _ 1201 _)
  exact rSnd_none
theorem P28_1140 : rSnd lab M28 1140 B28_1140 := by
  exact s_Go (pc' := 2344) D28_1140.1 (by decide) P28_2344
theorem P28_1123 : rSnd lab M28 1123 B28_1123 := by
  refine s_Il gk5 (Or.inl D28_1123) ?_
  refine s_If c_ne (fun _ => rfl) (fun _ _ => rfl) (b_ne (tg := 1140) (by decide)) D28_1125.1 P28_1140 (?_ : rSnd _ _ 1128 _)
  exact rSnd_none
theorem P28_1063 : rSnd lab M28 1063 B28_1063 := by
  refine s_Al gk1 (Or.inr ⟨1, D28_1063, rfl⟩) ?_
  refine s_Al gk0 (Or.inr ⟨0, D28_1064, rfl⟩) ?_
  refine s_Il gk4 (Or.inl D28_1065) ?_
  refine s_ic D28_1067 kc_i_1 (by decide) ?_
  refine s_Bin q_iadd n_add rG2_x e_add D28_1068 ?_
  refine s_Ial D28_1069 ?_
  refine s_Al gk0 (Or.inr ⟨0, D28_1070, rfl⟩) ?_
  refine s_Il gk4 (Or.inl D28_1071) ?_
  refine s_ic D28_1073 kc_i_2 (by decide) ?_
  refine s_Bin q_iadd n_add rG2_x e_add D28_1074 ?_
  refine s_Ial D28_1075 ?_
  refine s_Al gk0 (Or.inr ⟨0, D28_1076, rfl⟩) ?_
  refine s_Il gk4 (Or.inl D28_1077) ?_
  refine s_ic D28_1079 kc_i_3 (by decide) ?_
  refine s_Bin q_iadd n_add rG2_x e_add D28_1080 ?_
  refine s_Ial D28_1081 ?_
  refine s_Al gk3 (Or.inr ⟨3, D28_1082, rfl⟩) ?_
  refine s_Cs (id := 23) rfl (l_SX rfl ok22 rfl wd1474 wd1475 D28_1083.1) (?_ : rSnd _ _ 1086 _)
  refine s_Is sk5 (show 5 < 9 from by decide) (Or.inl D28_1086) ?_
  refine s_Al gk2 (Or.inr ⟨2, D28_1088, rfl⟩) ?_
  refine s_Al gk0 (Or.inr ⟨0, D28_1089, rfl⟩) ?_
  refine s_Il gk4 (Or.inl D28_1090) ?_
  refine s_ic D28_1092 kc_i_1 (by decide) ?_
  refine s_Bin q_iadd n_add rG2_x e_add D28_1093 ?_
  refine s_Ial D28_1094 ?_
  refine s_Al gk0 (Or.inr ⟨0, D28_1095, rfl⟩) ?_
  refine s_Il gk4 (Or.inl D28_1096) ?_
  refine s_ic D28_1098 kc_i_2 (by decide) ?_
  refine s_Bin q_iadd n_add rG2_x e_add D28_1099 ?_
  refine s_Ial D28_1100 ?_
  refine s_Al gk0 (Or.inr ⟨0, D28_1101, rfl⟩) ?_
  refine s_Il gk4 (Or.inl D28_1102) ?_
  refine s_ic D28_1104 kc_i_3 (by decide) ?_
  refine s_Bin q_iadd n_add rG2_x e_add D28_1105 ?_
  refine s_Ial D28_1106 ?_
  refine s_Cv (ln := 3) (kd := 24) (C := "WordWrightModel") (by decide) (by decide +kernel) rfl (l_V rfl ok175 rfl wd2529 wd2530 wd2531 D28_1107.1) (?_ : rSnd _ _ 1110 _)
  refine s_Is sk6 (show 6 < 9 from by decide) (Or.inl D28_1110) ?_
  refine s_Al gk2 (Or.inr ⟨2, D28_1112, rfl⟩) ?_
  refine s_Cv (ln := 3) (kd := 24) (C := "WordWrightModel") (by decide) (by decide +kernel) rfl (l_V rfl ok225 rfl wd2060 wd2061 wd2062 D28_1113.1) (?_ : rSnd _ _ 1116 _)
  refine s_Il gk5 (Or.inl D28_1116) ?_
  refine s_Ic c_eq (i_eq (tg := 1123) (by decide)) D28_1118.1 P28_1123 (?_ : rSnd _ _ 1121 _)
  exact rSnd_none
theorem P28_1060 : rSnd lab M28 1060 B28_1060 := by
  exact s_Go (pc' := 2344) D28_1060.1 (by decide) P28_2344
theorem P28_1043 : rSnd lab M28 1043 B28_1043 := by
  refine s_Il gk5 (Or.inl D28_1043) ?_
  refine s_If c_ne (fun _ => rfl) (fun _ _ => rfl) (b_ne (tg := 1060) (by decide)) D28_1045.1 P28_1060 (?_ : rSnd _ _ 1048 _)
  exact rSnd_none
theorem P28_995 : rSnd lab M28 995 B28_995 := by
  refine s_Al gk1 (Or.inr ⟨1, D28_995, rfl⟩) ?_
  refine s_Al gk0 (Or.inr ⟨0, D28_996, rfl⟩) ?_
  refine s_Il gk4 (Or.inl D28_997) ?_
  refine s_ic D28_999 kc_i_1 (by decide) ?_
  refine s_Bin q_iadd n_add rG2_x e_add D28_1000 ?_
  refine s_Ial D28_1001 ?_
  refine s_Al gk0 (Or.inr ⟨0, D28_1002, rfl⟩) ?_
  refine s_Il gk4 (Or.inl D28_1003) ?_
  refine s_ic D28_1005 kc_i_2 (by decide) ?_
  refine s_Bin q_iadd n_add rG2_x e_add D28_1006 ?_
  refine s_Ial D28_1007 ?_
  refine s_Al gk3 (Or.inr ⟨3, D28_1008, rfl⟩) ?_
  refine s_Cs (id := 32) rfl (l_SX rfl ok30 rfl wd1466 wd1467 D28_1009.1) (?_ : rSnd _ _ 1012 _)
  refine s_Is sk5 (show 5 < 9 from by decide) (Or.inl D28_1012) ?_
  refine s_Al gk2 (Or.inr ⟨2, D28_1014, rfl⟩) ?_
  refine s_Al gk0 (Or.inr ⟨0, D28_1015, rfl⟩) ?_
  refine s_Il gk4 (Or.inl D28_1016) ?_
  refine s_ic D28_1018 kc_i_1 (by decide) ?_
  refine s_Bin q_iadd n_add rG2_x e_add D28_1019 ?_
  refine s_Ial D28_1020 ?_
  refine s_Al gk0 (Or.inr ⟨0, D28_1021, rfl⟩) ?_
  refine s_Il gk4 (Or.inl D28_1022) ?_
  refine s_ic D28_1024 kc_i_2 (by decide) ?_
  refine s_Bin q_iadd n_add rG2_x e_add D28_1025 ?_
  refine s_Ial D28_1026 ?_
  refine s_Cv (ln := 3) (kd := 24) (C := "WordWrightModel") (by decide) (by decide +kernel) rfl (l_V rfl ok197 rfl wd2498 wd2499 wd2500 D28_1027.1) (?_ : rSnd _ _ 1030 _)
  refine s_Is sk6 (show 6 < 9 from by decide) (Or.inl D28_1030) ?_
  refine s_Al gk2 (Or.inr ⟨2, D28_1032, rfl⟩) ?_
  refine s_Cv (ln := 3) (kd := 24) (C := "WordWrightModel") (by decide) (by decide +kernel) rfl (l_V rfl ok225 rfl wd2060 wd2061 wd2062 D28_1033.1) (?_ : rSnd _ _ 1036 _)
  refine s_Il gk5 (Or.inl D28_1036) ?_
  refine s_Ic c_eq (i_eq (tg := 1043) (by decide)) D28_1038.1 P28_1043 (?_ : rSnd _ _ 1041 _)
  exact rSnd_none
theorem P28_992 : rSnd lab M28 992 B28_992 := by
  exact s_Go (pc' := 2344) D28_992.1 (by decide) P28_2344
theorem P28_975 : rSnd lab M28 975 B28_975 := by
  refine s_Il gk5 (Or.inl D28_975) ?_
  refine s_If c_ne (fun _ => rfl) (fun _ _ => rfl) (b_ne (tg := 992) (by decide)) D28_977.1 P28_992 (?_ : rSnd _ _ 980 _)
  exact rSnd_none
theorem P28_927 : rSnd lab M28 927 B28_927 := by
  refine s_Al gk1 (Or.inr ⟨1, D28_927, rfl⟩) ?_
  refine s_Al gk0 (Or.inr ⟨0, D28_928, rfl⟩) ?_
  refine s_Il gk4 (Or.inl D28_929) ?_
  refine s_ic D28_931 kc_i_1 (by decide) ?_
  refine s_Bin q_iadd n_add rG2_x e_add D28_932 ?_
  refine s_Ial D28_933 ?_
  refine s_Al gk0 (Or.inr ⟨0, D28_934, rfl⟩) ?_
  refine s_Il gk4 (Or.inl D28_935) ?_
  refine s_ic D28_937 kc_i_2 (by decide) ?_
  refine s_Bin q_iadd n_add rG2_x e_add D28_938 ?_
  refine s_Ial D28_939 ?_
  refine s_Al gk3 (Or.inr ⟨3, D28_940, rfl⟩) ?_
  refine s_Cs (id := 41) rfl (l_SX rfl ok39 rfl wd1458 wd1459 D28_941.1) (?_ : rSnd _ _ 944 _)
  refine s_Is sk5 (show 5 < 9 from by decide) (Or.inl D28_944) ?_
  refine s_Al gk2 (Or.inr ⟨2, D28_946, rfl⟩) ?_
  refine s_Al gk0 (Or.inr ⟨0, D28_947, rfl⟩) ?_
  refine s_Il gk4 (Or.inl D28_948) ?_
  refine s_ic D28_950 kc_i_1 (by decide) ?_
  refine s_Bin q_iadd n_add rG2_x e_add D28_951 ?_
  refine s_Ial D28_952 ?_
  refine s_Al gk0 (Or.inr ⟨0, D28_953, rfl⟩) ?_
  refine s_Il gk4 (Or.inl D28_954) ?_
  refine s_ic D28_956 kc_i_2 (by decide) ?_
  refine s_Bin q_iadd n_add rG2_x e_add D28_957 ?_
  refine s_Ial D28_958 ?_
  refine s_Cv (ln := 3) (kd := 24) (C := "WordWrightModel") (by decide) (by decide +kernel) rfl (l_V rfl ok214 rfl wd2491 wd2492 wd2493 D28_959.1) (?_ : rSnd _ _ 962 _)
  refine s_Is sk6 (show 6 < 9 from by decide) (Or.inl D28_962) ?_
  refine s_Al gk2 (Or.inr ⟨2, D28_964, rfl⟩) ?_
  refine s_Cv (ln := 3) (kd := 24) (C := "WordWrightModel") (by decide) (by decide +kernel) rfl (l_V rfl ok225 rfl wd2060 wd2061 wd2062 D28_965.1) (?_ : rSnd _ _ 968 _)
  refine s_Il gk5 (Or.inl D28_968) ?_
  refine s_Ic c_eq (i_eq (tg := 975) (by decide)) D28_970.1 P28_975 (?_ : rSnd _ _ 973 _)
  exact rSnd_none
theorem P28_924 : rSnd lab M28 924 B28_924 := by
  exact s_Go (pc' := 2344) D28_924.1 (by decide) P28_2344
theorem P28_907 : rSnd lab M28 907 B28_907 := by
  refine s_Il gk5 (Or.inl D28_907) ?_
  refine s_If c_ne (fun _ => rfl) (fun _ _ => rfl) (b_ne (tg := 924) (by decide)) D28_909.1 P28_924 (?_ : rSnd _ _ 912 _)
  exact rSnd_none
theorem P28_847 : rSnd lab M28 847 B28_847 := by
  refine s_Al gk1 (Or.inr ⟨1, D28_847, rfl⟩) ?_
  refine s_Al gk0 (Or.inr ⟨0, D28_848, rfl⟩) ?_
  refine s_Il gk4 (Or.inl D28_849) ?_
  refine s_ic D28_851 kc_i_1 (by decide) ?_
  refine s_Bin q_iadd n_add rG2_x e_add D28_852 ?_
  refine s_Ial D28_853 ?_
  refine s_Al gk0 (Or.inr ⟨0, D28_854, rfl⟩) ?_
  refine s_Il gk4 (Or.inl D28_855) ?_
  refine s_ic D28_857 kc_i_2 (by decide) ?_
  refine s_Bin q_iadd n_add rG2_x e_add D28_858 ?_
  refine s_Ial D28_859 ?_
  refine s_Al gk0 (Or.inr ⟨0, D28_860, rfl⟩) ?_
  refine s_Il gk4 (Or.inl D28_861) ?_
  refine s_ic D28_863 kc_i_3 (by decide) ?_
  refine s_Bin q_iadd n_add rG2_x e_add D28_864 ?_
  refine s_Ial D28_865 ?_
  refine s_Al gk3 (Or.inr ⟨3, D28_866, rfl⟩) ?_
  refine s_Cs (id := 50) rfl (l_SX rfl ok48 rfl wd1449 wd1450 D28_867.1) (?_ : rSnd _ _ 870 _)
  refine s_Is sk5 (show 5 < 9 from by decide) (Or.inl D28_870) ?_
  refine s_Al gk2 (Or.inr ⟨2, D28_872, rfl⟩) ?_
  refine s_Al gk0 (Or.inr ⟨0, D28_873, rfl⟩) ?_
  refine s_Il gk4 (Or.inl D28_874) ?_
  refine s_ic D28_876 kc_i_1 (by decide) ?_
  refine s_Bin q_iadd n_add rG2_x e_add D28_877 ?_
  refine s_Ial D28_878 ?_
  refine s_Al gk0 (Or.inr ⟨0, D28_879, rfl⟩) ?_
  refine s_Il gk4 (Or.inl D28_880) ?_
  refine s_ic D28_882 kc_i_2 (by decide) ?_
  refine s_Bin q_iadd n_add rG2_x e_add D28_883 ?_
  refine s_Ial D28_884 ?_
  refine s_Al gk0 (Or.inr ⟨0, D28_885, rfl⟩) ?_
  refine s_Il gk4 (Or.inl D28_886) ?_
  refine s_ic D28_888 kc_i_3 (by decide) ?_
  refine s_Bin q_iadd n_add rG2_x e_add D28_889 ?_
  refine s_Ial D28_890 ?_
  refine s_Cv (ln := 3) (kd := 24) (C := "WordWrightModel") (by decide) (by decide +kernel) rfl (l_V rfl ok230 rfl wd2474 wd2475 wd2476 D28_891.1) (?_ : rSnd _ _ 894 _)
  refine s_Is sk6 (show 6 < 9 from by decide) (Or.inl D28_894) ?_
  refine s_Al gk2 (Or.inr ⟨2, D28_896, rfl⟩) ?_
  refine s_Cv (ln := 3) (kd := 24) (C := "WordWrightModel") (by decide) (by decide +kernel) rfl (l_V rfl ok225 rfl wd2060 wd2061 wd2062 D28_897.1) (?_ : rSnd _ _ 900 _)
  refine s_Il gk5 (Or.inl D28_900) ?_
  refine s_Ic c_eq (i_eq (tg := 907) (by decide)) D28_902.1 P28_907 (?_ : rSnd _ _ 905 _)
  exact rSnd_none
theorem P28_844 : rSnd lab M28 844 B28_844 := by
  exact s_Go (pc' := 2344) D28_844.1 (by decide) P28_2344
theorem P28_827 : rSnd lab M28 827 B28_827 := by
  refine s_Il gk5 (Or.inl D28_827) ?_
  refine s_If c_ne (fun _ => rfl) (fun _ _ => rfl) (b_ne (tg := 844) (by decide)) D28_829.1 P28_844 (?_ : rSnd _ _ 832 _)
  exact rSnd_none
theorem P28_779 : rSnd lab M28 779 B28_779 := by
  refine s_Al gk1 (Or.inr ⟨1, D28_779, rfl⟩) ?_
  refine s_Al gk0 (Or.inr ⟨0, D28_780, rfl⟩) ?_
  refine s_Il gk4 (Or.inl D28_781) ?_
  refine s_ic D28_783 kc_i_1 (by decide) ?_
  refine s_Bin q_iadd n_add rG2_x e_add D28_784 ?_
  refine s_Ial D28_785 ?_
  refine s_Al gk0 (Or.inr ⟨0, D28_786, rfl⟩) ?_
  refine s_Il gk4 (Or.inl D28_787) ?_
  refine s_ic D28_789 kc_i_2 (by decide) ?_
  refine s_Bin q_iadd n_add rG2_x e_add D28_790 ?_
  refine s_Ial D28_791 ?_
  refine s_Al gk3 (Or.inr ⟨3, D28_792, rfl⟩) ?_
  refine s_Cs (id := 26) rfl (l_SX rfl ok25 rfl wd1441 wd1442 D28_793.1) (?_ : rSnd _ _ 796 _)
  refine s_Is sk5 (show 5 < 9 from by decide) (Or.inl D28_796) ?_
  refine s_Al gk2 (Or.inr ⟨2, D28_798, rfl⟩) ?_
  refine s_Al gk0 (Or.inr ⟨0, D28_799, rfl⟩) ?_
  refine s_Il gk4 (Or.inl D28_800) ?_
  refine s_ic D28_802 kc_i_1 (by decide) ?_
  refine s_Bin q_iadd n_add rG2_x e_add D28_803 ?_
  refine s_Ial D28_804 ?_
  refine s_Al gk0 (Or.inr ⟨0, D28_805, rfl⟩) ?_
  refine s_Il gk4 (Or.inl D28_806) ?_
  refine s_ic D28_808 kc_i_2 (by decide) ?_
  refine s_Bin q_iadd n_add rG2_x e_add D28_809 ?_
  refine s_Ial D28_810 ?_
  refine s_Cv (ln := 3) (kd := 24) (C := "WordWrightModel") (by decide) (by decide +kernel) rfl (l_V rfl ok181 rfl wd2470 wd2471 wd2472 D28_811.1) (?_ : rSnd _ _ 814 _)
  refine s_Is sk6 (show 6 < 9 from by decide) (Or.inl D28_814) ?_
  refine s_Al gk2 (Or.inr ⟨2, D28_816, rfl⟩) ?_
  refine s_Cv (ln := 3) (kd := 24) (C := "WordWrightModel") (by decide) (by decide +kernel) rfl (l_V rfl ok225 rfl wd2060 wd2061 wd2062 D28_817.1) (?_ : rSnd _ _ 820 _)
  refine s_Il gk5 (Or.inl D28_820) ?_
  refine s_Ic c_eq (i_eq (tg := 827) (by decide)) D28_822.1 P28_827 (?_ : rSnd _ _ 825 _)
  exact rSnd_none
theorem P28_776 : rSnd lab M28 776 B28_776 := by
  exact s_Go (pc' := 2344) D28_776.1 (by decide) P28_2344
theorem P28_759 : rSnd lab M28 759 B28_759 := by
  refine s_Il gk5 (Or.inl D28_759) ?_
  refine s_If c_ne (fun _ => rfl) (fun _ _ => rfl) (b_ne (tg := 776) (by decide)) D28_761.1 P28_776 (?_ : rSnd _ _ 764 _)
  exact rSnd_none
theorem P28_675 : rSnd lab M28 675 B28_675 := by
  refine s_Al gk1 (Or.inr ⟨1, D28_675, rfl⟩) ?_
  refine s_Al gk0 (Or.inr ⟨0, D28_676, rfl⟩) ?_
  refine s_Il gk4 (Or.inl D28_677) ?_
  refine s_ic D28_679 kc_i_1 (by decide) ?_
  refine s_Bin q_iadd n_add rG2_x e_add D28_680 ?_
  refine s_Ial D28_681 ?_
  refine s_Al gk0 (Or.inr ⟨0, D28_682, rfl⟩) ?_
  refine s_Il gk4 (Or.inl D28_683) ?_
  refine s_ic D28_685 kc_i_2 (by decide) ?_
  refine s_Bin q_iadd n_add rG2_x e_add D28_686 ?_
  refine s_Ial D28_687 ?_
  refine s_Al gk0 (Or.inr ⟨0, D28_688, rfl⟩) ?_
  refine s_Il gk4 (Or.inl D28_689) ?_
  refine s_ic D28_691 kc_i_3 (by decide) ?_
  refine s_Bin q_iadd n_add rG2_x e_add D28_692 ?_
  refine s_Ial D28_693 ?_
  refine s_Al gk0 (Or.inr ⟨0, D28_694, rfl⟩) ?_
  refine s_Il gk4 (Or.inl D28_695) ?_
  refine s_ic D28_697 kc_i_4 (by decide) ?_
  refine s_Bin q_iadd n_add rG2_x e_add D28_698 ?_
  refine s_Ial D28_699 ?_
  refine s_Al gk0 (Or.inr ⟨0, D28_700, rfl⟩) ?_
  refine s_Il gk4 (Or.inl D28_701) ?_
  refine s_ic D28_703 kc_i_5 (by decide) ?_
  refine s_Bin q_iadd n_add rG2_x e_add D28_704 ?_
  refine s_Ial D28_705 ?_
  refine s_Al gk3 (Or.inr ⟨3, D28_706, rfl⟩) ?_
  refine s_Cs (id := 19) rfl (l_SX rfl ok18 rfl wd1427 wd1428 D28_707.1) (?_ : rSnd _ _ 710 _)
  refine s_Is sk5 (show 5 < 9 from by decide) (Or.inl D28_710) ?_
  refine s_Al gk2 (Or.inr ⟨2, D28_712, rfl⟩) ?_
  refine s_Al gk0 (Or.inr ⟨0, D28_713, rfl⟩) ?_
  refine s_Il gk4 (Or.inl D28_714) ?_
  refine s_ic D28_716 kc_i_1 (by decide) ?_
  refine s_Bin q_iadd n_add rG2_x e_add D28_717 ?_
  refine s_Ial D28_718 ?_
  refine s_Al gk0 (Or.inr ⟨0, D28_719, rfl⟩) ?_
  refine s_Il gk4 (Or.inl D28_720) ?_
  refine s_ic D28_722 kc_i_2 (by decide) ?_
  refine s_Bin q_iadd n_add rG2_x e_add D28_723 ?_
  refine s_Ial D28_724 ?_
  refine s_Al gk0 (Or.inr ⟨0, D28_725, rfl⟩) ?_
  refine s_Il gk4 (Or.inl D28_726) ?_
  refine s_ic D28_728 kc_i_3 (by decide) ?_
  refine s_Bin q_iadd n_add rG2_x e_add D28_729 ?_
  refine s_Ial D28_730 ?_
  refine s_Al gk0 (Or.inr ⟨0, D28_731, rfl⟩) ?_
  refine s_Il gk4 (Or.inl D28_732) ?_
  refine s_ic D28_734 kc_i_4 (by decide) ?_
  refine s_Bin q_iadd n_add rG2_x e_add D28_735 ?_
  refine s_Ial D28_736 ?_
  refine s_Al gk0 (Or.inr ⟨0, D28_737, rfl⟩) ?_
  refine s_Il gk4 (Or.inl D28_738) ?_
  refine s_ic D28_740 kc_i_5 (by decide) ?_
  refine s_Bin q_iadd n_add rG2_x e_add D28_741 ?_
  refine s_Ial D28_742 ?_
  refine s_Cv (ln := 3) (kd := 24) (C := "WordWrightModel") (by decide) (by decide +kernel) rfl (l_V rfl ok170 rfl wd2466 wd2467 wd2468 D28_743.1) (?_ : rSnd _ _ 746 _)
  refine s_Is sk6 (show 6 < 9 from by decide) (Or.inl D28_746) ?_
  refine s_Al gk2 (Or.inr ⟨2, D28_748, rfl⟩) ?_
  refine s_Cv (ln := 3) (kd := 24) (C := "WordWrightModel") (by decide) (by decide +kernel) rfl (l_V rfl ok225 rfl wd2060 wd2061 wd2062 D28_749.1) (?_ : rSnd _ _ 752 _)
  refine s_Il gk5 (Or.inl D28_752) ?_
  refine s_Ic c_eq (i_eq (tg := 759) (by decide)) D28_754.1 P28_759 (?_ : rSnd _ _ 757 _)
  exact rSnd_none
theorem P28_672 : rSnd lab M28 672 B28_672 := by
  exact s_Go (pc' := 2344) D28_672.1 (by decide) P28_2344
theorem P28_655 : rSnd lab M28 655 B28_655 := by
  refine s_Il gk5 (Or.inl D28_655) ?_
  refine s_If c_ne (fun _ => rfl) (fun _ _ => rfl) (b_ne (tg := 672) (by decide)) D28_657.1 P28_672 (?_ : rSnd _ _ 660 _)
  refine s_Al gk3 (Or.inr ⟨3, D28_660, rfl⟩) ?_
  refine s_ic D28_661 kc_i_0 (by decide) ?_
  refine s_Ald (t := 2) (ty := .long) rfl q_lald rfl D28_662 ?_
  refine s_Il gk6 (Or.inl D28_663) ?_
  refine s_I2l D28_665 ?_
  refine s_Lcmp D28_666 ?_
  refine s_If c_eq (fun _ => rfl) (fun _ _ => rfl) (b_eq (tg := 672) (by decide)) D28_667.1 P28_672 (?_ : rSnd _ _ 670 _)
  exact rSnd_none
theorem P28_631 : rSnd lab M28 631 B28_631 := by
  refine s_Al gk1 (Or.inr ⟨1, D28_631, rfl⟩) ?_
  refine s_Al gk3 (Or.inr ⟨3, D28_632, rfl⟩) ?_
  refine s_Cs (id := 33) rfl (l_SX rfl ok31 rfl wd1419 wd1420 D28_633.1) (?_ : rSnd _ _ 636 _)
  refine s_Is sk5 (show 5 < 9 from by decide) (Or.inl D28_636) ?_
  refine s_Al gk2 (Or.inr ⟨2, D28_638, rfl⟩) ?_
  refine s_Cv (ln := 3) (kd := 24) (C := "WordWrightModel") (by decide) (by decide +kernel) rfl (l_V rfl ok198 rfl wd2414 wd2415 wd2416 D28_639.1) (?_ : rSnd _ _ 642 _)
  refine s_Is sk6 (show 6 < 9 from by decide) (Or.inl D28_642) ?_
  refine s_Al gk2 (Or.inr ⟨2, D28_644, rfl⟩) ?_
  refine s_Cv (ln := 3) (kd := 24) (C := "WordWrightModel") (by decide) (by decide +kernel) rfl (l_V rfl ok225 rfl wd2060 wd2061 wd2062 D28_645.1) (?_ : rSnd _ _ 648 _)
  refine s_Il gk5 (Or.inl D28_648) ?_
  refine s_Ic c_eq (i_eq (tg := 655) (by decide)) D28_650.1 P28_655 (?_ : rSnd _ _ 653 _)
  exact rSnd_none
theorem P28_628 : rSnd lab M28 628 B28_628 := by
  exact s_Go (pc' := 2344) D28_628.1 (by decide) P28_2344
theorem P28_611 : rSnd lab M28 611 B28_611 := by
  refine s_Il gk5 (Or.inl D28_611) ?_
  refine s_If c_ne (fun _ => rfl) (fun _ _ => rfl) (b_ne (tg := 628) (by decide)) D28_613.1 P28_628 (?_ : rSnd _ _ 616 _)
  refine s_Al gk3 (Or.inr ⟨3, D28_616, rfl⟩) ?_
  refine s_ic D28_617 kc_i_0 (by decide) ?_
  refine s_Ald (t := 2) (ty := .long) rfl q_lald rfl D28_618 ?_
  refine s_Il gk6 (Or.inl D28_619) ?_
  refine s_I2l D28_621 ?_
  refine s_Lcmp D28_622 ?_
  refine s_If c_eq (fun _ => rfl) (fun _ _ => rfl) (b_eq (tg := 628) (by decide)) D28_623.1 P28_628 (?_ : rSnd _ _ 626 _)
  exact rSnd_none
theorem P28_563 : rSnd lab M28 563 B28_563 := by
  refine s_Al gk1 (Or.inr ⟨1, D28_563, rfl⟩) ?_
  refine s_Al gk0 (Or.inr ⟨0, D28_564, rfl⟩) ?_
  refine s_Il gk4 (Or.inl D28_565) ?_
  refine s_ic D28_567 kc_i_1 (by decide) ?_
  refine s_Bin q_iadd n_add rG2_x e_add D28_568 ?_
  refine s_Ial D28_569 ?_
  refine s_Al gk0 (Or.inr ⟨0, D28_570, rfl⟩) ?_
  refine s_Il gk4 (Or.inl D28_571) ?_
  refine s_ic D28_573 kc_i_2 (by decide) ?_
  refine s_Bin q_iadd n_add rG2_x e_add D28_574 ?_
  refine s_Ial D28_575 ?_
  refine s_Al gk3 (Or.inr ⟨3, D28_576, rfl⟩) ?_
  refine s_Cs (id := 22) rfl (l_SX rfl ok21 rfl wd1395 wd1396 D28_577.1) (?_ : rSnd _ _ 580 _)
  refine s_Is sk5 (show 5 < 9 from by decide) (Or.inl D28_580) ?_
  refine s_Al gk2 (Or.inr ⟨2, D28_582, rfl⟩) ?_
  refine s_Al gk0 (Or.inr ⟨0, D28_583, rfl⟩) ?_
  refine s_Il gk4 (Or.inl D28_584) ?_
  refine s_ic D28_586 kc_i_1 (by decide) ?_
  refine s_Bin q_iadd n_add rG2_x e_add D28_587 ?_
  refine s_Ial D28_588 ?_
  refine s_Al gk0 (Or.inr ⟨0, D28_589, rfl⟩) ?_
  refine s_Il gk4 (Or.inl D28_590) ?_
  refine s_ic D28_592 kc_i_2 (by decide) ?_
  refine s_Bin q_iadd n_add rG2_x e_add D28_593 ?_
  refine s_Ial D28_594 ?_
  refine s_Cv (ln := 3) (kd := 24) (C := "WordWrightModel") (by decide) (by decide +kernel) rfl (l_V rfl ok174 rfl wd2410 wd2411 wd2412 D28_595.1) (?_ : rSnd _ _ 598 _)
  refine s_Is sk6 (show 6 < 9 from by decide) (Or.inl D28_598) ?_
  refine s_Al gk2 (Or.inr ⟨2, D28_600, rfl⟩) ?_
  refine s_Cv (ln := 3) (kd := 24) (C := "WordWrightModel") (by decide) (by decide +kernel) rfl (l_V rfl ok225 rfl wd2060 wd2061 wd2062 D28_601.1) (?_ : rSnd _ _ 604 _)
  refine s_Il gk5 (Or.inl D28_604) ?_
  refine s_Ic c_eq (i_eq (tg := 611) (by decide)) D28_606.1 P28_611 (?_ : rSnd _ _ 609 _)
  exact rSnd_none
theorem P28_560 : rSnd lab M28 560 B28_560 := by
  exact s_Go (pc' := 2344) D28_560.1 (by decide) P28_2344
theorem P28_543 : rSnd lab M28 543 B28_543 := by
  refine s_Il gk5 (Or.inl D28_543) ?_
  refine s_If c_ne (fun _ => rfl) (fun _ _ => rfl) (b_ne (tg := 560) (by decide)) D28_545.1 P28_560 (?_ : rSnd _ _ 548 _)
  refine s_Al gk3 (Or.inr ⟨3, D28_548, rfl⟩) ?_
  refine s_ic D28_549 kc_i_0 (by decide) ?_
  refine s_Ald (t := 2) (ty := .long) rfl q_lald rfl D28_550 ?_
  refine s_Il gk6 (Or.inl D28_551) ?_
  refine s_I2l D28_553 ?_
  refine s_Lcmp D28_554 ?_
  refine s_If c_eq (fun _ => rfl) (fun _ _ => rfl) (b_eq (tg := 560) (by decide)) D28_555.1 P28_560 (?_ : rSnd _ _ 558 _)
  exact rSnd_none
theorem P28_495 : rSnd lab M28 495 B28_495 := by
  refine s_Al gk1 (Or.inr ⟨1, D28_495, rfl⟩) ?_
  refine s_Al gk0 (Or.inr ⟨0, D28_496, rfl⟩) ?_
  refine s_Il gk4 (Or.inl D28_497) ?_
  refine s_ic D28_499 kc_i_1 (by decide) ?_
  refine s_Bin q_iadd n_add rG2_x e_add D28_500 ?_
  refine s_Ial D28_501 ?_
  refine s_Al gk0 (Or.inr ⟨0, D28_502, rfl⟩) ?_
  refine s_Il gk4 (Or.inl D28_503) ?_
  refine s_ic D28_505 kc_i_2 (by decide) ?_
  refine s_Bin q_iadd n_add rG2_x e_add D28_506 ?_
  refine s_Ial D28_507 ?_
  refine s_Al gk3 (Or.inr ⟨3, D28_508, rfl⟩) ?_
  refine s_Cs (id := 28) rfl (l_SX rfl ok27 rfl wd1387 wd1388 D28_509.1) (?_ : rSnd _ _ 512 _)
  refine s_Is sk5 (show 5 < 9 from by decide) (Or.inl D28_512) ?_
  refine s_Al gk2 (Or.inr ⟨2, D28_514, rfl⟩) ?_
  refine s_Al gk0 (Or.inr ⟨0, D28_515, rfl⟩) ?_
  refine s_Il gk4 (Or.inl D28_516) ?_
  refine s_ic D28_518 kc_i_1 (by decide) ?_
  refine s_Bin q_iadd n_add rG2_x e_add D28_519 ?_
  refine s_Ial D28_520 ?_
  refine s_Al gk0 (Or.inr ⟨0, D28_521, rfl⟩) ?_
  refine s_Il gk4 (Or.inl D28_522) ?_
  refine s_ic D28_524 kc_i_2 (by decide) ?_
  refine s_Bin q_iadd n_add rG2_x e_add D28_525 ?_
  refine s_Ial D28_526 ?_
  refine s_Cv (ln := 3) (kd := 24) (C := "WordWrightModel") (by decide) (by decide +kernel) rfl (l_V rfl ok184 rfl wd2403 wd2404 wd2405 D28_527.1) (?_ : rSnd _ _ 530 _)
  refine s_Is sk6 (show 6 < 9 from by decide) (Or.inl D28_530) ?_
  refine s_Al gk2 (Or.inr ⟨2, D28_532, rfl⟩) ?_
  refine s_Cv (ln := 3) (kd := 24) (C := "WordWrightModel") (by decide) (by decide +kernel) rfl (l_V rfl ok225 rfl wd2060 wd2061 wd2062 D28_533.1) (?_ : rSnd _ _ 536 _)
  refine s_Il gk5 (Or.inl D28_536) ?_
  refine s_Ic c_eq (i_eq (tg := 543) (by decide)) D28_538.1 P28_543 (?_ : rSnd _ _ 541 _)
  exact rSnd_none
theorem P28_492 : rSnd lab M28 492 B28_492 := by
  exact s_Go (pc' := 2344) D28_492.1 (by decide) P28_2344
theorem P28_486 : rSnd lab M28 486 B28_486 := by
  refine s_Lcmp D28_486 ?_
  refine s_If c_eq (fun _ => rfl) (fun _ _ => rfl) (b_eq (tg := 492) (by decide)) D28_487.1 P28_492 (?_ : rSnd _ _ 490 _)
  exact rSnd_none
theorem P28_485 : rSnd lab M28 485 B28_485 := by
  refine s_lc D28_485 kc_L_0 (by decide) ?_
  exact P28_486
theorem P28_468 : rSnd lab M28 468 B28_468 := by
  refine s_Il gk5 (Or.inl D28_468) ?_
  refine s_If c_ne (fun _ => rfl) (fun _ _ => rfl) (b_ne (tg := 492) (by decide)) D28_470.1 P28_492 (?_ : rSnd _ _ 473 _)
  refine s_Al gk3 (Or.inr ⟨3, D28_473, rfl⟩) ?_
  refine s_ic D28_474 kc_i_0 (by decide) ?_
  refine s_Ald (t := 2) (ty := .long) rfl q_lald rfl D28_475 ?_
  refine s_Il gk6 (Or.inl D28_476) ?_
  refine s_If c_eq (fun _ => rfl) (fun _ _ => rfl) (b_eq (tg := 485) (by decide)) D28_478.1 P28_485 (?_ : rSnd _ _ 481 _)
  refine s_lc D28_481 kc_L_1 (by decide) ?_
  exact s_Go (pc' := 486) D28_482.1 (by decide) P28_486
theorem P28_420 : rSnd lab M28 420 B28_420 := by
  refine s_Al gk1 (Or.inr ⟨1, D28_420, rfl⟩) ?_
  refine s_Al gk0 (Or.inr ⟨0, D28_421, rfl⟩) ?_
  refine s_Il gk4 (Or.inl D28_422) ?_
  refine s_ic D28_424 kc_i_1 (by decide) ?_
  refine s_Bin q_iadd n_add rG2_x e_add D28_425 ?_
  refine s_Ial D28_426 ?_
  refine s_Al gk0 (Or.inr ⟨0, D28_427, rfl⟩) ?_
  refine s_Il gk4 (Or.inl D28_428) ?_
  refine s_ic D28_430 kc_i_2 (by decide) ?_
  refine s_Bin q_iadd n_add rG2_x e_add D28_431 ?_
  refine s_Ial D28_432 ?_
  refine s_Al gk3 (Or.inr ⟨3, D28_433, rfl⟩) ?_
  refine s_Cs (id := 27) rfl (l_SX rfl ok26 rfl wd1374 wd1375 D28_434.1) (?_ : rSnd _ _ 437 _)
  refine s_Is sk5 (show 5 < 9 from by decide) (Or.inl D28_437) ?_
  refine s_Al gk2 (Or.inr ⟨2, D28_439, rfl⟩) ?_
  refine s_Al gk0 (Or.inr ⟨0, D28_440, rfl⟩) ?_
  refine s_Il gk4 (Or.inl D28_441) ?_
  refine s_ic D28_443 kc_i_1 (by decide) ?_
  refine s_Bin q_iadd n_add rG2_x e_add D28_444 ?_
  refine s_Ial D28_445 ?_
  refine s_Al gk0 (Or.inr ⟨0, D28_446, rfl⟩) ?_
  refine s_Il gk4 (Or.inl D28_447) ?_
  refine s_ic D28_449 kc_i_2 (by decide) ?_
  refine s_Bin q_iadd n_add rG2_x e_add D28_450 ?_
  refine s_Ial D28_451 ?_
  refine s_Cv (ln := 3) (kd := 24) (C := "WordWrightModel") (by decide) (by decide +kernel) rfl (l_V rfl ok182 rfl wd2389 wd2390 wd2391 D28_452.1) (?_ : rSnd _ _ 455 _)
  refine s_Is sk6 (show 6 < 9 from by decide) (Or.inl D28_455) ?_
  refine s_Al gk2 (Or.inr ⟨2, D28_457, rfl⟩) ?_
  refine s_Cv (ln := 3) (kd := 24) (C := "WordWrightModel") (by decide) (by decide +kernel) rfl (l_V rfl ok225 rfl wd2060 wd2061 wd2062 D28_458.1) (?_ : rSnd _ _ 461 _)
  refine s_Il gk5 (Or.inl D28_461) ?_
  refine s_Ic c_eq (i_eq (tg := 468) (by decide)) D28_463.1 P28_468 (?_ : rSnd _ _ 466 _)
  exact rSnd_none
theorem P28_417 : rSnd lab M28 417 B28_417 := by
  exact s_Go (pc' := 2344) D28_417.1 (by decide) P28_2344
theorem P28_400 : rSnd lab M28 400 B28_400 := by
  refine s_Il gk5 (Or.inl D28_400) ?_
  refine s_If c_ne (fun _ => rfl) (fun _ _ => rfl) (b_ne (tg := 417) (by decide)) D28_402.1 P28_417 (?_ : rSnd _ _ 405 _)
  refine s_Al gk3 (Or.inr ⟨3, D28_405, rfl⟩) ?_
  refine s_ic D28_406 kc_i_0 (by decide) ?_
  refine s_Ald (t := 2) (ty := .long) rfl q_lald rfl D28_407 ?_
  refine s_Il gk6 (Or.inl D28_408) ?_
  refine s_I2l D28_410 ?_
  refine s_Lcmp D28_411 ?_
  refine s_If c_eq (fun _ => rfl) (fun _ _ => rfl) (b_eq (tg := 417) (by decide)) D28_412.1 P28_417 (?_ : rSnd _ _ 415 _)
  exact rSnd_none
theorem P28_340 : rSnd lab M28 340 B28_340 := by
  refine s_Al gk1 (Or.inr ⟨1, D28_340, rfl⟩) ?_
  refine s_Al gk0 (Or.inr ⟨0, D28_341, rfl⟩) ?_
  refine s_Il gk4 (Or.inl D28_342) ?_
  refine s_ic D28_344 kc_i_1 (by decide) ?_
  refine s_Bin q_iadd n_add rG2_x e_add D28_345 ?_
  refine s_Ial D28_346 ?_
  refine s_Al gk0 (Or.inr ⟨0, D28_347, rfl⟩) ?_
  refine s_Il gk4 (Or.inl D28_348) ?_
  refine s_ic D28_350 kc_i_2 (by decide) ?_
  refine s_Bin q_iadd n_add rG2_x e_add D28_351 ?_
  refine s_Ial D28_352 ?_
  refine s_Al gk0 (Or.inr ⟨0, D28_353, rfl⟩) ?_
  refine s_Il gk4 (Or.inl D28_354) ?_
  refine s_ic D28_356 kc_i_3 (by decide) ?_
  refine s_Bin q_iadd n_add rG2_x e_add D28_357 ?_
  refine s_Ial D28_358 ?_
  refine s_Al gk3 (Or.inr ⟨3, D28_359, rfl⟩) ?_
  refine s_Cs (id := 37) rfl (l_SX rfl ok35 rfl wd1365 wd1366 D28_360.1) (?_ : rSnd _ _ 363 _)
  refine s_Is sk5 (show 5 < 9 from by decide) (Or.inl D28_363) ?_
  refine s_Al gk2 (Or.inr ⟨2, D28_365, rfl⟩) ?_
  refine s_Al gk0 (Or.inr ⟨0, D28_366, rfl⟩) ?_
  refine s_Il gk4 (Or.inl D28_367) ?_
  refine s_ic D28_369 kc_i_1 (by decide) ?_
  refine s_Bin q_iadd n_add rG2_x e_add D28_370 ?_
  refine s_Ial D28_371 ?_
  refine s_Al gk0 (Or.inr ⟨0, D28_372, rfl⟩) ?_
  refine s_Il gk4 (Or.inl D28_373) ?_
  refine s_ic D28_375 kc_i_2 (by decide) ?_
  refine s_Bin q_iadd n_add rG2_x e_add D28_376 ?_
  refine s_Ial D28_377 ?_
  refine s_Al gk0 (Or.inr ⟨0, D28_378, rfl⟩) ?_
  refine s_Il gk4 (Or.inl D28_379) ?_
  refine s_ic D28_381 kc_i_3 (by decide) ?_
  refine s_Bin q_iadd n_add rG2_x e_add D28_382 ?_
  refine s_Ial D28_383 ?_
  refine s_Cv (ln := 3) (kd := 24) (C := "WordWrightModel") (by decide) (by decide +kernel) rfl (l_V rfl ok206 rfl wd2385 wd2386 wd2387 D28_384.1) (?_ : rSnd _ _ 387 _)
  refine s_Is sk6 (show 6 < 9 from by decide) (Or.inl D28_387) ?_
  refine s_Al gk2 (Or.inr ⟨2, D28_389, rfl⟩) ?_
  refine s_Cv (ln := 3) (kd := 24) (C := "WordWrightModel") (by decide) (by decide +kernel) rfl (l_V rfl ok225 rfl wd2060 wd2061 wd2062 D28_390.1) (?_ : rSnd _ _ 393 _)
  refine s_Il gk5 (Or.inl D28_393) ?_
  refine s_Ic c_eq (i_eq (tg := 400) (by decide)) D28_395.1 P28_400 (?_ : rSnd _ _ 398 _)
  exact rSnd_none
theorem P28_337 : rSnd lab M28 337 B28_337 := by
  exact s_Go (pc' := 2344) D28_337.1 (by decide) P28_2344
theorem P28_320 : rSnd lab M28 320 B28_320 := by
  refine s_Il gk5 (Or.inl D28_320) ?_
  refine s_If c_ne (fun _ => rfl) (fun _ _ => rfl) (b_ne (tg := 337) (by decide)) D28_322.1 P28_337 (?_ : rSnd _ _ 325 _)
  refine s_Al gk3 (Or.inr ⟨3, D28_325, rfl⟩) ?_
  refine s_ic D28_326 kc_i_0 (by decide) ?_
  refine s_Ald (t := 2) (ty := .long) rfl q_lald rfl D28_327 ?_
  refine s_Il gk6 (Or.inl D28_328) ?_
  refine s_I2l D28_330 ?_
  refine s_Lcmp D28_331 ?_
  refine s_If c_eq (fun _ => rfl) (fun _ _ => rfl) (b_eq (tg := 337) (by decide)) D28_332.1 P28_337 (?_ : rSnd _ _ 335 _)
  exact rSnd_none
theorem P28_272 : rSnd lab M28 272 B28_272 := by
  refine s_Al gk1 (Or.inr ⟨1, D28_272, rfl⟩) ?_
  refine s_Al gk0 (Or.inr ⟨0, D28_273, rfl⟩) ?_
  refine s_Il gk4 (Or.inl D28_274) ?_
  refine s_ic D28_276 kc_i_1 (by decide) ?_
  refine s_Bin q_iadd n_add rG2_x e_add D28_277 ?_
  refine s_Ial D28_278 ?_
  refine s_Al gk0 (Or.inr ⟨0, D28_279, rfl⟩) ?_
  refine s_Il gk4 (Or.inl D28_280) ?_
  refine s_ic D28_282 kc_i_2 (by decide) ?_
  refine s_Bin q_iadd n_add rG2_x e_add D28_283 ?_
  refine s_Ial D28_284 ?_
  refine s_Al gk3 (Or.inr ⟨3, D28_285, rfl⟩) ?_
  refine s_Cs (id := 39) rfl (l_SX rfl ok37 rfl wd1341 wd1342 D28_286.1) (?_ : rSnd _ _ 289 _)
  refine s_Is sk5 (show 5 < 9 from by decide) (Or.inl D28_289) ?_
  refine s_Al gk2 (Or.inr ⟨2, D28_291, rfl⟩) ?_
  refine s_Al gk0 (Or.inr ⟨0, D28_292, rfl⟩) ?_
  refine s_Il gk4 (Or.inl D28_293) ?_
  refine s_ic D28_295 kc_i_1 (by decide) ?_
  refine s_Bin q_iadd n_add rG2_x e_add D28_296 ?_
  refine s_Ial D28_297 ?_
  refine s_Al gk0 (Or.inr ⟨0, D28_298, rfl⟩) ?_
  refine s_Il gk4 (Or.inl D28_299) ?_
  refine s_ic D28_301 kc_i_2 (by decide) ?_
  refine s_Bin q_iadd n_add rG2_x e_add D28_302 ?_
  refine s_Ial D28_303 ?_
  refine s_Cv (ln := 3) (kd := 24) (C := "WordWrightModel") (by decide) (by decide +kernel) rfl (l_V rfl ok210 rfl wd2250 wd2251 wd2252 D28_304.1) (?_ : rSnd _ _ 307 _)
  refine s_Is sk6 (show 6 < 9 from by decide) (Or.inl D28_307) ?_
  refine s_Al gk2 (Or.inr ⟨2, D28_309, rfl⟩) ?_
  refine s_Cv (ln := 3) (kd := 24) (C := "WordWrightModel") (by decide) (by decide +kernel) rfl (l_V rfl ok225 rfl wd2060 wd2061 wd2062 D28_310.1) (?_ : rSnd _ _ 313 _)
  refine s_Il gk5 (Or.inl D28_313) ?_
  refine s_Ic c_eq (i_eq (tg := 320) (by decide)) D28_315.1 P28_320 (?_ : rSnd _ _ 318 _)
  exact rSnd_none
theorem P28_269 : rSnd lab M28 269 B28_269 := by
  exact s_Go (pc' := 2344) D28_269.1 (by decide) P28_2344
theorem P28_252 : rSnd lab M28 252 B28_252 := by
  refine s_Il gk5 (Or.inl D28_252) ?_
  refine s_If c_ne (fun _ => rfl) (fun _ _ => rfl) (b_ne (tg := 269) (by decide)) D28_254.1 P28_269 (?_ : rSnd _ _ 257 _)
  refine s_Al gk3 (Or.inr ⟨3, D28_257, rfl⟩) ?_
  refine s_ic D28_258 kc_i_0 (by decide) ?_
  refine s_Ald (t := 2) (ty := .long) rfl q_lald rfl D28_259 ?_
  refine s_Il gk6 (Or.inl D28_260) ?_
  refine s_I2l D28_262 ?_
  refine s_Lcmp D28_263 ?_
  refine s_If c_eq (fun _ => rfl) (fun _ _ => rfl) (b_eq (tg := 269) (by decide)) D28_264.1 P28_269 (?_ : rSnd _ _ 267 _)
  exact rSnd_none
theorem P28_192 : rSnd lab M28 192 B28_192 := by
  refine s_Al gk1 (Or.inr ⟨1, D28_192, rfl⟩) ?_
  refine s_Al gk0 (Or.inr ⟨0, D28_193, rfl⟩) ?_
  refine s_Il gk4 (Or.inl D28_194) ?_
  refine s_ic D28_196 kc_i_1 (by decide) ?_
  refine s_Bin q_iadd n_add rG2_x e_add D28_197 ?_
  refine s_Ial D28_198 ?_
  refine s_Al gk0 (Or.inr ⟨0, D28_199, rfl⟩) ?_
  refine s_Il gk4 (Or.inl D28_200) ?_
  refine s_ic D28_202 kc_i_2 (by decide) ?_
  refine s_Bin q_iadd n_add rG2_x e_add D28_203 ?_
  refine s_Ial D28_204 ?_
  refine s_Al gk0 (Or.inr ⟨0, D28_205, rfl⟩) ?_
  refine s_Il gk4 (Or.inl D28_206) ?_
  refine s_ic D28_208 kc_i_3 (by decide) ?_
  refine s_Bin q_iadd n_add rG2_x e_add D28_209 ?_
  refine s_Ial D28_210 ?_
  refine s_Al gk3 (Or.inr ⟨3, D28_211, rfl⟩) ?_
  refine s_Cs (id := 34) rfl (l_SX rfl ok32 rfl wd1253 wd1254 D28_212.1) (?_ : rSnd _ _ 215 _)
  refine s_Is sk5 (show 5 < 9 from by decide) (Or.inl D28_215) ?_
  refine s_Al gk2 (Or.inr ⟨2, D28_217, rfl⟩) ?_
  refine s_Al gk0 (Or.inr ⟨0, D28_218, rfl⟩) ?_
  refine s_Il gk4 (Or.inl D28_219) ?_
  refine s_ic D28_221 kc_i_1 (by decide) ?_
  refine s_Bin q_iadd n_add rG2_x e_add D28_222 ?_
  refine s_Ial D28_223 ?_
  refine s_Al gk0 (Or.inr ⟨0, D28_224, rfl⟩) ?_
  refine s_Il gk4 (Or.inl D28_225) ?_
  refine s_ic D28_227 kc_i_2 (by decide) ?_
  refine s_Bin q_iadd n_add rG2_x e_add D28_228 ?_
  refine s_Ial D28_229 ?_
  refine s_Al gk0 (Or.inr ⟨0, D28_230, rfl⟩) ?_
  refine s_Il gk4 (Or.inl D28_231) ?_
  refine s_ic D28_233 kc_i_3 (by decide) ?_
  refine s_Bin q_iadd n_add rG2_x e_add D28_234 ?_
  refine s_Ial D28_235 ?_
  refine s_Cv (ln := 3) (kd := 24) (C := "WordWrightModel") (by decide) (by decide +kernel) rfl (l_V rfl ok200 rfl wd2064 wd2065 wd2066 D28_236.1) (?_ : rSnd _ _ 239 _)
  refine s_Is sk6 (show 6 < 9 from by decide) (Or.inl D28_239) ?_
  refine s_Al gk2 (Or.inr ⟨2, D28_241, rfl⟩) ?_
  refine s_Cv (ln := 3) (kd := 24) (C := "WordWrightModel") (by decide) (by decide +kernel) rfl (l_V rfl ok225 rfl wd2060 wd2061 wd2062 D28_242.1) (?_ : rSnd _ _ 245 _)
  refine s_Il gk5 (Or.inl D28_245) ?_
  refine s_Ic c_eq (i_eq (tg := 252) (by decide)) D28_247.1 P28_252 (?_ : rSnd _ _ 250 _)
  exact rSnd_none
theorem P28_23 : rSnd lab M28 23 B28_23 := by
  refine s_Il gk4 (Or.inl D28_23) ?_
  refine s_Al gk0 (Or.inr ⟨0, D28_25, rfl⟩) ?_
  refine s_Len D28_26 ?_
  refine s_bi D28_27 kc_b_6 (by decide) ?_
  refine s_Bin q_isub n_sub rG2_x rE2_x D28_29 ?_
  refine s_Ic c_gt (i_gt (tg := 2350) (by decide)) D28_30.1 P28_2350 (?_ : rSnd _ _ 33 _)
  refine s_Al gk0 (Or.inr ⟨0, D28_33, rfl⟩) ?_
  refine s_Il gk4 (Or.inl D28_34) ?_
  refine s_Ial D28_36 ?_
  refine s_bi D28_37 kc_b_63 (by decide) ?_
  refine s_Bin q_iand n_and g_and rE2_x D28_39 ?_
  exact s_Tsw (tgd := 2344) D28_40.1 rfl (by decide) (by decide) ⟨⟨192, by decide, P28_192⟩, ⟨272, by decide, P28_272⟩, ⟨340, by decide, P28_340⟩, ⟨420, by decide, P28_420⟩, ⟨495, by decide, P28_495⟩, ⟨563, by decide, P28_563⟩, ⟨631, by decide, P28_631⟩, ⟨675, by decide, P28_675⟩, ⟨779, by decide, P28_779⟩, ⟨847, by decide, P28_847⟩, ⟨927, by decide, P28_927⟩, ⟨995, by decide, P28_995⟩, ⟨1063, by decide, P28_1063⟩, ⟨1143, by decide, P28_1143⟩, ⟨1223, by decide, P28_1223⟩, ⟨1267, by decide, P28_1267⟩, ⟨1347, by decide, P28_1347⟩, ⟨1391, by decide, P28_1391⟩, ⟨1447, by decide, P28_1447⟩, ⟨1460, by decide, P28_1460⟩, ⟨1504, by decide, P28_1504⟩, ⟨1584, by decide, P28_1584⟩, ⟨1652, by decide, P28_1652⟩, ⟨1708, by decide, P28_1708⟩, ⟨1776, by decide, P28_1776⟩, ⟨1844, by decide, P28_1844⟩, ⟨1936, by decide, P28_1936⟩, ⟨1949, by decide, P28_1949⟩, ⟨2029, by decide, P28_2029⟩, ⟨2085, by decide, P28_2085⟩, ⟨2141, by decide, P28_2141⟩, ⟨2182, by decide, P28_2182⟩, ⟨2262, by decide, P28_2262⟩, ⟨2330, by decide, P28_2330⟩, trivial⟩ (by decide) P28_2344
theorem P28_0 : rSnd lab M28 0 B28_0 := by
  refine s_Ent ?_
  refine s_New (ci := 0) (r := ("WordWright", kT0, 13)) rfl rfl wd56 wd57 wd1 kr0 D28_0 ?_
  refine s_Dup D28_3 ?_
  refine s_Ci (id := 84) rfl (l_I rfl ok73 rfl rfl rfl wd58 wd59 D28_4.1) (?_ : rSnd _ _ 7 _)
  refine s_As sk1 (show 1 < 9 from by decide) (Or.inr ⟨1, D28_7, rfl⟩) ?_
  refine s_New (ci := 11) (r := ("WordWrightModel", kT11, 10)) rfl rfl wd1666 wd1667 wd13 kr11 D28_8 ?_
  refine s_Dup D28_11 ?_
  refine s_Ci (id := 251) rfl (l_I rfl ok186 rfl rfl rfl wd1668 wd1669 D28_12.1) (?_ : rSnd _ _ 15 _)
  refine s_As sk2 (show 2 < 9 from by decide) (Or.inr ⟨2, D28_15, rfl⟩) ?_
  refine s_ic D28_16 kc_i_1 (by decide) ?_
  refine s_Nwa (t := 2) rfl (q_newa (at_ := .long) (Or.inr (Or.inl rfl))) (fun ht _ => ht _ wd146) D28_17 ?_
  refine s_As sk3 (show 3 < 9 from by decide) (Or.inr ⟨3, D28_19, rfl⟩) ?_
  refine s_ic D28_20 kc_i_0 (by decide) ?_
  refine s_Is sk4 (show 4 < 9 from by decide) (Or.inl D28_21) ?_
  exact s_Jb rfl
