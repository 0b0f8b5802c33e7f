/-! the law: decode rows -/
theorem dL_law_0 : fet cL_law 0 = some (.new 7) := by decide +kernel
theorem dL_law_3 : fet cL_law 3 = some (.dup) := by decide +kernel
theorem dL_law_4 : fet cL_law 4 = some (.invokespecial 9) := by decide +kernel
theorem dL_law_7 : fet cL_law 7 = some (.astore_n 1) := by decide +kernel
theorem dL_law_8 : fet cL_law 8 = some (.new 10) := by decide +kernel
theorem dL_law_11 : fet cL_law 11 = some (.dup) := by decide +kernel
theorem dL_law_12 : fet cL_law 12 = some (.invokespecial 12) := by decide +kernel
theorem dL_law_15 : fet cL_law 15 = some (.astore_n 2) := by decide +kernel
theorem dL_law_16 : fet cL_law 16 = some (.iconst 0) := by decide +kernel
theorem dL_law_17 : fet cL_law 17 = some (.istore_n 3) := by decide +kernel
theorem dL_law_18 : fet cL_law 18 = some (.iload_n 3) := by decide +kernel
theorem dL_law_19 : fet cL_law 19 = some (.aload_n 0) := by decide +kernel
theorem dL_law_20 : fet cL_law 20 = some (.arraylength) := by decide +kernel
theorem dL_law_21 : fet cL_law 21 = some (.iconst 5) := by decide +kernel
theorem dL_law_22 : fet cL_law 22 = some (.isub) := by decide +kernel
theorem dL_law_23 : fet cL_law 23 = some (.if_icmp .gt 942) := by decide +kernel
theorem dL_law_26 : fet cL_law 26 = some (.aload_n 0) := by decide +kernel
theorem dL_law_27 : fet cL_law 27 = some (.iload_n 3) := by decide +kernel
theorem dL_law_28 : fet cL_law 28 = some (.iaload) := by decide +kernel
theorem dL_law_29 : fet cL_law 29 = some (.bipush 31) := by decide +kernel
theorem dL_law_31 : fet cL_law 31 = some (.iand) := by decide +kernel
theorem dL_law_32 : fet cL_law 32 = some (.tableswitch 927 0 26 #[124, 147, 160, 173, 186, 219, 252, 275, 308, 357, 370, 403, 436, 469, 492, 515, 538, 561, 614, 667, 736, 749, 792, 835, 878, 891, 904]) := by decide +kernel
theorem dL_law_156 : fet cL_law 156 = some (.aload_n 1) := by decide +kernel
theorem dL_law_157 : fet cL_law 157 = some (.aload_n 0) := by decide +kernel
theorem dL_law_158 : fet cL_law 158 = some (.iload_n 3) := by decide +kernel
theorem dL_law_159 : fet cL_law 159 = some (.iconst 1) := by decide +kernel
theorem dL_law_160 : fet cL_law 160 = some (.iadd) := by decide +kernel
theorem dL_law_161 : fet cL_law 161 = some (.iaload) := by decide +kernel
theorem dL_law_162 : fet cL_law 162 = some (.invokevirtual 13) := by decide +kernel
theorem dL_law_165 : fet cL_law 165 = some (.aload_n 2) := by decide +kernel
theorem dL_law_166 : fet cL_law 166 = some (.aload_n 0) := by decide +kernel
theorem dL_law_167 : fet cL_law 167 = some (.iload_n 3) := by decide +kernel
theorem dL_law_168 : fet cL_law 168 = some (.iconst 1) := by decide +kernel
theorem dL_law_169 : fet cL_law 169 = some (.iadd) := by decide +kernel
theorem dL_law_170 : fet cL_law 170 = some (.iaload) := by decide +kernel
theorem dL_law_171 : fet cL_law 171 = some (.invokevirtual 17) := by decide +kernel
theorem dL_law_174 : fet cL_law 174 = some (.if_icmp .eq 785) := by decide +kernel
theorem dL_law_177 : fet cL_law 177 = some (.iconst 0) := by decide +kernel
theorem dL_law_178 : fet cL_law 178 = some (.ireturn) := by decide +kernel
theorem dL_law_179 : fet cL_law 179 = some (.aload_n 1) := by decide +kernel
theorem dL_law_180 : fet cL_law 180 = some (.invokevirtual 18) := by decide +kernel
theorem dL_law_183 : fet cL_law 183 = some (.aload_n 2) := by decide +kernel
theorem dL_law_184 : fet cL_law 184 = some (.invokevirtual 22) := by decide +kernel
theorem dL_law_187 : fet cL_law 187 = some (.if_icmp .eq 772) := by decide +kernel
theorem dL_law_190 : fet cL_law 190 = some (.iconst 0) := by decide +kernel
theorem dL_law_191 : fet cL_law 191 = some (.ireturn) := by decide +kernel
theorem dL_law_192 : fet cL_law 192 = some (.aload_n 1) := by decide +kernel
theorem dL_law_193 : fet cL_law 193 = some (.invokevirtual 23) := by decide +kernel
theorem dL_law_196 : fet cL_law 196 = some (.aload_n 2) := by decide +kernel
theorem dL_law_197 : fet cL_law 197 = some (.invokevirtual 26) := by decide +kernel
theorem dL_law_200 : fet cL_law 200 = some (.if_icmp .eq 759) := by decide +kernel
theorem dL_law_203 : fet cL_law 203 = some (.iconst 0) := by decide +kernel
theorem dL_law_204 : fet cL_law 204 = some (.ireturn) := by decide +kernel
theorem dL_law_205 : fet cL_law 205 = some (.aload_n 1) := by decide +kernel
theorem dL_law_206 : fet cL_law 206 = some (.invokevirtual 27) := by decide +kernel
theorem dL_law_209 : fet cL_law 209 = some (.aload_n 2) := by decide +kernel
theorem dL_law_210 : fet cL_law 210 = some (.invokevirtual 30) := by decide +kernel
theorem dL_law_213 : fet cL_law 213 = some (.if_icmp .eq 746) := by decide +kernel
theorem dL_law_216 : fet cL_law 216 = some (.iconst 0) := by decide +kernel
theorem dL_law_217 : fet cL_law 217 = some (.ireturn) := by decide +kernel
theorem dL_law_218 : fet cL_law 218 = some (.aload_n 1) := by decide +kernel
theorem dL_law_219 : fet cL_law 219 = some (.aload_n 0) := by decide +kernel
theorem dL_law_220 : fet cL_law 220 = some (.iload_n 3) := by decide +kernel
theorem dL_law_221 : fet cL_law 221 = some (.iconst 1) := by decide +kernel
theorem dL_law_222 : fet cL_law 222 = some (.iadd) := by decide +kernel
theorem dL_law_223 : fet cL_law 223 = some (.iaload) := by decide +kernel
theorem dL_law_224 : fet cL_law 224 = some (.aload_n 0) := by decide +kernel
theorem dL_law_225 : fet cL_law 225 = some (.iload_n 3) := by decide +kernel
theorem dL_law_226 : fet cL_law 226 = some (.iconst 2) := by decide +kernel
theorem dL_law_227 : fet cL_law 227 = some (.iadd) := by decide +kernel
theorem dL_law_228 : fet cL_law 228 = some (.iaload) := by decide +kernel
theorem dL_law_229 : fet cL_law 229 = some (.invokevirtual 31) := by decide +kernel
theorem dL_law_232 : fet cL_law 232 = some (.aload_n 2) := by decide +kernel
theorem dL_law_233 : fet cL_law 233 = some (.aload_n 0) := by decide +kernel
theorem dL_law_234 : fet cL_law 234 = some (.iload_n 3) := by decide +kernel
theorem dL_law_235 : fet cL_law 235 = some (.iconst 1) := by decide +kernel
theorem dL_law_236 : fet cL_law 236 = some (.iadd) := by decide +kernel
theorem dL_law_237 : fet cL_law 237 = some (.iaload) := by decide +kernel
theorem dL_law_238 : fet cL_law 238 = some (.aload_n 0) := by decide +kernel
theorem dL_law_239 : fet cL_law 239 = some (.iload_n 3) := by decide +kernel
theorem dL_law_240 : fet cL_law 240 = some (.iconst 2) := by decide +kernel
theorem dL_law_241 : fet cL_law 241 = some (.iadd) := by decide +kernel
theorem dL_law_242 : fet cL_law 242 = some (.iaload) := by decide +kernel
theorem dL_law_243 : fet cL_law 243 = some (.invokevirtual 35) := by decide +kernel
theorem dL_law_246 : fet cL_law 246 = some (.if_icmp .eq 713) := by decide +kernel
theorem dL_law_249 : fet cL_law 249 = some (.iconst 0) := by decide +kernel
theorem dL_law_250 : fet cL_law 250 = some (.ireturn) := by decide +kernel
theorem dL_law_251 : fet cL_law 251 = some (.aload_n 1) := by decide +kernel
theorem dL_law_252 : fet cL_law 252 = some (.aload_n 0) := by decide +kernel
theorem dL_law_253 : fet cL_law 253 = some (.iload_n 3) := by decide +kernel
theorem dL_law_254 : fet cL_law 254 = some (.iconst 1) := by decide +kernel
theorem dL_law_255 : fet cL_law 255 = some (.iadd) := by decide +kernel
theorem dL_law_256 : fet cL_law 256 = some (.iaload) := by decide +kernel
theorem dL_law_257 : fet cL_law 257 = some (.aload_n 0) := by decide +kernel
theorem dL_law_258 : fet cL_law 258 = some (.iload_n 3) := by decide +kernel
theorem dL_law_259 : fet cL_law 259 = some (.iconst 2) := by decide +kernel
theorem dL_law_260 : fet cL_law 260 = some (.iadd) := by decide +kernel
theorem dL_law_261 : fet cL_law 261 = some (.iaload) := by decide +kernel
theorem dL_law_262 : fet cL_law 262 = some (.invokevirtual 36) := by decide +kernel
theorem dL_law_265 : fet cL_law 265 = some (.aload_n 2) := by decide +kernel
theorem dL_law_266 : fet cL_law 266 = some (.aload_n 0) := by decide +kernel
theorem dL_law_267 : fet cL_law 267 = some (.iload_n 3) := by decide +kernel
theorem dL_law_268 : fet cL_law 268 = some (.iconst 1) := by decide +kernel
theorem dL_law_269 : fet cL_law 269 = some (.iadd) := by decide +kernel
theorem dL_law_270 : fet cL_law 270 = some (.iaload) := by decide +kernel
theorem dL_law_271 : fet cL_law 271 = some (.aload_n 0) := by decide +kernel
theorem dL_law_272 : fet cL_law 272 = some (.iload_n 3) := by decide +kernel
theorem dL_law_273 : fet cL_law 273 = some (.iconst 2) := by decide +kernel
theorem dL_law_274 : fet cL_law 274 = some (.iadd) := by decide +kernel
theorem dL_law_275 : fet cL_law 275 = some (.iaload) := by decide +kernel
theorem dL_law_276 : fet cL_law 276 = some (.invokevirtual 39) := by decide +kernel
theorem dL_law_279 : fet cL_law 279 = some (.if_icmp .eq 680) := by decide +kernel
theorem dL_law_282 : fet cL_law 282 = some (.iconst 0) := by decide +kernel
theorem dL_law_283 : fet cL_law 283 = some (.ireturn) := by decide +kernel
theorem dL_law_284 : fet cL_law 284 = some (.aload_n 1) := by decide +kernel
theorem dL_law_285 : fet cL_law 285 = some (.aload_n 0) := by decide +kernel
theorem dL_law_286 : fet cL_law 286 = some (.iload_n 3) := by decide +kernel
theorem dL_law_287 : fet cL_law 287 = some (.iconst 1) := by decide +kernel
theorem dL_law_288 : fet cL_law 288 = some (.iadd) := by decide +kernel
theorem dL_law_289 : fet cL_law 289 = some (.iaload) := by decide +kernel
theorem dL_law_290 : fet cL_law 290 = some (.invokevirtual 40) := by decide +kernel
theorem dL_law_293 : fet cL_law 293 = some (.aload_n 2) := by decide +kernel
theorem dL_law_294 : fet cL_law 294 = some (.aload_n 0) := by decide +kernel
theorem dL_law_295 : fet cL_law 295 = some (.iload_n 3) := by decide +kernel
theorem dL_law_296 : fet cL_law 296 = some (.iconst 1) := by decide +kernel
theorem dL_law_297 : fet cL_law 297 = some (.iadd) := by decide +kernel
theorem dL_law_298 : fet cL_law 298 = some (.iaload) := by decide +kernel
theorem dL_law_299 : fet cL_law 299 = some (.invokevirtual 43) := by decide +kernel
theorem dL_law_302 : fet cL_law 302 = some (.if_icmp .eq 657) := by decide +kernel
theorem dL_law_305 : fet cL_law 305 = some (.iconst 0) := by decide +kernel
theorem dL_law_306 : fet cL_law 306 = some (.ireturn) := by decide +kernel
theorem dL_law_307 : fet cL_law 307 = some (.aload_n 1) := by decide +kernel
theorem dL_law_308 : fet cL_law 308 = some (.aload_n 0) := by decide +kernel
theorem dL_law_309 : fet cL_law 309 = some (.iload_n 3) := by decide +kernel
theorem dL_law_310 : fet cL_law 310 = some (.iconst 1) := by decide +kernel
theorem dL_law_311 : fet cL_law 311 = some (.iadd) := by decide +kernel
theorem dL_law_312 : fet cL_law 312 = some (.iaload) := by decide +kernel
theorem dL_law_313 : fet cL_law 313 = some (.aload_n 0) := by decide +kernel
theorem dL_law_314 : fet cL_law 314 = some (.iload_n 3) := by decide +kernel
theorem dL_law_315 : fet cL_law 315 = some (.iconst 2) := by decide +kernel
theorem dL_law_316 : fet cL_law 316 = some (.iadd) := by decide +kernel
theorem dL_law_317 : fet cL_law 317 = some (.iaload) := by decide +kernel
theorem dL_law_318 : fet cL_law 318 = some (.invokevirtual 44) := by decide +kernel
theorem dL_law_321 : fet cL_law 321 = some (.aload_n 2) := by decide +kernel
theorem dL_law_322 : fet cL_law 322 = some (.aload_n 0) := by decide +kernel
theorem dL_law_323 : fet cL_law 323 = some (.iload_n 3) := by decide +kernel
theorem dL_law_324 : fet cL_law 324 = some (.iconst 1) := by decide +kernel
theorem dL_law_325 : fet cL_law 325 = some (.iadd) := by decide +kernel
theorem dL_law_326 : fet cL_law 326 = some (.iaload) := by decide +kernel
theorem dL_law_327 : fet cL_law 327 = some (.aload_n 0) := by decide +kernel
theorem dL_law_328 : fet cL_law 328 = some (.iload_n 3) := by decide +kernel
theorem dL_law_329 : fet cL_law 329 = some (.iconst 2) := by decide +kernel
theorem dL_law_330 : fet cL_law 330 = some (.iadd) := by decide +kernel
theorem dL_law_331 : fet cL_law 331 = some (.iaload) := by decide +kernel
theorem dL_law_332 : fet cL_law 332 = some (.invokevirtual 47) := by decide +kernel
theorem dL_law_335 : fet cL_law 335 = some (.if_icmp .eq 624) := by decide +kernel
theorem dL_law_338 : fet cL_law 338 = some (.iconst 0) := by decide +kernel
theorem dL_law_339 : fet cL_law 339 = some (.ireturn) := by decide +kernel
theorem dL_law_340 : fet cL_law 340 = some (.aload_n 1) := by decide +kernel
theorem dL_law_341 : fet cL_law 341 = some (.aload_n 0) := by decide +kernel
theorem dL_law_342 : fet cL_law 342 = some (.iload_n 3) := by decide +kernel
theorem dL_law_343 : fet cL_law 343 = some (.iconst 1) := by decide +kernel
theorem dL_law_344 : fet cL_law 344 = some (.iadd) := by decide +kernel
theorem dL_law_345 : fet cL_law 345 = some (.iaload) := by decide +kernel
theorem dL_law_346 : fet cL_law 346 = some (.aload_n 0) := by decide +kernel
theorem dL_law_347 : fet cL_law 347 = some (.iload_n 3) := by decide +kernel
theorem dL_law_348 : fet cL_law 348 = some (.iconst 2) := by decide +kernel
theorem dL_law_349 : fet cL_law 349 = some (.iadd) := by decide +kernel
theorem dL_law_350 : fet cL_law 350 = some (.iaload) := by decide +kernel
theorem dL_law_351 : fet cL_law 351 = some (.ifCond .eq 7) := by decide +kernel
theorem dL_law_354 : fet cL_law 354 = some (.iconst 1) := by decide +kernel
theorem dL_law_355 : fet cL_law 355 = some (.goto 4) := by decide +kernel
theorem dL_law_358 : fet cL_law 358 = some (.iconst 0) := by decide +kernel
theorem dL_law_359 : fet cL_law 359 = some (.invokevirtual 48) := by decide +kernel
theorem dL_law_362 : fet cL_law 362 = some (.aload_n 2) := by decide +kernel
theorem dL_law_363 : fet cL_law 363 = some (.aload_n 0) := by decide +kernel
theorem dL_law_364 : fet cL_law 364 = some (.iload_n 3) := by decide +kernel
theorem dL_law_365 : fet cL_law 365 = some (.iconst 1) := by decide +kernel
theorem dL_law_366 : fet cL_law 366 = some (.iadd) := by decide +kernel
theorem dL_law_367 : fet cL_law 367 = some (.iaload) := by decide +kernel
theorem dL_law_368 : fet cL_law 368 = some (.aload_n 0) := by decide +kernel
theorem dL_law_369 : fet cL_law 369 = some (.iload_n 3) := by decide +kernel
theorem dL_law_370 : fet cL_law 370 = some (.iconst 2) := by decide +kernel
theorem dL_law_371 : fet cL_law 371 = some (.iadd) := by decide +kernel
theorem dL_law_372 : fet cL_law 372 = some (.iaload) := by decide +kernel
theorem dL_law_373 : fet cL_law 373 = some (.ifCond .eq 7) := by decide +kernel
theorem dL_law_376 : fet cL_law 376 = some (.iconst 1) := by decide +kernel
theorem dL_law_377 : fet cL_law 377 = some (.goto 4) := by decide +kernel
theorem dL_law_380 : fet cL_law 380 = some (.iconst 0) := by decide +kernel
theorem dL_law_381 : fet cL_law 381 = some (.invokevirtual 52) := by decide +kernel
theorem dL_law_384 : fet cL_law 384 = some (.if_icmp .eq 575) := by decide +kernel
theorem dL_law_387 : fet cL_law 387 = some (.iconst 0) := by decide +kernel
theorem dL_law_388 : fet cL_law 388 = some (.ireturn) := by decide +kernel
theorem dL_law_389 : fet cL_law 389 = some (.aload_n 1) := by decide +kernel
theorem dL_law_390 : fet cL_law 390 = some (.invokevirtual 53) := by decide +kernel
theorem dL_law_393 : fet cL_law 393 = some (.aload_n 2) := by decide +kernel
theorem dL_law_394 : fet cL_law 394 = some (.invokevirtual 56) := by decide +kernel
theorem dL_law_397 : fet cL_law 397 = some (.if_icmp .eq 562) := by decide +kernel
theorem dL_law_400 : fet cL_law 400 = some (.iconst 0) := by decide +kernel
theorem dL_law_401 : fet cL_law 401 = some (.ireturn) := by decide +kernel
theorem dL_law_402 : fet cL_law 402 = some (.aload_n 1) := by decide +kernel
theorem dL_law_403 : fet cL_law 403 = some (.aload_n 0) := by decide +kernel
theorem dL_law_404 : fet cL_law 404 = some (.iload_n 3) := by decide +kernel
theorem dL_law_405 : fet cL_law 405 = some (.iconst 1) := by decide +kernel
theorem dL_law_406 : fet cL_law 406 = some (.iadd) := by decide +kernel
theorem dL_law_407 : fet cL_law 407 = some (.iaload) := by decide +kernel
theorem dL_law_408 : fet cL_law 408 = some (.aload_n 0) := by decide +kernel
theorem dL_law_409 : fet cL_law 409 = some (.iload_n 3) := by decide +kernel
theorem dL_law_410 : fet cL_law 410 = some (.iconst 2) := by decide +kernel
theorem dL_law_411 : fet cL_law 411 = some (.iadd) := by decide +kernel
theorem dL_law_412 : fet cL_law 412 = some (.iaload) := by decide +kernel
theorem dL_law_413 : fet cL_law 413 = some (.invokevirtual 57) := by decide +kernel
theorem dL_law_416 : fet cL_law 416 = some (.aload_n 2) := by decide +kernel
theorem dL_law_417 : fet cL_law 417 = some (.aload_n 0) := by decide +kernel
theorem dL_law_418 : fet cL_law 418 = some (.iload_n 3) := by decide +kernel
theorem dL_law_419 : fet cL_law 419 = some (.iconst 1) := by decide +kernel
theorem dL_law_420 : fet cL_law 420 = some (.iadd) := by decide +kernel
theorem dL_law_421 : fet cL_law 421 = some (.iaload) := by decide +kernel
theorem dL_law_422 : fet cL_law 422 = some (.aload_n 0) := by decide +kernel
theorem dL_law_423 : fet cL_law 423 = some (.iload_n 3) := by decide +kernel
theorem dL_law_424 : fet cL_law 424 = some (.iconst 2) := by decide +kernel
theorem dL_law_425 : fet cL_law 425 = some (.iadd) := by decide +kernel
theorem dL_law_426 : fet cL_law 426 = some (.iaload) := by decide +kernel
theorem dL_law_427 : fet cL_law 427 = some (.invokevirtual 60) := by decide +kernel
theorem dL_law_430 : fet cL_law 430 = some (.if_icmp .eq 529) := by decide +kernel
theorem dL_law_433 : fet cL_law 433 = some (.iconst 0) := by decide +kernel
theorem dL_law_434 : fet cL_law 434 = some (.ireturn) := by decide +kernel
theorem dL_law_435 : fet cL_law 435 = some (.aload_n 1) := by decide +kernel
theorem dL_law_436 : fet cL_law 436 = some (.aload_n 0) := by decide +kernel
theorem dL_law_437 : fet cL_law 437 = some (.iload_n 3) := by decide +kernel
theorem dL_law_438 : fet cL_law 438 = some (.iconst 1) := by decide +kernel
theorem dL_law_439 : fet cL_law 439 = some (.iadd) := by decide +kernel
theorem dL_law_440 : fet cL_law 440 = some (.iaload) := by decide +kernel
theorem dL_law_441 : fet cL_law 441 = some (.aload_n 0) := by decide +kernel
theorem dL_law_442 : fet cL_law 442 = some (.iload_n 3) := by decide +kernel
theorem dL_law_443 : fet cL_law 443 = some (.iconst 2) := by decide +kernel
theorem dL_law_444 : fet cL_law 444 = some (.iadd) := by decide +kernel
theorem dL_law_445 : fet cL_law 445 = some (.iaload) := by decide +kernel
theorem dL_law_446 : fet cL_law 446 = some (.invokevirtual 61) := by decide +kernel
theorem dL_law_449 : fet cL_law 449 = some (.aload_n 2) := by decide +kernel
theorem dL_law_450 : fet cL_law 450 = some (.aload_n 0) := by decide +kernel
theorem dL_law_451 : fet cL_law 451 = some (.iload_n 3) := by decide +kernel
theorem dL_law_452 : fet cL_law 452 = some (.iconst 1) := by decide +kernel
theorem dL_law_453 : fet cL_law 453 = some (.iadd) := by decide +kernel
theorem dL_law_454 : fet cL_law 454 = some (.iaload) := by decide +kernel
theorem dL_law_455 : fet cL_law 455 = some (.aload_n 0) := by decide +kernel
theorem dL_law_456 : fet cL_law 456 = some (.iload_n 3) := by decide +kernel
theorem dL_law_457 : fet cL_law 457 = some (.iconst 2) := by decide +kernel
theorem dL_law_458 : fet cL_law 458 = some (.iadd) := by decide +kernel
theorem dL_law_459 : fet cL_law 459 = some (.iaload) := by decide +kernel
theorem dL_law_460 : fet cL_law 460 = some (.invokevirtual 64) := by decide +kernel
theorem dL_law_463 : fet cL_law 463 = some (.if_icmp .eq 496) := by decide +kernel
theorem dL_law_466 : fet cL_law 466 = some (.iconst 0) := by decide +kernel
theorem dL_law_467 : fet cL_law 467 = some (.ireturn) := by decide +kernel
theorem dL_law_468 : fet cL_law 468 = some (.aload_n 1) := by decide +kernel
theorem dL_law_469 : fet cL_law 469 = some (.aload_n 0) := by decide +kernel
theorem dL_law_470 : fet cL_law 470 = some (.iload_n 3) := by decide +kernel
theorem dL_law_471 : fet cL_law 471 = some (.iconst 1) := by decide +kernel
theorem dL_law_472 : fet cL_law 472 = some (.iadd) := by decide +kernel
theorem dL_law_473 : fet cL_law 473 = some (.iaload) := by decide +kernel
theorem dL_law_474 : fet cL_law 474 = some (.aload_n 0) := by decide +kernel
theorem dL_law_475 : fet cL_law 475 = some (.iload_n 3) := by decide +kernel
theorem dL_law_476 : fet cL_law 476 = some (.iconst 2) := by decide +kernel
theorem dL_law_477 : fet cL_law 477 = some (.iadd) := by decide +kernel
theorem dL_law_478 : fet cL_law 478 = some (.iaload) := by decide +kernel
theorem dL_law_479 : fet cL_law 479 = some (.invokevirtual 65) := by decide +kernel
theorem dL_law_482 : fet cL_law 482 = some (.aload_n 2) := by decide +kernel
theorem dL_law_483 : fet cL_law 483 = some (.aload_n 0) := by decide +kernel
theorem dL_law_484 : fet cL_law 484 = some (.iload_n 3) := by decide +kernel
theorem dL_law_485 : fet cL_law 485 = some (.iconst 1) := by decide +kernel
theorem dL_law_486 : fet cL_law 486 = some (.iadd) := by decide +kernel
theorem dL_law_487 : fet cL_law 487 = some (.iaload) := by decide +kernel
theorem dL_law_488 : fet cL_law 488 = some (.aload_n 0) := by decide +kernel
theorem dL_law_489 : fet cL_law 489 = some (.iload_n 3) := by decide +kernel
theorem dL_law_490 : fet cL_law 490 = some (.iconst 2) := by decide +kernel
theorem dL_law_491 : fet cL_law 491 = some (.iadd) := by decide +kernel
theorem dL_law_492 : fet cL_law 492 = some (.iaload) := by decide +kernel
theorem dL_law_493 : fet cL_law 493 = some (.invokevirtual 68) := by decide +kernel
theorem dL_law_496 : fet cL_law 496 = some (.if_icmp .eq 463) := by decide +kernel
theorem dL_law_499 : fet cL_law 499 = some (.iconst 0) := by decide +kernel
theorem dL_law_500 : fet cL_law 500 = some (.ireturn) := by decide +kernel
theorem dL_law_501 : fet cL_law 501 = some (.aload_n 1) := by decide +kernel
theorem dL_law_502 : fet cL_law 502 = some (.aload_n 0) := by decide +kernel
theorem dL_law_503 : fet cL_law 503 = some (.iload_n 3) := by decide +kernel
theorem dL_law_504 : fet cL_law 504 = some (.iconst 1) := by decide +kernel
theorem dL_law_505 : fet cL_law 505 = some (.iadd) := by decide +kernel
theorem dL_law_506 : fet cL_law 506 = some (.iaload) := by decide +kernel
theorem dL_law_507 : fet cL_law 507 = some (.invokevirtual 69) := by decide +kernel
theorem dL_law_510 : fet cL_law 510 = some (.aload_n 2) := by decide +kernel
theorem dL_law_511 : fet cL_law 511 = some (.aload_n 0) := by decide +kernel
theorem dL_law_512 : fet cL_law 512 = some (.iload_n 3) := by decide +kernel
theorem dL_law_513 : fet cL_law 513 = some (.iconst 1) := by decide +kernel
theorem dL_law_514 : fet cL_law 514 = some (.iadd) := by decide +kernel
theorem dL_law_515 : fet cL_law 515 = some (.iaload) := by decide +kernel
theorem dL_law_516 : fet cL_law 516 = some (.invokevirtual 72) := by decide +kernel
theorem dL_law_519 : fet cL_law 519 = some (.if_icmp .eq 440) := by decide +kernel
theorem dL_law_522 : fet cL_law 522 = some (.iconst 0) := by decide +kernel
theorem dL_law_523 : fet cL_law 523 = some (.ireturn) := by decide +kernel
theorem dL_law_524 : fet cL_law 524 = some (.aload_n 1) := by decide +kernel
theorem dL_law_525 : fet cL_law 525 = some (.aload_n 0) := by decide +kernel
theorem dL_law_526 : fet cL_law 526 = some (.iload_n 3) := by decide +kernel
theorem dL_law_527 : fet cL_law 527 = some (.iconst 1) := by decide +kernel
theorem dL_law_528 : fet cL_law 528 = some (.iadd) := by decide +kernel
theorem dL_law_529 : fet cL_law 529 = some (.iaload) := by decide +kernel
theorem dL_law_530 : fet cL_law 530 = some (.invokevirtual 73) := by decide +kernel
theorem dL_law_533 : fet cL_law 533 = some (.aload_n 2) := by decide +kernel
theorem dL_law_534 : fet cL_law 534 = some (.aload_n 0) := by decide +kernel
theorem dL_law_535 : fet cL_law 535 = some (.iload_n 3) := by decide +kernel
theorem dL_law_536 : fet cL_law 536 = some (.iconst 1) := by decide +kernel
theorem dL_law_537 : fet cL_law 537 = some (.iadd) := by decide +kernel
theorem dL_law_538 : fet cL_law 538 = some (.iaload) := by decide +kernel
theorem dL_law_539 : fet cL_law 539 = some (.invokevirtual 76) := by decide +kernel
theorem dL_law_542 : fet cL_law 542 = some (.if_icmp .eq 417) := by decide +kernel
theorem dL_law_545 : fet cL_law 545 = some (.iconst 0) := by decide +kernel
theorem dL_law_546 : fet cL_law 546 = some (.ireturn) := by decide +kernel
theorem dL_law_547 : fet cL_law 547 = some (.aload_n 1) := by decide +kernel
theorem dL_law_548 : fet cL_law 548 = some (.aload_n 0) := by decide +kernel
theorem dL_law_549 : fet cL_law 549 = some (.iload_n 3) := by decide +kernel
theorem dL_law_550 : fet cL_law 550 = some (.iconst 1) := by decide +kernel
theorem dL_law_551 : fet cL_law 551 = some (.iadd) := by decide +kernel
theorem dL_law_552 : fet cL_law 552 = some (.iaload) := by decide +kernel
theorem dL_law_553 : fet cL_law 553 = some (.invokevirtual 77) := by decide +kernel
theorem dL_law_556 : fet cL_law 556 = some (.aload_n 2) := by decide +kernel
theorem dL_law_557 : fet cL_law 557 = some (.aload_n 0) := by decide +kernel
theorem dL_law_558 : fet cL_law 558 = some (.iload_n 3) := by decide +kernel
theorem dL_law_559 : fet cL_law 559 = some (.iconst 1) := by decide +kernel
theorem dL_law_560 : fet cL_law 560 = some (.iadd) := by decide +kernel
theorem dL_law_561 : fet cL_law 561 = some (.iaload) := by decide +kernel
theorem dL_law_562 : fet cL_law 562 = some (.invokevirtual 80) := by decide +kernel
theorem dL_law_565 : fet cL_law 565 = some (.if_icmp .eq 394) := by decide +kernel
theorem dL_law_568 : fet cL_law 568 = some (.iconst 0) := by decide +kernel
theorem dL_law_569 : fet cL_law 569 = some (.ireturn) := by decide +kernel
theorem dL_law_570 : fet cL_law 570 = some (.aload_n 1) := by decide +kernel
theorem dL_law_571 : fet cL_law 571 = some (.aload_n 0) := by decide +kernel
theorem dL_law_572 : fet cL_law 572 = some (.iload_n 3) := by decide +kernel
theorem dL_law_573 : fet cL_law 573 = some (.iconst 1) := by decide +kernel
theorem dL_law_574 : fet cL_law 574 = some (.iadd) := by decide +kernel
theorem dL_law_575 : fet cL_law 575 = some (.iaload) := by decide +kernel
theorem dL_law_576 : fet cL_law 576 = some (.invokevirtual 81) := by decide +kernel
theorem dL_law_579 : fet cL_law 579 = some (.aload_n 2) := by decide +kernel
theorem dL_law_580 : fet cL_law 580 = some (.aload_n 0) := by decide +kernel
theorem dL_law_581 : fet cL_law 581 = some (.iload_n 3) := by decide +kernel
theorem dL_law_582 : fet cL_law 582 = some (.iconst 1) := by decide +kernel
theorem dL_law_583 : fet cL_law 583 = some (.iadd) := by decide +kernel
theorem dL_law_584 : fet cL_law 584 = some (.iaload) := by decide +kernel
theorem dL_law_585 : fet cL_law 585 = some (.invokevirtual 84) := by decide +kernel
theorem dL_law_588 : fet cL_law 588 = some (.if_icmp .eq 371) := by decide +kernel
theorem dL_law_591 : fet cL_law 591 = some (.iconst 0) := by decide +kernel
theorem dL_law_592 : fet cL_law 592 = some (.ireturn) := by decide +kernel
theorem dL_law_593 : fet cL_law 593 = some (.aload_n 1) := by decide +kernel
theorem dL_law_594 : fet cL_law 594 = some (.aload_n 0) := by decide +kernel
theorem dL_law_595 : fet cL_law 595 = some (.iload_n 3) := by decide +kernel
theorem dL_law_596 : fet cL_law 596 = some (.iconst 1) := by decide +kernel
theorem dL_law_597 : fet cL_law 597 = some (.iadd) := by decide +kernel
theorem dL_law_598 : fet cL_law 598 = some (.iaload) := by decide +kernel
theorem dL_law_599 : fet cL_law 599 = some (.aload_n 0) := by decide +kernel
theorem dL_law_600 : fet cL_law 600 = some (.iload_n 3) := by decide +kernel
theorem dL_law_601 : fet cL_law 601 = some (.iconst 2) := by decide +kernel
theorem dL_law_602 : fet cL_law 602 = some (.iadd) := by decide +kernel
theorem dL_law_603 : fet cL_law 603 = some (.iaload) := by decide +kernel
theorem dL_law_604 : fet cL_law 604 = some (.aload_n 0) := by decide +kernel
theorem dL_law_605 : fet cL_law 605 = some (.iload_n 3) := by decide +kernel
theorem dL_law_606 : fet cL_law 606 = some (.iconst 3) := by decide +kernel
theorem dL_law_607 : fet cL_law 607 = some (.iadd) := by decide +kernel
theorem dL_law_608 : fet cL_law 608 = some (.iaload) := by decide +kernel
theorem dL_law_609 : fet cL_law 609 = some (.aload_n 0) := by decide +kernel
theorem dL_law_610 : fet cL_law 610 = some (.iload_n 3) := by decide +kernel
theorem dL_law_611 : fet cL_law 611 = some (.iconst 4) := by decide +kernel
theorem dL_law_612 : fet cL_law 612 = some (.iadd) := by decide +kernel
theorem dL_law_613 : fet cL_law 613 = some (.iaload) := by decide +kernel
theorem dL_law_614 : fet cL_law 614 = some (.invokevirtual 85) := by decide +kernel
theorem dL_law_617 : fet cL_law 617 = some (.aload_n 2) := by decide +kernel
theorem dL_law_618 : fet cL_law 618 = some (.aload_n 0) := by decide +kernel
theorem dL_law_619 : fet cL_law 619 = some (.iload_n 3) := by decide +kernel
theorem dL_law_620 : fet cL_law 620 = some (.iconst 1) := by decide +kernel
theorem dL_law_621 : fet cL_law 621 = some (.iadd) := by decide +kernel
theorem dL_law_622 : fet cL_law 622 = some (.iaload) := by decide +kernel
theorem dL_law_623 : fet cL_law 623 = some (.aload_n 0) := by decide +kernel
theorem dL_law_624 : fet cL_law 624 = some (.iload_n 3) := by decide +kernel
theorem dL_law_625 : fet cL_law 625 = some (.iconst 2) := by decide +kernel
theorem dL_law_626 : fet cL_law 626 = some (.iadd) := by decide +kernel
theorem dL_law_627 : fet cL_law 627 = some (.iaload) := by decide +kernel
theorem dL_law_628 : fet cL_law 628 = some (.aload_n 0) := by decide +kernel
theorem dL_law_629 : fet cL_law 629 = some (.iload_n 3) := by decide +kernel
theorem dL_law_630 : fet cL_law 630 = some (.iconst 3) := by decide +kernel
theorem dL_law_631 : fet cL_law 631 = some (.iadd) := by decide +kernel
theorem dL_law_632 : fet cL_law 632 = some (.iaload) := by decide +kernel
theorem dL_law_633 : fet cL_law 633 = some (.aload_n 0) := by decide +kernel
theorem dL_law_634 : fet cL_law 634 = some (.iload_n 3) := by decide +kernel
theorem dL_law_635 : fet cL_law 635 = some (.iconst 4) := by decide +kernel
theorem dL_law_636 : fet cL_law 636 = some (.iadd) := by decide +kernel
theorem dL_law_637 : fet cL_law 637 = some (.iaload) := by decide +kernel
theorem dL_law_638 : fet cL_law 638 = some (.invokevirtual 89) := by decide +kernel
theorem dL_law_641 : fet cL_law 641 = some (.if_icmp .eq 318) := by decide +kernel
theorem dL_law_644 : fet cL_law 644 = some (.iconst 0) := by decide +kernel
theorem dL_law_645 : fet cL_law 645 = some (.ireturn) := by decide +kernel
theorem dL_law_646 : fet cL_law 646 = some (.aload_n 1) := by decide +kernel
theorem dL_law_647 : fet cL_law 647 = some (.aload_n 0) := by decide +kernel
theorem dL_law_648 : fet cL_law 648 = some (.iload_n 3) := by decide +kernel
theorem dL_law_649 : fet cL_law 649 = some (.iconst 1) := by decide +kernel
theorem dL_law_650 : fet cL_law 650 = some (.iadd) := by decide +kernel
theorem dL_law_651 : fet cL_law 651 = some (.iaload) := by decide +kernel
theorem dL_law_652 : fet cL_law 652 = some (.aload_n 0) := by decide +kernel
theorem dL_law_653 : fet cL_law 653 = some (.iload_n 3) := by decide +kernel
theorem dL_law_654 : fet cL_law 654 = some (.iconst 2) := by decide +kernel
theorem dL_law_655 : fet cL_law 655 = some (.iadd) := by decide +kernel
theorem dL_law_656 : fet cL_law 656 = some (.iaload) := by decide +kernel
theorem dL_law_657 : fet cL_law 657 = some (.aload_n 0) := by decide +kernel
theorem dL_law_658 : fet cL_law 658 = some (.iload_n 3) := by decide +kernel
theorem dL_law_659 : fet cL_law 659 = some (.iconst 3) := by decide +kernel
theorem dL_law_660 : fet cL_law 660 = some (.iadd) := by decide +kernel
theorem dL_law_661 : fet cL_law 661 = some (.iaload) := by decide +kernel
theorem dL_law_662 : fet cL_law 662 = some (.aload_n 0) := by decide +kernel
theorem dL_law_663 : fet cL_law 663 = some (.iload_n 3) := by decide +kernel
theorem dL_law_664 : fet cL_law 664 = some (.iconst 4) := by decide +kernel
theorem dL_law_665 : fet cL_law 665 = some (.iadd) := by decide +kernel
theorem dL_law_666 : fet cL_law 666 = some (.iaload) := by decide +kernel
theorem dL_law_667 : fet cL_law 667 = some (.invokevirtual 90) := by decide +kernel
theorem dL_law_670 : fet cL_law 670 = some (.aload_n 2) := by decide +kernel
theorem dL_law_671 : fet cL_law 671 = some (.aload_n 0) := by decide +kernel
theorem dL_law_672 : fet cL_law 672 = some (.iload_n 3) := by decide +kernel
theorem dL_law_673 : fet cL_law 673 = some (.iconst 1) := by decide +kernel
theorem dL_law_674 : fet cL_law 674 = some (.iadd) := by decide +kernel
theorem dL_law_675 : fet cL_law 675 = some (.iaload) := by decide +kernel
theorem dL_law_676 : fet cL_law 676 = some (.aload_n 0) := by decide +kernel
theorem dL_law_677 : fet cL_law 677 = some (.iload_n 3) := by decide +kernel
theorem dL_law_678 : fet cL_law 678 = some (.iconst 2) := by decide +kernel
theorem dL_law_679 : fet cL_law 679 = some (.iadd) := by decide +kernel
theorem dL_law_680 : fet cL_law 680 = some (.iaload) := by decide +kernel
theorem dL_law_681 : fet cL_law 681 = some (.aload_n 0) := by decide +kernel
theorem dL_law_682 : fet cL_law 682 = some (.iload_n 3) := by decide +kernel
theorem dL_law_683 : fet cL_law 683 = some (.iconst 3) := by decide +kernel
theorem dL_law_684 : fet cL_law 684 = some (.iadd) := by decide +kernel
theorem dL_law_685 : fet cL_law 685 = some (.iaload) := by decide +kernel
theorem dL_law_686 : fet cL_law 686 = some (.aload_n 0) := by decide +kernel
theorem dL_law_687 : fet cL_law 687 = some (.iload_n 3) := by decide +kernel
theorem dL_law_688 : fet cL_law 688 = some (.iconst 4) := by decide +kernel
theorem dL_law_689 : fet cL_law 689 = some (.iadd) := by decide +kernel
theorem dL_law_690 : fet cL_law 690 = some (.iaload) := by decide +kernel
theorem dL_law_691 : fet cL_law 691 = some (.invokevirtual 93) := by decide +kernel
theorem dL_law_694 : fet cL_law 694 = some (.if_icmp .eq 265) := by decide +kernel
theorem dL_law_697 : fet cL_law 697 = some (.iconst 0) := by decide +kernel
theorem dL_law_698 : fet cL_law 698 = some (.ireturn) := by decide +kernel
theorem dL_law_699 : fet cL_law 699 = some (.aload_n 1) := by decide +kernel
theorem dL_law_700 : fet cL_law 700 = some (.aload_n 0) := by decide +kernel
theorem dL_law_701 : fet cL_law 701 = some (.iload_n 3) := by decide +kernel
theorem dL_law_702 : fet cL_law 702 = some (.iconst 1) := by decide +kernel
theorem dL_law_703 : fet cL_law 703 = some (.iadd) := by decide +kernel
theorem dL_law_704 : fet cL_law 704 = some (.iaload) := by decide +kernel
theorem dL_law_705 : fet cL_law 705 = some (.aload_n 0) := by decide +kernel
theorem dL_law_706 : fet cL_law 706 = some (.iload_n 3) := by decide +kernel
theorem dL_law_707 : fet cL_law 707 = some (.iconst 2) := by decide +kernel
theorem dL_law_708 : fet cL_law 708 = some (.iadd) := by decide +kernel
theorem dL_law_709 : fet cL_law 709 = some (.iaload) := by decide +kernel
theorem dL_law_710 : fet cL_law 710 = some (.aload_n 0) := by decide +kernel
theorem dL_law_711 : fet cL_law 711 = some (.iload_n 3) := by decide +kernel
theorem dL_law_712 : fet cL_law 712 = some (.iconst 3) := by decide +kernel
theorem dL_law_713 : fet cL_law 713 = some (.iadd) := by decide +kernel
theorem dL_law_714 : fet cL_law 714 = some (.iaload) := by decide +kernel
theorem dL_law_715 : fet cL_law 715 = some (.aload_n 0) := by decide +kernel
theorem dL_law_716 : fet cL_law 716 = some (.iload_n 3) := by decide +kernel
theorem dL_law_717 : fet cL_law 717 = some (.iconst 4) := by decide +kernel
theorem dL_law_718 : fet cL_law 718 = some (.iadd) := by decide +kernel
theorem dL_law_719 : fet cL_law 719 = some (.iaload) := by decide +kernel
theorem dL_law_720 : fet cL_law 720 = some (.ifCond .eq 7) := by decide +kernel
theorem dL_law_723 : fet cL_law 723 = some (.iconst 1) := by decide +kernel
theorem dL_law_724 : fet cL_law 724 = some (.goto 4) := by decide +kernel
theorem dL_law_727 : fet cL_law 727 = some (.iconst 0) := by decide +kernel
theorem dL_law_728 : fet cL_law 728 = some (.invokevirtual 94) := by decide +kernel
theorem dL_law_731 : fet cL_law 731 = some (.aload_n 2) := by decide +kernel
theorem dL_law_732 : fet cL_law 732 = some (.aload_n 0) := by decide +kernel
theorem dL_law_733 : fet cL_law 733 = some (.iload_n 3) := by decide +kernel
theorem dL_law_734 : fet cL_law 734 = some (.iconst 1) := by decide +kernel
theorem dL_law_735 : fet cL_law 735 = some (.iadd) := by decide +kernel
theorem dL_law_736 : fet cL_law 736 = some (.iaload) := by decide +kernel
theorem dL_law_737 : fet cL_law 737 = some (.aload_n 0) := by decide +kernel
theorem dL_law_738 : fet cL_law 738 = some (.iload_n 3) := by decide +kernel
theorem dL_law_739 : fet cL_law 739 = some (.iconst 2) := by decide +kernel
theorem dL_law_740 : fet cL_law 740 = some (.iadd) := by decide +kernel
theorem dL_law_741 : fet cL_law 741 = some (.iaload) := by decide +kernel
theorem dL_law_742 : fet cL_law 742 = some (.aload_n 0) := by decide +kernel
theorem dL_law_743 : fet cL_law 743 = some (.iload_n 3) := by decide +kernel
theorem dL_law_744 : fet cL_law 744 = some (.iconst 3) := by decide +kernel
theorem dL_law_745 : fet cL_law 745 = some (.iadd) := by decide +kernel
theorem dL_law_746 : fet cL_law 746 = some (.iaload) := by decide +kernel
theorem dL_law_747 : fet cL_law 747 = some (.aload_n 0) := by decide +kernel
theorem dL_law_748 : fet cL_law 748 = some (.iload_n 3) := by decide +kernel
theorem dL_law_749 : fet cL_law 749 = some (.iconst 4) := by decide +kernel
theorem dL_law_750 : fet cL_law 750 = some (.iadd) := by decide +kernel
theorem dL_law_751 : fet cL_law 751 = some (.iaload) := by decide +kernel
theorem dL_law_752 : fet cL_law 752 = some (.ifCond .eq 7) := by decide +kernel
theorem dL_law_755 : fet cL_law 755 = some (.iconst 1) := by decide +kernel
theorem dL_law_756 : fet cL_law 756 = some (.goto 4) := by decide +kernel
theorem dL_law_759 : fet cL_law 759 = some (.iconst 0) := by decide +kernel
theorem dL_law_760 : fet cL_law 760 = some (.invokevirtual 98) := by decide +kernel
theorem dL_law_763 : fet cL_law 763 = some (.if_icmp .eq 196) := by decide +kernel
theorem dL_law_766 : fet cL_law 766 = some (.iconst 0) := by decide +kernel
theorem dL_law_767 : fet cL_law 767 = some (.ireturn) := by decide +kernel
theorem dL_law_768 : fet cL_law 768 = some (.aload_n 1) := by decide +kernel
theorem dL_law_769 : fet cL_law 769 = some (.invokevirtual 99) := by decide +kernel
theorem dL_law_772 : fet cL_law 772 = some (.aload_n 2) := by decide +kernel
theorem dL_law_773 : fet cL_law 773 = some (.invokevirtual 102) := by decide +kernel
theorem dL_law_776 : fet cL_law 776 = some (.if_icmp .eq 183) := by decide +kernel
theorem dL_law_779 : fet cL_law 779 = some (.iconst 0) := by decide +kernel
theorem dL_law_780 : fet cL_law 780 = some (.ireturn) := by decide +kernel
theorem dL_law_781 : fet cL_law 781 = some (.aload_n 1) := by decide +kernel
theorem dL_law_782 : fet cL_law 782 = some (.aload_n 0) := by decide +kernel
theorem dL_law_783 : fet cL_law 783 = some (.iload_n 3) := by decide +kernel
theorem dL_law_784 : fet cL_law 784 = some (.iconst 1) := by decide +kernel
theorem dL_law_785 : fet cL_law 785 = some (.iadd) := by decide +kernel
theorem dL_law_786 : fet cL_law 786 = some (.iaload) := by decide +kernel
theorem dL_law_787 : fet cL_law 787 = some (.aload_n 0) := by decide +kernel
theorem dL_law_788 : fet cL_law 788 = some (.iload_n 3) := by decide +kernel
theorem dL_law_789 : fet cL_law 789 = some (.iconst 2) := by decide +kernel
theorem dL_law_790 : fet cL_law 790 = some (.iadd) := by decide +kernel
theorem dL_law_791 : fet cL_law 791 = some (.iaload) := by decide +kernel
theorem dL_law_792 : fet cL_law 792 = some (.aload_n 0) := by decide +kernel
theorem dL_law_793 : fet cL_law 793 = some (.iload_n 3) := by decide +kernel
theorem dL_law_794 : fet cL_law 794 = some (.iconst 3) := by decide +kernel
theorem dL_law_795 : fet cL_law 795 = some (.iadd) := by decide +kernel
theorem dL_law_796 : fet cL_law 796 = some (.iaload) := by decide +kernel
theorem dL_law_797 : fet cL_law 797 = some (.invokevirtual 103) := by decide +kernel
theorem dL_law_800 : fet cL_law 800 = some (.aload_n 2) := by decide +kernel
theorem dL_law_801 : fet cL_law 801 = some (.aload_n 0) := by decide +kernel
theorem dL_law_802 : fet cL_law 802 = some (.iload_n 3) := by decide +kernel
theorem dL_law_803 : fet cL_law 803 = some (.iconst 1) := by decide +kernel
theorem dL_law_804 : fet cL_law 804 = some (.iadd) := by decide +kernel
theorem dL_law_805 : fet cL_law 805 = some (.iaload) := by decide +kernel
theorem dL_law_806 : fet cL_law 806 = some (.aload_n 0) := by decide +kernel
theorem dL_law_807 : fet cL_law 807 = some (.iload_n 3) := by decide +kernel
theorem dL_law_808 : fet cL_law 808 = some (.iconst 2) := by decide +kernel
theorem dL_law_809 : fet cL_law 809 = some (.iadd) := by decide +kernel
theorem dL_law_810 : fet cL_law 810 = some (.iaload) := by decide +kernel
theorem dL_law_811 : fet cL_law 811 = some (.aload_n 0) := by decide +kernel
theorem dL_law_812 : fet cL_law 812 = some (.iload_n 3) := by decide +kernel
theorem dL_law_813 : fet cL_law 813 = some (.iconst 3) := by decide +kernel
theorem dL_law_814 : fet cL_law 814 = some (.iadd) := by decide +kernel
theorem dL_law_815 : fet cL_law 815 = some (.iaload) := by decide +kernel
theorem dL_law_816 : fet cL_law 816 = some (.invokevirtual 107) := by decide +kernel
theorem dL_law_819 : fet cL_law 819 = some (.if_icmp .eq 140) := by decide +kernel
theorem dL_law_822 : fet cL_law 822 = some (.iconst 0) := by decide +kernel
theorem dL_law_823 : fet cL_law 823 = some (.ireturn) := by decide +kernel
theorem dL_law_824 : fet cL_law 824 = some (.aload_n 1) := by decide +kernel
theorem dL_law_825 : fet cL_law 825 = some (.aload_n 0) := by decide +kernel
theorem dL_law_826 : fet cL_law 826 = some (.iload_n 3) := by decide +kernel
theorem dL_law_827 : fet cL_law 827 = some (.iconst 1) := by decide +kernel
theorem dL_law_828 : fet cL_law 828 = some (.iadd) := by decide +kernel
theorem dL_law_829 : fet cL_law 829 = some (.iaload) := by decide +kernel
theorem dL_law_830 : fet cL_law 830 = some (.aload_n 0) := by decide +kernel
theorem dL_law_831 : fet cL_law 831 = some (.iload_n 3) := by decide +kernel
theorem dL_law_832 : fet cL_law 832 = some (.iconst 2) := by decide +kernel
theorem dL_law_833 : fet cL_law 833 = some (.iadd) := by decide +kernel
theorem dL_law_834 : fet cL_law 834 = some (.iaload) := by decide +kernel
theorem dL_law_835 : fet cL_law 835 = some (.aload_n 0) := by decide +kernel
theorem dL_law_836 : fet cL_law 836 = some (.iload_n 3) := by decide +kernel
theorem dL_law_837 : fet cL_law 837 = some (.iconst 3) := by decide +kernel
theorem dL_law_838 : fet cL_law 838 = some (.iadd) := by decide +kernel
theorem dL_law_839 : fet cL_law 839 = some (.iaload) := by decide +kernel
theorem dL_law_840 : fet cL_law 840 = some (.invokevirtual 108) := by decide +kernel
theorem dL_law_843 : fet cL_law 843 = some (.aload_n 2) := by decide +kernel
theorem dL_law_844 : fet cL_law 844 = some (.aload_n 0) := by decide +kernel
theorem dL_law_845 : fet cL_law 845 = some (.iload_n 3) := by decide +kernel
theorem dL_law_846 : fet cL_law 846 = some (.iconst 1) := by decide +kernel
theorem dL_law_847 : fet cL_law 847 = some (.iadd) := by decide +kernel
theorem dL_law_848 : fet cL_law 848 = some (.iaload) := by decide +kernel
theorem dL_law_849 : fet cL_law 849 = some (.aload_n 0) := by decide +kernel
theorem dL_law_850 : fet cL_law 850 = some (.iload_n 3) := by decide +kernel
theorem dL_law_851 : fet cL_law 851 = some (.iconst 2) := by decide +kernel
theorem dL_law_852 : fet cL_law 852 = some (.iadd) := by decide +kernel
theorem dL_law_853 : fet cL_law 853 = some (.iaload) := by decide +kernel
theorem dL_law_854 : fet cL_law 854 = some (.aload_n 0) := by decide +kernel
theorem dL_law_855 : fet cL_law 855 = some (.iload_n 3) := by decide +kernel
theorem dL_law_856 : fet cL_law 856 = some (.iconst 3) := by decide +kernel
theorem dL_law_857 : fet cL_law 857 = some (.iadd) := by decide +kernel
theorem dL_law_858 : fet cL_law 858 = some (.iaload) := by decide +kernel
theorem dL_law_859 : fet cL_law 859 = some (.invokevirtual 111) := by decide +kernel
theorem dL_law_862 : fet cL_law 862 = some (.if_icmp .eq 97) := by decide +kernel
theorem dL_law_865 : fet cL_law 865 = some (.iconst 0) := by decide +kernel
theorem dL_law_866 : fet cL_law 866 = some (.ireturn) := by decide +kernel
theorem dL_law_867 : fet cL_law 867 = some (.aload_n 1) := by decide +kernel
theorem dL_law_868 : fet cL_law 868 = some (.aload_n 0) := by decide +kernel
theorem dL_law_869 : fet cL_law 869 = some (.iload_n 3) := by decide +kernel
theorem dL_law_870 : fet cL_law 870 = some (.iconst 1) := by decide +kernel
theorem dL_law_871 : fet cL_law 871 = some (.iadd) := by decide +kernel
theorem dL_law_872 : fet cL_law 872 = some (.iaload) := by decide +kernel
theorem dL_law_873 : fet cL_law 873 = some (.aload_n 0) := by decide +kernel
theorem dL_law_874 : fet cL_law 874 = some (.iload_n 3) := by decide +kernel
theorem dL_law_875 : fet cL_law 875 = some (.iconst 2) := by decide +kernel
theorem dL_law_876 : fet cL_law 876 = some (.iadd) := by decide +kernel
theorem dL_law_877 : fet cL_law 877 = some (.iaload) := by decide +kernel
theorem dL_law_878 : fet cL_law 878 = some (.aload_n 0) := by decide +kernel
theorem dL_law_879 : fet cL_law 879 = some (.iload_n 3) := by decide +kernel
theorem dL_law_880 : fet cL_law 880 = some (.iconst 3) := by decide +kernel
theorem dL_law_881 : fet cL_law 881 = some (.iadd) := by decide +kernel
theorem dL_law_882 : fet cL_law 882 = some (.iaload) := by decide +kernel
theorem dL_law_883 : fet cL_law 883 = some (.invokevirtual 112) := by decide +kernel
theorem dL_law_886 : fet cL_law 886 = some (.aload_n 2) := by decide +kernel
theorem dL_law_887 : fet cL_law 887 = some (.aload_n 0) := by decide +kernel
theorem dL_law_888 : fet cL_law 888 = some (.iload_n 3) := by decide +kernel
theorem dL_law_889 : fet cL_law 889 = some (.iconst 1) := by decide +kernel
theorem dL_law_890 : fet cL_law 890 = some (.iadd) := by decide +kernel
theorem dL_law_891 : fet cL_law 891 = some (.iaload) := by decide +kernel
theorem dL_law_892 : fet cL_law 892 = some (.aload_n 0) := by decide +kernel
theorem dL_law_893 : fet cL_law 893 = some (.iload_n 3) := by decide +kernel
theorem dL_law_894 : fet cL_law 894 = some (.iconst 2) := by decide +kernel
theorem dL_law_895 : fet cL_law 895 = some (.iadd) := by decide +kernel
theorem dL_law_896 : fet cL_law 896 = some (.iaload) := by decide +kernel
theorem dL_law_897 : fet cL_law 897 = some (.aload_n 0) := by decide +kernel
theorem dL_law_898 : fet cL_law 898 = some (.iload_n 3) := by decide +kernel
theorem dL_law_899 : fet cL_law 899 = some (.iconst 3) := by decide +kernel
theorem dL_law_900 : fet cL_law 900 = some (.iadd) := by decide +kernel
theorem dL_law_901 : fet cL_law 901 = some (.iaload) := by decide +kernel
theorem dL_law_902 : fet cL_law 902 = some (.invokevirtual 115) := by decide +kernel
theorem dL_law_905 : fet cL_law 905 = some (.if_icmp .eq 54) := by decide +kernel
theorem dL_law_908 : fet cL_law 908 = some (.iconst 0) := by decide +kernel
theorem dL_law_909 : fet cL_law 909 = some (.ireturn) := by decide +kernel
theorem dL_law_910 : fet cL_law 910 = some (.aload_n 1) := by decide +kernel
theorem dL_law_911 : fet cL_law 911 = some (.invokevirtual 116) := by decide +kernel
theorem dL_law_914 : fet cL_law 914 = some (.aload_n 2) := by decide +kernel
theorem dL_law_915 : fet cL_law 915 = some (.invokevirtual 119) := by decide +kernel
theorem dL_law_918 : fet cL_law 918 = some (.if_icmp .eq 41) := by decide +kernel
theorem dL_law_921 : fet cL_law 921 = some (.iconst 0) := by decide +kernel
theorem dL_law_922 : fet cL_law 922 = some (.ireturn) := by decide +kernel
theorem dL_law_923 : fet cL_law 923 = some (.aload_n 1) := by decide +kernel
theorem dL_law_924 : fet cL_law 924 = some (.invokevirtual 120) := by decide +kernel
theorem dL_law_927 : fet cL_law 927 = some (.aload_n 2) := by decide +kernel
theorem dL_law_928 : fet cL_law 928 = some (.invokevirtual 123) := by decide +kernel
theorem dL_law_931 : fet cL_law 931 = some (.if_icmp .eq 28) := by decide +kernel
theorem dL_law_934 : fet cL_law 934 = some (.iconst 0) := by decide +kernel
theorem dL_law_935 : fet cL_law 935 = some (.ireturn) := by decide +kernel
theorem dL_law_936 : fet cL_law 936 = some (.aload_n 1) := by decide +kernel
theorem dL_law_937 : fet cL_law 937 = some (.aload_n 0) := by decide +kernel
theorem dL_law_938 : fet cL_law 938 = some (.iload_n 3) := by decide +kernel
theorem dL_law_939 : fet cL_law 939 = some (.iconst 1) := by decide +kernel
theorem dL_law_940 : fet cL_law 940 = some (.iadd) := by decide +kernel
theorem dL_law_941 : fet cL_law 941 = some (.iaload) := by decide +kernel
theorem dL_law_942 : fet cL_law 942 = some (.invokevirtual 124) := by decide +kernel
theorem dL_law_945 : fet cL_law 945 = some (.aload_n 2) := by decide +kernel
theorem dL_law_946 : fet cL_law 946 = some (.aload_n 0) := by decide +kernel
theorem dL_law_947 : fet cL_law 947 = some (.iload_n 3) := by decide +kernel
theorem dL_law_948 : fet cL_law 948 = some (.iconst 1) := by decide +kernel
theorem dL_law_949 : fet cL_law 949 = some (.iadd) := by decide +kernel
theorem dL_law_950 : fet cL_law 950 = some (.iaload) := by decide +kernel
theorem dL_law_951 : fet cL_law 951 = some (.invokevirtual 127) := by decide +kernel
theorem dL_law_954 : fet cL_law 954 = some (.if_icmp .eq 5) := by decide +kernel
theorem dL_law_957 : fet cL_law 957 = some (.iconst 0) := by decide +kernel
theorem dL_law_958 : fet cL_law 958 = some (.ireturn) := by decide +kernel
theorem dL_law_959 : fet cL_law 959 = some (.iinc 3 5) := by decide +kernel
theorem dL_law_962 : fet cL_law 962 = some (.goto (-944)) := by decide +kernel
theorem dL_law_965 : fet cL_law 965 = some (.iconst 1) := by decide +kernel
theorem dL_law_966 : fet cL_law 966 = some (.ireturn) := by decide +kernel
