theorem dL_law_172 : decode cL_law 172 = .ok (.aload_n 1, 1) := by decide +kernel
theorem dL_law_173 : decode cL_law 173 = .ok (.aload_n 0, 1) := by decide +kernel
theorem dL_law_174 : decode cL_law 174 = .ok (.iload_n 3, 1) := by decide +kernel
theorem dL_law_175 : decode cL_law 175 = .ok (.iconst 1, 1) := by decide +kernel
theorem dL_law_176 : decode cL_law 176 = .ok (.iadd, 1) := by decide +kernel
theorem dL_law_177 : decode cL_law 177 = .ok (.iaload, 1) := by decide +kernel
theorem dL_law_178 : decode cL_law 178 = .ok (.aload_n 0, 1) := by decide +kernel
theorem dL_law_179 : decode cL_law 179 = .ok (.iload_n 3, 1) := by decide +kernel
theorem dL_law_180 : decode cL_law 180 = .ok (.iconst 2, 1) := by decide +kernel
theorem dL_law_181 : decode cL_law 181 = .ok (.iadd, 1) := by decide +kernel
theorem dL_law_182 : decode cL_law 182 = .ok (.iaload, 1) := by decide +kernel
theorem dL_law_183 : decode cL_law 183 = .ok (.aload_n 0, 1) := by decide +kernel
theorem dL_law_184 : decode cL_law 184 = .ok (.iload_n 3, 1) := by decide +kernel
theorem dL_law_185 : decode cL_law 185 = .ok (.iconst 3, 1) := by decide +kernel
theorem dL_law_186 : decode cL_law 186 = .ok (.iadd, 1) := by decide +kernel
theorem dL_law_187 : decode cL_law 187 = .ok (.iaload, 1) := by decide +kernel
theorem dL_law_188 : decode cL_law 188 = .ok (.aload_n 0, 1) := by decide +kernel
theorem dL_law_189 : decode cL_law 189 = .ok (.iload_n 3, 1) := by decide +kernel
theorem dL_law_190 : decode cL_law 190 = .ok (.iconst 4, 1) := by decide +kernel
theorem dL_law_191 : decode cL_law 191 = .ok (.iadd, 1) := by decide +kernel
theorem dL_law_192 : decode cL_law 192 = .ok (.iaload, 1) := by decide +kernel
theorem dL_law_193 : decode cL_law 193 = .ok (.aload_n 0, 1) := by decide +kernel
theorem dL_law_194 : decode cL_law 194 = .ok (.iload_n 3, 1) := by decide +kernel
theorem dL_law_195 : decode cL_law 195 = .ok (.iconst 5, 1) := by decide +kernel
theorem dL_law_196 : decode cL_law 196 = .ok (.iadd, 1) := by decide +kernel
theorem dL_law_197 : decode cL_law 197 = .ok (.iaload, 1) := by decide +kernel
theorem dL_law_198 : decode cL_law 198 = .ok (.invokevirtual 13, 3) := by decide +kernel
theorem dL_law_201 : decode cL_law 201 = .ok (.pop, 1) := by decide +kernel
theorem dL_law_202 : decode cL_law 202 = .ok (.aload_n 2, 1) := by decide +kernel
theorem dL_law_203 : decode cL_law 203 = .ok (.aload_n 0, 1) := by decide +kernel
theorem dL_law_204 : decode cL_law 204 = .ok (.iload_n 3, 1) := by decide +kernel
theorem dL_law_205 : decode cL_law 205 = .ok (.iconst 1, 1) := by decide +kernel
theorem dL_law_206 : decode cL_law 206 = .ok (.iadd, 1) := by decide +kernel
theorem dL_law_207 : decode cL_law 207 = .ok (.iaload, 1) := by decide +kernel
theorem dL_law_208 : decode cL_law 208 = .ok (.aload_n 0, 1) := by decide +kernel
theorem dL_law_209 : decode cL_law 209 = .ok (.iload_n 3, 1) := by decide +kernel
theorem dL_law_210 : decode cL_law 210 = .ok (.iconst 2, 1) := by decide +kernel
theorem dL_law_211 : decode cL_law 211 = .ok (.iadd, 1) := by decide +kernel
theorem dL_law_212 : decode cL_law 212 = .ok (.iaload, 1) := by decide +kernel
theorem dL_law_213 : decode cL_law 213 = .ok (.aload_n 0, 1) := by decide +kernel
theorem dL_law_214 : decode cL_law 214 = .ok (.iload_n 3, 1) := by decide +kernel
theorem dL_law_215 : decode cL_law 215 = .ok (.iconst 3, 1) := by decide +kernel
theorem dL_law_216 : decode cL_law 216 = .ok (.iadd, 1) := by decide +kernel
theorem dL_law_217 : decode cL_law 217 = .ok (.iaload, 1) := by decide +kernel
theorem dL_law_218 : decode cL_law 218 = .ok (.aload_n 0, 1) := by decide +kernel
theorem dL_law_219 : decode cL_law 219 = .ok (.iload_n 3, 1) := by decide +kernel
theorem dL_law_220 : decode cL_law 220 = .ok (.iconst 4, 1) := by decide +kernel
theorem dL_law_221 : decode cL_law 221 = .ok (.iadd, 1) := by decide +kernel
theorem dL_law_222 : decode cL_law 222 = .ok (.iaload, 1) := by decide +kernel
theorem dL_law_223 : decode cL_law 223 = .ok (.aload_n 0, 1) := by decide +kernel
theorem dL_law_224 : decode cL_law 224 = .ok (.iload_n 3, 1) := by decide +kernel
theorem dL_law_225 : decode cL_law 225 = .ok (.iconst 5, 1) := by decide +kernel
theorem dL_law_226 : decode cL_law 226 = .ok (.iadd, 1) := by decide +kernel
theorem dL_law_227 : decode cL_law 227 = .ok (.iaload, 1) := by decide +kernel
theorem dL_law_228 : decode cL_law 228 = .ok (.invokevirtual 17, 3) := by decide +kernel
theorem dL_law_231 : decode cL_law 231 = .ok (.pop, 1) := by decide +kernel
theorem dL_law_232 : decode cL_law 232 = .ok (.goto 1041, 3) := by decide +kernel
theorem dL_law_235 : decode cL_law 235 = .ok (.aload_n 1, 1) := by decide +kernel
theorem dL_law_236 : decode cL_law 236 = .ok (.aload_n 0, 1) := by decide +kernel
theorem dL_law_237 : decode cL_law 237 = .ok (.iload_n 3, 1) := by decide +kernel
theorem dL_law_238 : decode cL_law 238 = .ok (.iconst 1, 1) := by decide +kernel
theorem dL_law_239 : decode cL_law 239 = .ok (.iadd, 1) := by decide +kernel
theorem dL_law_240 : decode cL_law 240 = .ok (.iaload, 1) := by decide +kernel
theorem dL_law_241 : decode cL_law 241 = .ok (.invokevirtual 18, 3) := by decide +kernel
theorem dL_law_244 : decode cL_law 244 = .ok (.pop, 1) := by decide +kernel
theorem dL_law_245 : decode cL_law 245 = .ok (.aload_n 2, 1) := by decide +kernel
theorem dL_law_246 : decode cL_law 246 = .ok (.aload_n 0, 1) := by decide +kernel
theorem dL_law_247 : decode cL_law 247 = .ok (.iload_n 3, 1) := by decide +kernel
theorem dL_law_248 : decode cL_law 248 = .ok (.iconst 1, 1) := by decide +kernel
theorem dL_law_249 : decode cL_law 249 = .ok (.iadd, 1) := by decide +kernel
theorem dL_law_250 : decode cL_law 250 = .ok (.iaload, 1) := by decide +kernel
theorem dL_law_251 : decode cL_law 251 = .ok (.invokevirtual 22, 3) := by decide +kernel
theorem dL_law_254 : decode cL_law 254 = .ok (.pop, 1) := by decide +kernel
theorem dL_law_255 : decode cL_law 255 = .ok (.goto 1018, 3) := by decide +kernel
theorem dL_law_258 : decode cL_law 258 = .ok (.aload_n 1, 1) := by decide +kernel
theorem dL_law_259 : decode cL_law 259 = .ok (.invokevirtual 23, 3) := by decide +kernel
theorem dL_law_262 : decode cL_law 262 = .ok (.pop, 1) := by decide +kernel
theorem dL_law_263 : decode cL_law 263 = .ok (.aload_n 2, 1) := by decide +kernel
theorem dL_law_264 : decode cL_law 264 = .ok (.invokevirtual 27, 3) := by decide +kernel
theorem dL_law_267 : decode cL_law 267 = .ok (.pop, 1) := by decide +kernel
theorem dL_law_268 : decode cL_law 268 = .ok (.goto 1005, 3) := by decide +kernel
theorem dL_law_271 : decode cL_law 271 = .ok (.aload_n 1, 1) := by decide +kernel
theorem dL_law_272 : decode cL_law 272 = .ok (.aload_n 0, 1) := by decide +kernel
theorem dL_law_273 : decode cL_law 273 = .ok (.iload_n 3, 1) := by decide +kernel
theorem dL_law_274 : decode cL_law 274 = .ok (.iconst 1, 1) := by decide +kernel
theorem dL_law_275 : decode cL_law 275 = .ok (.iadd, 1) := by decide +kernel
theorem dL_law_276 : decode cL_law 276 = .ok (.iaload, 1) := by decide +kernel
theorem dL_law_277 : decode cL_law 277 = .ok (.invokevirtual 28, 3) := by decide +kernel
theorem dL_law_280 : decode cL_law 280 = .ok (.pop, 1) := by decide +kernel
theorem dL_law_281 : decode cL_law 281 = .ok (.aload_n 2, 1) := by decide +kernel
theorem dL_law_282 : decode cL_law 282 = .ok (.aload_n 0, 1) := by decide +kernel
theorem dL_law_283 : decode cL_law 283 = .ok (.iload_n 3, 1) := by decide +kernel
theorem dL_law_284 : decode cL_law 284 = .ok (.iconst 1, 1) := by decide +kernel
theorem dL_law_285 : decode cL_law 285 = .ok (.iadd, 1) := by decide +kernel
theorem dL_law_286 : decode cL_law 286 = .ok (.iaload, 1) := by decide +kernel
theorem dL_law_287 : decode cL_law 287 = .ok (.invokevirtual 31, 3) := by decide +kernel
theorem dL_law_290 : decode cL_law 290 = .ok (.pop, 1) := by decide +kernel
theorem dL_law_291 : decode cL_law 291 = .ok (.goto 982, 3) := by decide +kernel
theorem dL_law_294 : decode cL_law 294 = .ok (.aload_n 1, 1) := by decide +kernel
theorem dL_law_295 : decode cL_law 295 = .ok (.aload_n 0, 1) := by decide +kernel
theorem dL_law_296 : decode cL_law 296 = .ok (.iload_n 3, 1) := by decide +kernel
theorem dL_law_297 : decode cL_law 297 = .ok (.iconst 1, 1) := by decide +kernel
theorem dL_law_298 : decode cL_law 298 = .ok (.iadd, 1) := by decide +kernel
theorem dL_law_299 : decode cL_law 299 = .ok (.iaload, 1) := by decide +kernel
theorem dL_law_300 : decode cL_law 300 = .ok (.aload_n 0, 1) := by decide +kernel
theorem dL_law_301 : decode cL_law 301 = .ok (.iload_n 3, 1) := by decide +kernel
theorem dL_law_302 : decode cL_law 302 = .ok (.iconst 2, 1) := by decide +kernel
theorem dL_law_303 : decode cL_law 303 = .ok (.iadd, 1) := by decide +kernel
theorem dL_law_304 : decode cL_law 304 = .ok (.iaload, 1) := by decide +kernel
theorem dL_law_305 : decode cL_law 305 = .ok (.ifCond .eq 7, 3) := by decide +kernel
theorem dL_law_312 : decode cL_law 312 = .ok (.iconst 0, 1) := by decide +kernel
theorem dL_law_313 : decode cL_law 313 = .ok (.invokevirtual 32, 3) := by decide +kernel
theorem dL_law_316 : decode cL_law 316 = .ok (.pop, 1) := by decide +kernel
theorem dL_law_317 : decode cL_law 317 = .ok (.aload_n 2, 1) := by decide +kernel
theorem dL_law_318 : decode cL_law 318 = .ok (.aload_n 0, 1) := by decide +kernel
theorem dL_law_319 : decode cL_law 319 = .ok (.iload_n 3, 1) := by decide +kernel
theorem dL_law_320 : decode cL_law 320 = .ok (.iconst 1, 1) := by decide +kernel
theorem dL_law_321 : decode cL_law 321 = .ok (.iadd, 1) := by decide +kernel
theorem dL_law_322 : decode cL_law 322 = .ok (.iaload, 1) := by decide +kernel
theorem dL_law_323 : decode cL_law 323 = .ok (.aload_n 0, 1) := by decide +kernel
theorem dL_law_324 : decode cL_law 324 = .ok (.iload_n 3, 1) := by decide +kernel
theorem dL_law_325 : decode cL_law 325 = .ok (.iconst 2, 1) := by decide +kernel
theorem dL_law_326 : decode cL_law 326 = .ok (.iadd, 1) := by decide +kernel
theorem dL_law_327 : decode cL_law 327 = .ok (.iaload, 1) := by decide +kernel
theorem dL_law_328 : decode cL_law 328 = .ok (.ifCond .eq 7, 3) := by decide +kernel
theorem dL_law_335 : decode cL_law 335 = .ok (.iconst 0, 1) := by decide +kernel
theorem dL_law_336 : decode cL_law 336 = .ok (.invokevirtual 36, 3) := by decide +kernel
theorem dL_law_339 : decode cL_law 339 = .ok (.pop, 1) := by decide +kernel
theorem dL_law_340 : decode cL_law 340 = .ok (.goto 933, 3) := by decide +kernel
theorem dL_law_331 : decode cL_law 331 = .ok (.iconst 1, 1) := by decide +kernel
theorem dL_law_332 : decode cL_law 332 = .ok (.goto 4, 3) := by decide +kernel
theorem dL_law_308 : decode cL_law 308 = .ok (.iconst 1, 1) := by decide +kernel
theorem dL_law_309 : decode cL_law 309 = .ok (.goto 4, 3) := by decide +kernel
theorem dL_law_343 : decode cL_law 343 = .ok (.aload_n 1, 1) := by decide +kernel
theorem dL_law_344 : decode cL_law 344 = .ok (.aload_n 0, 1) := by decide +kernel
theorem dL_law_345 : decode cL_law 345 = .ok (.iload_n 3, 1) := by decide +kernel
theorem dL_law_346 : decode cL_law 346 = .ok (.iconst 1, 1) := by decide +kernel
theorem dL_law_347 : decode cL_law 347 = .ok (.iadd, 1) := by decide +kernel
theorem dL_law_348 : decode cL_law 348 = .ok (.iaload, 1) := by decide +kernel
theorem dL_law_349 : decode cL_law 349 = .ok (.ifCond .eq 7, 3) := by decide +kernel
theorem dL_law_356 : decode cL_law 356 = .ok (.iconst 0, 1) := by decide +kernel
theorem dL_law_357 : decode cL_law 357 = .ok (.invokevirtual 37, 3) := by decide +kernel
theorem dL_law_360 : decode cL_law 360 = .ok (.pop, 1) := by decide +kernel
theorem dL_law_361 : decode cL_law 361 = .ok (.aload_n 2, 1) := by decide +kernel
theorem dL_law_362 : decode cL_law 362 = .ok (.aload_n 0, 1) := by decide +kernel
theorem dL_law_363 : decode cL_law 363 = .ok (.iload_n 3, 1) := by decide +kernel
theorem dL_law_364 : decode cL_law 364 = .ok (.iconst 1, 1) := by decide +kernel
theorem dL_law_365 : decode cL_law 365 = .ok (.iadd, 1) := by decide +kernel
theorem dL_law_366 : decode cL_law 366 = .ok (.iaload, 1) := by decide +kernel
theorem dL_law_367 : decode cL_law 367 = .ok (.ifCond .eq 7, 3) := by decide +kernel
theorem dL_law_374 : decode cL_law 374 = .ok (.iconst 0, 1) := by decide +kernel
theorem dL_law_375 : decode cL_law 375 = .ok (.invokevirtual 41, 3) := by decide +kernel
theorem dL_law_378 : decode cL_law 378 = .ok (.pop, 1) := by decide +kernel
theorem dL_law_379 : decode cL_law 379 = .ok (.goto 894, 3) := by decide +kernel
theorem dL_law_370 : decode cL_law 370 = .ok (.iconst 1, 1) := by decide +kernel
theorem dL_law_371 : decode cL_law 371 = .ok (.goto 4, 3) := by decide +kernel
theorem dL_law_352 : decode cL_law 352 = .ok (.iconst 1, 1) := by decide +kernel
theorem dL_law_353 : decode cL_law 353 = .ok (.goto 4, 3) := by decide +kernel
theorem dL_law_382 : decode cL_law 382 = .ok (.aload_n 1, 1) := by decide +kernel
theorem dL_law_383 : decode cL_law 383 = .ok (.aload_n 0, 1) := by decide +kernel
theorem dL_law_384 : decode cL_law 384 = .ok (.iload_n 3, 1) := by decide +kernel
theorem dL_law_385 : decode cL_law 385 = .ok (.iconst 1, 1) := by decide +kernel
theorem dL_law_386 : decode cL_law 386 = .ok (.iadd, 1) := by decide +kernel
theorem dL_law_387 : decode cL_law 387 = .ok (.iaload, 1) := by decide +kernel
theorem dL_law_388 : decode cL_law 388 = .ok (.aload_n 0, 1) := by decide +kernel
theorem dL_law_389 : decode cL_law 389 = .ok (.iload_n 3, 1) := by decide +kernel
theorem dL_law_390 : decode cL_law 390 = .ok (.iconst 2, 1) := by decide +kernel
theorem dL_law_391 : decode cL_law 391 = .ok (.iadd, 1) := by decide +kernel
theorem dL_law_392 : decode cL_law 392 = .ok (.iaload, 1) := by decide +kernel
theorem dL_law_393 : decode cL_law 393 = .ok (.aload_n 0, 1) := by decide +kernel
theorem dL_law_394 : decode cL_law 394 = .ok (.iload_n 3, 1) := by decide +kernel
theorem dL_law_395 : decode cL_law 395 = .ok (.iconst 3, 1) := by decide +kernel
theorem dL_law_396 : decode cL_law 396 = .ok (.iadd, 1) := by decide +kernel
theorem dL_law_397 : decode cL_law 397 = .ok (.iaload, 1) := by decide +kernel
theorem dL_law_398 : decode cL_law 398 = .ok (.aload_n 0, 1) := by decide +kernel
theorem dL_law_399 : decode cL_law 399 = .ok (.iload_n 3, 1) := by decide +kernel
theorem dL_law_400 : decode cL_law 400 = .ok (.iconst 4, 1) := by decide +kernel
theorem dL_law_401 : decode cL_law 401 = .ok (.iadd, 1) := by decide +kernel
theorem dL_law_402 : decode cL_law 402 = .ok (.iaload, 1) := by decide +kernel
theorem dL_law_403 : decode cL_law 403 = .ok (.invokevirtual 42, 3) := by decide +kernel
theorem dL_law_406 : decode cL_law 406 = .ok (.pop, 1) := by decide +kernel
theorem dL_law_407 : decode cL_law 407 = .ok (.aload_n 2, 1) := by decide +kernel
theorem dL_law_408 : decode cL_law 408 = .ok (.aload_n 0, 1) := by decide +kernel
theorem dL_law_409 : decode cL_law 409 = .ok (.iload_n 3, 1) := by decide +kernel
theorem dL_law_410 : decode cL_law 410 = .ok (.iconst 1, 1) := by decide +kernel
theorem dL_law_411 : decode cL_law 411 = .ok (.iadd, 1) := by decide +kernel
theorem dL_law_412 : decode cL_law 412 = .ok (.iaload, 1) := by decide +kernel
theorem dL_law_413 : decode cL_law 413 = .ok (.aload_n 0, 1) := by decide +kernel
theorem dL_law_414 : decode cL_law 414 = .ok (.iload_n 3, 1) := by decide +kernel
theorem dL_law_415 : decode cL_law 415 = .ok (.iconst 2, 1) := by decide +kernel
theorem dL_law_416 : decode cL_law 416 = .ok (.iadd, 1) := by decide +kernel
theorem dL_law_417 : decode cL_law 417 = .ok (.iaload, 1) := by decide +kernel
theorem dL_law_418 : decode cL_law 418 = .ok (.aload_n 0, 1) := by decide +kernel
theorem dL_law_419 : decode cL_law 419 = .ok (.iload_n 3, 1) := by decide +kernel
theorem dL_law_420 : decode cL_law 420 = .ok (.iconst 3, 1) := by decide +kernel
theorem dL_law_421 : decode cL_law 421 = .ok (.iadd, 1) := by decide +kernel
theorem dL_law_422 : decode cL_law 422 = .ok (.iaload, 1) := by decide +kernel
theorem dL_law_423 : decode cL_law 423 = .ok (.aload_n 0, 1) := by decide +kernel
theorem dL_law_424 : decode cL_law 424 = .ok (.iload_n 3, 1) := by decide +kernel
theorem dL_law_425 : decode cL_law 425 = .ok (.iconst 4, 1) := by decide +kernel
theorem dL_law_426 : decode cL_law 426 = .ok (.iadd, 1) := by decide +kernel
theorem dL_law_427 : decode cL_law 427 = .ok (.iaload, 1) := by decide +kernel
theorem dL_law_428 : decode cL_law 428 = .ok (.invokevirtual 46, 3) := by decide +kernel
theorem dL_law_431 : decode cL_law 431 = .ok (.pop, 1) := by decide +kernel
theorem dL_law_432 : decode cL_law 432 = .ok (.goto 841, 3) := by decide +kernel
theorem dL_law_435 : decode cL_law 435 = .ok (.aload_n 1, 1) := by decide +kernel
theorem dL_law_436 : decode cL_law 436 = .ok (.aload_n 0, 1) := by decide +kernel
theorem dL_law_437 : decode cL_law 437 = .ok (.iload_n 3, 1) := by decide +kernel
theorem dL_law_438 : decode cL_law 438 = .ok (.iconst 1, 1) := by decide +kernel
theorem dL_law_439 : decode cL_law 439 = .ok (.iadd, 1) := by decide +kernel
theorem dL_law_440 : decode cL_law 440 = .ok (.iaload, 1) := by decide +kernel
theorem dL_law_441 : decode cL_law 441 = .ok (.aload_n 0, 1) := by decide +kernel
theorem dL_law_442 : decode cL_law 442 = .ok (.iload_n 3, 1) := by decide +kernel
theorem dL_law_443 : decode cL_law 443 = .ok (.iconst 2, 1) := by decide +kernel
theorem dL_law_444 : decode cL_law 444 = .ok (.iadd, 1) := by decide +kernel
theorem dL_law_445 : decode cL_law 445 = .ok (.iaload, 1) := by decide +kernel
theorem dL_law_446 : decode cL_law 446 = .ok (.aload_n 0, 1) := by decide +kernel
theorem dL_law_447 : decode cL_law 447 = .ok (.iload_n 3, 1) := by decide +kernel
theorem dL_law_448 : decode cL_law 448 = .ok (.iconst 3, 1) := by decide +kernel
theorem dL_law_449 : decode cL_law 449 = .ok (.iadd, 1) := by decide +kernel
theorem dL_law_450 : decode cL_law 450 = .ok (.iaload, 1) := by decide +kernel
theorem dL_law_451 : decode cL_law 451 = .ok (.aload_n 0, 1) := by decide +kernel
theorem dL_law_452 : decode cL_law 452 = .ok (.iload_n 3, 1) := by decide +kernel
theorem dL_law_453 : decode cL_law 453 = .ok (.iconst 4, 1) := by decide +kernel
theorem dL_law_454 : decode cL_law 454 = .ok (.iadd, 1) := by decide +kernel
theorem dL_law_455 : decode cL_law 455 = .ok (.iaload, 1) := by decide +kernel
theorem dL_law_456 : decode cL_law 456 = .ok (.invokevirtual 47, 3) := by decide +kernel
theorem dL_law_459 : decode cL_law 459 = .ok (.pop, 1) := by decide +kernel
theorem dL_law_460 : decode cL_law 460 = .ok (.aload_n 2, 1) := by decide +kernel
theorem dL_law_461 : decode cL_law 461 = .ok (.aload_n 0, 1) := by decide +kernel
theorem dL_law_462 : decode cL_law 462 = .ok (.iload_n 3, 1) := by decide +kernel
theorem dL_law_463 : decode cL_law 463 = .ok (.iconst 1, 1) := by decide +kernel
theorem dL_law_464 : decode cL_law 464 = .ok (.iadd, 1) := by decide +kernel
theorem dL_law_465 : decode cL_law 465 = .ok (.iaload, 1) := by decide +kernel
theorem dL_law_466 : decode cL_law 466 = .ok (.aload_n 0, 1) := by decide +kernel
theorem dL_law_467 : decode cL_law 467 = .ok (.iload_n 3, 1) := by decide +kernel
theorem dL_law_468 : decode cL_law 468 = .ok (.iconst 2, 1) := by decide +kernel
theorem dL_law_469 : decode cL_law 469 = .ok (.iadd, 1) := by decide +kernel
theorem dL_law_470 : decode cL_law 470 = .ok (.iaload, 1) := by decide +kernel
theorem dL_law_471 : decode cL_law 471 = .ok (.aload_n 0, 1) := by decide +kernel
theorem dL_law_472 : decode cL_law 472 = .ok (.iload_n 3, 1) := by decide +kernel
theorem dL_law_473 : decode cL_law 473 = .ok (.iconst 3, 1) := by decide +kernel
theorem dL_law_474 : decode cL_law 474 = .ok (.iadd, 1) := by decide +kernel
theorem dL_law_475 : decode cL_law 475 = .ok (.iaload, 1) := by decide +kernel
theorem dL_law_476 : decode cL_law 476 = .ok (.aload_n 0, 1) := by decide +kernel
theorem dL_law_477 : decode cL_law 477 = .ok (.iload_n 3, 1) := by decide +kernel
theorem dL_law_478 : decode cL_law 478 = .ok (.iconst 4, 1) := by decide +kernel
theorem dL_law_479 : decode cL_law 479 = .ok (.iadd, 1) := by decide +kernel
theorem dL_law_480 : decode cL_law 480 = .ok (.iaload, 1) := by decide +kernel
theorem dL_law_481 : decode cL_law 481 = .ok (.invokevirtual 51, 3) := by decide +kernel
theorem dL_law_484 : decode cL_law 484 = .ok (.pop, 1) := by decide +kernel
theorem dL_law_485 : decode cL_law 485 = .ok (.goto 788, 3) := by decide +kernel
/-! THE CLAIM OUT OF ONE WALK OF THE LAW'S BODY. Your part is whole_start (and what it stands on); all else here is the same for every law, but numbers. -/
def R_law : String := "NearEnoughLaw"
def lw_P (b : Addr) (xs : List Int32) (args : Array Value) (s : State) : Prop := args = #[.ref b] ∧ s.IntsAt b xs ∧ xs.length ≤ 3072 ∧ (Jvm.Cond.and given_1 narrow_1).before args s = true
def lw_Q (_ : Array Value) (s : State) (o : Outcome) (t : State) : Prop := o = .returned (some (.int 1)) ∧ Framed s o t [] 600000 7302250
def lw_Z (below : List Frame) (a : Array Value) (s : State) : State → Prop := fun t => ∃ o, t.status = .running ∧ Ended t below o ∧ lw_Q a s o t
/-- the law's own end, with 1 on the stack, nothing written that was there before, its room as the claim has it -/
theorem lw_ret {p : Program} {l : Launch} {e : Env} {s : State} {m : MethodId} {below : List Frame} {meth : Method} {c : Code} {b : Nat} (hx : p.tables.exec = Jvm.exec) (hb : c.code = code) (hr : meth.sig.returnType = ret) (hlocks : meth.locks = false) {pc : Nat} {H : Heap} {ls : Array Slot} (hdg : decode code pc = .ok (.ireturn, 1)) : W p l e room_1 s m #[Value.ref b] below meth c H [] 600000 7302250 (lw_Z below #[Value.ref b] s) (F0 m pc ls [.int 1]) := by
  intro T hT X
  obtain ⟨fs, hret, hrun, hended, hW, hframe⟩ := X.leave (v := some (.int 1)) (hlocks := hlocks) (fun h => by rw [hr] at h; cases h)
  have hmeth' : T.vm.method? m = some meth := X.method'
  refine ⟨T.setFrames fs, ?_, .returned (some (.int 1)), hrun, hended, rfl, ⟨_, rfl⟩, hW, hframe⟩
  jvm_step X.here [X.here.top, hx, hb, hdg, hmeth', hr, ret, narrow_b1]
  (try refine ⟨rfl, ?_⟩); (try refine ⟨rfl, ?_⟩)
  first | (intro acts; rw [hret _ acts rfl rfl rfl]) | rw [hret _ _ rfl rfl rfl]
  exact Steps.refl _
/-- what holds at the law's entry: the machine, the code, the tables' words (any of lw_tbl by 'hts w (by decide +kernel)'), the script of L ints xs at the cell b, what the Statement gives of the start (any of its parts by flat_of_before) -/
def lw_At (p : Program) (s : State) (m : MethodId) (meth : Method) (c : Code) (b L : Nat) (xs : Nat → Int32) : Prop :=
  p.tables.exec = Jvm.exec ∧ c.code = code ∧ meth.sig.returnType = ret ∧ c.maxLocals = 4 ∧ s.vm.findClass R_law = some m.cls ∧ (∀ w ∈ lw_tbl, w.before #[Value.ref b] s = true) ∧ va_X b L xs s s.heap ∧ b < s.heap.size ∧ meth.locks = false ∧ (Jvm.Cond.and given_1 narrow_1).before #[Value.ref b] s = true


set_option maxHeartbeats 4000000 in
set_option maxRecDepth 100000 in
theorem law_0 {p : Program} {l : Launch} {e : Env} {s : State} {m : MethodId} {below : List Frame} {meth : Method} {c : Code} {b L : Nat} {xs : Nat → Int32} (C0 : lw_At p s m meth c b L xs) (hE : Ey s) {A : Nat → Prop} (hAe : A = fun q : Nat => s.heap.size ≤ q) {dC : Nat → ClassId} {dI : Nat → Nat → Nat} {adK adV : Nat → Nat} (hZ : Zs adK adV A s s.heap) (hR : Rs adK s) {κ : CE} {φ ψ σ : MS} {h : Nat} {ad : Nat → Nat} {cl : Nat → ClassId} {μ : MS} {H : Heap} {locs : List Loc} {cells slots : Nat} {i : Int32} {ls : Array Slot} (hi : 0 ≤ i.toInt ∧ i.toInt + 5 < (L : Int) ∧ L ≤ 3072) (hc : cells + 1011 ≤ 600000 ∧ slots + 43534 ≤ 7302250) (G : LG dC dI A s κ φ ψ σ h ad cl μ H locs) (hl : lv_has ls 4 [(3, .int i), (1, .ref (kA κ 0)), (2, .ref h), (0, .ref b)]) {Q : State → Prop}
    (kk : ∀ (κ' : CE) (φ' ψ' σ' μ' : MS) (H' : Heap) (locs' : List Loc) (c' t' : Nat), LG dC dI A s κ' φ' ψ' σ' h ad cl μ' H' locs' → kA κ' 0 = kA κ 0 → c' + 3 * bc κ ≤ cells + 1008 + 3 * bc κ' → t' + 32489 * bc κ ≤ slots + 11045 + 32489 * bc κ' → W p l e room_1 s m #[Value.ref b] below meth c H' locs' c' t' Q (F0 m 1273 ls [])) : W p l e room_1 s m #[Value.ref b] below meth c H locs cells slots Q (F0 m 172 ls []) := by
  obtain ⟨hx, hb, hr, hml, hown, hts, hX, hbl, hlocks, hgv⟩ := id C0
  have hA : ∀ q : Nat, s.heap.size ≤ q → A q := fun q h => by rw [hAe]; exact h
  have hbA : ¬ A b := by rw [hAe]; exact Nat.not_le.mpr hbl
  obtain ⟨hP, hD, hS, hKm, hKx, hk, hI, hF, hM, hRI⟩ := G
  have hKc : va_K (dC, dI) vwCl (cT κ) s := hKx.sub [0, 1, 2, 3, 4, 5, 6, 7, 8, 9, 10, 11, 12, 13, 14, 15, 16, 17, 18, 19, 20] rfl
  refine lv_aload_n hx hb dL_law_172 rfl (lv_at hl 1 rfl) ?_
  refine lv_aload_n hx hb dL_law_173 rfl (lv_at hl 3 rfl) ?_
  refine lv_iload_n hx hb dL_law_174 rfl (lv_at hl 0 rfl) ?_
  refine lv_iconst (v := 1) hx hb dL_law_175 (by decide) ?_
  refine lv_iadd hx hb dL_law_176 ?_
  refine lv_topi (fun z1_ ez1_ => ?_)
  have tz1_ : z1_.toInt = i.toInt + 1 := ti_add ez1_ rfl (by decide) (by omega) (by omega)
  refine va_sld hx hb hX hbl hbA hS (sx_in tz1_ hi.1 (by decide) (by omega)) dL_law_177 ?_
  refine lv_topi (fun y2_ ey2_ => ?_)
  refine lv_aload_n hx hb dL_law_178 rfl (lv_at hl 3 rfl) ?_
  refine lv_iload_n hx hb dL_law_179 rfl (lv_at hl 0 rfl) ?_
  refine lv_iconst (v := 2) hx hb dL_law_180 (by decide) ?_
  refine lv_iadd hx hb dL_law_181 ?_
  refine lv_topi (fun z3_ ez3_ => ?_)
  have tz3_ : z3_.toInt = i.toInt + 2 := ti_add ez3_ rfl (by decide) (by omega) (by omega)
  refine va_sld hx hb hX hbl hbA hS (sx_in tz3_ hi.1 (by decide) (by omega)) dL_law_182 ?_
  refine lv_topi (fun y4_ ey4_ => ?_)
  refine lv_aload_n hx hb dL_law_183 rfl (lv_at hl 3 rfl) ?_
  refine lv_iload_n hx hb dL_law_184 rfl (lv_at hl 0 rfl) ?_
  refine lv_iconst (v := 3) hx hb dL_law_185 (by decide) ?_
  refine lv_iadd hx hb dL_law_186 ?_
  refine lv_topi (fun z5_ ez5_ => ?_)
  have tz5_ : z5_.toInt = i.toInt + 3 := ti_add ez5_ rfl (by decide) (by omega) (by omega)
  refine va_sld hx hb hX hbl hbA hS (sx_in tz5_ hi.1 (by decide) (by omega)) dL_law_187 ?_
  refine lv_topi (fun y6_ ey6_ => ?_)
  refine lv_aload_n hx hb dL_law_188 rfl (lv_at hl 3 rfl) ?_
  refine lv_iload_n hx hb dL_law_189 rfl (lv_at hl 0 rfl) ?_
  refine lv_iconst (v := 4) hx hb dL_law_190 (by decide) ?_
  refine lv_iadd hx hb dL_law_191 ?_
  refine lv_topi (fun z7_ ez7_ => ?_)
  have tz7_ : z7_.toInt = i.toInt + 4 := ti_add ez7_ rfl (by decide) (by omega) (by omega)
  refine va_sld hx hb hX hbl hbA hS (sx_in tz7_ hi.1 (by decide) (by omega)) dL_law_192 ?_
  refine lv_topi (fun y8_ ey8_ => ?_)
  refine lv_aload_n hx hb dL_law_193 rfl (lv_at hl 3 rfl) ?_
  refine lv_iload_n hx hb dL_law_194 rfl (lv_at hl 0 rfl) ?_
  refine lv_iconst (v := 5) hx hb dL_law_195 (by decide) ?_
  refine lv_iadd hx hb dL_law_196 ?_
  refine lv_topi (fun z9_ ez9_ => ?_)
  have tz9_ : z9_.toInt = i.toInt + 5 := ti_add ez9_ rfl (by decide) (by omega) (by omega)
  refine va_sld hx hb hX hbl hbA hS (sx_in tz9_ hi.1 (by decide) (by omega)) dL_law_197 ?_
  refine lv_topi (fun y10_ ey10_ => ?_)
  have hP := lxP hP
  have hD := lxD hD
  refine zc_i (wr := (mW h ad cl μ)) (wc := cW (ky κ (xX κ φ ψ)) σ) (va_runV (As := [.int y2_, .int y4_, .int y6_, .int y8_, .int y10_]) (rest := []) ⟨hx, hb, hml, hown, hts⟩ (k_feed l dC dI (ky κ (xX κ φ ψ)) H.size σ y2_ y4_ y6_ y8_ y10_ hk hI ) (cwV 5 hts gl_k_feed rfl rfl rfl dd_k_feed ⟨Nat.le_of_ble_eq_true rfl, Nat.le_of_ble_eq_true rfl⟩) (preVy (rP hP) hKc (rD hD) hE (ci := 11) (q0 := 0) rfl rfl) rfl rfl hl.1 rfl (lv_room (Nat.le_of_ble_eq_true rfl)) dL_law_198 ⟨(show cells + 0 ≤ 600000 by omega), (show slots + 0 ≤ 7302250 by omega)⟩) hP hD hS hA (fun r12_ τ13_ H locs hq _ hP hD hS => ?_)
  obtain ⟨hτ13_, qτ13_⟩ := hq
  have hP := xlP hP
  have hD := xlD hD
  refine W.widen (k := cells) (n := slots) (Nat.le_refl _) (Nat.le_refl _) ?_
  refine lv_pop hx hb dL_law_201 rfl ?_
  refine lv_aload_n hx hb dL_law_202 rfl (lv_at hl 2 rfl) ?_
  refine lv_aload_n hx hb dL_law_203 rfl (lv_at hl 3 rfl) ?_
  refine lv_iload_n hx hb dL_law_204 rfl (lv_at hl 0 rfl) ?_
  refine lv_iconst (v := 1) hx hb dL_law_205 (by decide) ?_
  refine lv_iadd hx hb dL_law_206 ?_
  refine lv_topi (fun z14_ ez14_ => ?_)
  have tz14_ : z14_.toInt = i.toInt + 1 := ti_add ez14_ rfl (by decide) (by omega) (by omega)
  refine va_sld hx hb hX hbl hbA hS (sx_in tz14_ hi.1 (by decide) (by omega)) dL_law_207 ?_
  refine lv_topi (fun y15_ ey15_ => ?_)
  have qy15_ : y15_ = y2_ := by rw [ey15_, ey2_, show z14_ = z1_ from Int32.toInt_inj.mp (by omega)]
  refine lv_aload_n hx hb dL_law_208 rfl (lv_at hl 3 rfl) ?_
  refine lv_iload_n hx hb dL_law_209 rfl (lv_at hl 0 rfl) ?_
  refine lv_iconst (v := 2) hx hb dL_law_210 (by decide) ?_
  refine lv_iadd hx hb dL_law_211 ?_
  refine lv_topi (fun z16_ ez16_ => ?_)
  have tz16_ : z16_.toInt = i.toInt + 2 := ti_add ez16_ rfl (by decide) (by omega) (by omega)
  refine va_sld hx hb hX hbl hbA hS (sx_in tz16_ hi.1 (by decide) (by omega)) dL_law_212 ?_
  refine lv_topi (fun y17_ ey17_ => ?_)
  have qy17_ : y17_ = y4_ := by rw [ey17_, ey4_, show z16_ = z3_ from Int32.toInt_inj.mp (by omega)]
  refine lv_aload_n hx hb dL_law_213 rfl (lv_at hl 3 rfl) ?_
  refine lv_iload_n hx hb dL_law_214 rfl (lv_at hl 0 rfl) ?_
  refine lv_iconst (v := 3) hx hb dL_law_215 (by decide) ?_
  refine lv_iadd hx hb dL_law_216 ?_
  refine lv_topi (fun z18_ ez18_ => ?_)
  have tz18_ : z18_.toInt = i.toInt + 3 := ti_add ez18_ rfl (by decide) (by omega) (by omega)
  refine va_sld hx hb hX hbl hbA hS (sx_in tz18_ hi.1 (by decide) (by omega)) dL_law_217 ?_
  refine lv_topi (fun y19_ ey19_ => ?_)
  have qy19_ : y19_ = y6_ := by rw [ey19_, ey6_, show z18_ = z5_ from Int32.toInt_inj.mp (by omega)]
  refine lv_aload_n hx hb dL_law_218 rfl (lv_at hl 3 rfl) ?_
  refine lv_iload_n hx hb dL_law_219 rfl (lv_at hl 0 rfl) ?_
  refine lv_iconst (v := 4) hx hb dL_law_220 (by decide) ?_
  refine lv_iadd hx hb dL_law_221 ?_
  refine lv_topi (fun z20_ ez20_ => ?_)
  have tz20_ : z20_.toInt = i.toInt + 4 := ti_add ez20_ rfl (by decide) (by omega) (by omega)
  refine va_sld hx hb hX hbl hbA hS (sx_in tz20_ hi.1 (by decide) (by omega)) dL_law_222 ?_
  refine lv_topi (fun y21_ ey21_ => ?_)
  have qy21_ : y21_ = y8_ := by rw [ey21_, ey8_, show z20_ = z7_ from Int32.toInt_inj.mp (by omega)]
  refine lv_aload_n hx hb dL_law_223 rfl (lv_at hl 3 rfl) ?_
  refine lv_iload_n hx hb dL_law_224 rfl (lv_at hl 0 rfl) ?_
  refine lv_iconst (v := 5) hx hb dL_law_225 (by decide) ?_
  refine lv_iadd hx hb dL_law_226 ?_
  refine lv_topi (fun z22_ ez22_ => ?_)
  have tz22_ : z22_.toInt = i.toInt + 5 := ti_add ez22_ rfl (by decide) (by omega) (by omega)
  refine va_sld hx hb hX hbl hbA hS (sx_in tz22_ hi.1 (by decide) (by omega)) dL_law_227 ?_
  refine lv_topi (fun y23_ ey23_ => ?_)
  have qy23_ : y23_ = y10_ := by rw [ey23_, ey10_, show z22_ = z9_ from Int32.toInt_inj.mp (by omega)]
  refine zp_i (wc := (mW h ad cl μ)) (wr := (xW κ (xX κ φ ψ) τ13_)) (va_runV (As := [.int y15_, .int y17_, .int y19_, .int y21_, .int y23_]) (rest := []) ⟨hx, hb, hml, hown, hts⟩ (n_feed l dC dI h ad cl H.size μ y15_ y17_ y19_ y21_ y23_ hM) (cwV 5 hts gl_n_feed rfl rfl rfl dd_n_feed ⟨Nat.le_of_ble_eq_true rfl, Nat.le_of_ble_eq_true rfl⟩) (preV (lP hP) hKm (lD hD) hE.x (ci := 12) (q0 := 0) rfl rfl) rfl rfl hl.1 rfl (lv_room (Nat.le_of_ble_eq_true rfl)) dL_law_228 ⟨(show cells + 0 ≤ 600000 by omega), (show slots + 0 ≤ 7302250 by omega)⟩) hP hD hS hA (fun r24_ μ25_ H locs hq hP hD hS => ?_)
  obtain ⟨hμ25_, xμ25_⟩ := hq
  have iμ25_ : RI μ25_ := RI_feed hM hRI xμ25_
  refine W.widen (k := cells) (n := slots) (Nat.le_refl _) (Nat.le_refl _) ?_
  refine lv_pop hx hb dL_law_231 rfl ?_
  refine lv_goto (tgt := 1273) hx hb dL_law_232 (by decide) ?_
  have hG9_ : LG dC dI A s κ φ ψ τ13_ h ad cl μ25_ H locs := ⟨hP, hD, hS, hKm, hKx, hk, hτ13_, hF, hμ25_, iμ25_⟩
  exact kk _ _ _ _ _ _ _ cells slots hG9_ rfl (by omega) (by omega)
set_option maxHeartbeats 4000000 in
set_option maxRecDepth 100000 in
theorem law_1 {p : Program} {l : Launch} {e : Env} {s : State} {m : MethodId} {below : List Frame} {meth : Method} {c : Code} {b L : Nat} {xs : Nat → Int32} (C0 : lw_At p s m meth c b L xs) (hE : Ey s) {A : Nat → Prop} (hAe : A = fun q : Nat => s.heap.size ≤ q) {dC : Nat → ClassId} {dI : Nat → Nat → Nat} {adK adV : Nat → Nat} (hZ : Zs adK adV A s s.heap) (hR : Rs adK s) {κ : CE} {φ ψ σ : MS} {h : Nat} {ad : Nat → Nat} {cl : Nat → ClassId} {μ : MS} {H : Heap} {locs : List Loc} {cells slots : Nat} {i : Int32} {ls : Array Slot} (hi : 0 ≤ i.toInt ∧ i.toInt + 5 < (L : Int) ∧ L ≤ 3072) (hc : cells + 1011 ≤ 600000 ∧ slots + 43534 ≤ 7302250) (G : LG dC dI A s κ φ ψ σ h ad cl μ H locs) (hl : lv_has ls 4 [(3, .int i), (1, .ref (kA κ 0)), (2, .ref h), (0, .ref b)]) {Q : State → Prop}
    (kk : ∀ (κ' : CE) (φ' ψ' σ' μ' : MS) (H' : Heap) (locs' : List Loc) (c' t' : Nat), LG dC dI A s κ' φ' ψ' σ' h ad cl μ' H' locs' → kA κ' 0 = kA κ 0 → c' + 3 * bc κ ≤ cells + 1008 + 3 * bc κ' → t' + 32489 * bc κ ≤ slots + 11045 + 32489 * bc κ' → W p l e room_1 s m #[Value.ref b] below meth c H' locs' c' t' Q (F0 m 1273 ls [])) : W p l e room_1 s m #[Value.ref b] below meth c H locs cells slots Q (F0 m 235 ls []) := by
  obtain ⟨hx, hb, hr, hml, hown, hts, hX, hbl, hlocks, hgv⟩ := id C0
  have hA : ∀ q : Nat, s.heap.size ≤ q → A q := fun q h => by rw [hAe]; exact h
  have hbA : ¬ A b := by rw [hAe]; exact Nat.not_le.mpr hbl
  obtain ⟨hP, hD, hS, hKm, hKx, hk, hI, hF, hM, hRI⟩ := G
  have hKc : va_K (dC, dI) vwCl (cT κ) s := hKx.sub [0, 1, 2, 3, 4, 5, 6, 7, 8, 9, 10, 11, 12, 13, 14, 15, 16, 17, 18, 19, 20] rfl
  refine lv_aload_n hx hb dL_law_235 rfl (lv_at hl 1 rfl) ?_
  refine lv_aload_n hx hb dL_law_236 rfl (lv_at hl 3 rfl) ?_
  refine lv_iload_n hx hb dL_law_237 rfl (lv_at hl 0 rfl) ?_
  refine lv_iconst (v := 1) hx hb dL_law_238 (by decide) ?_
  refine lv_iadd hx hb dL_law_239 ?_
  refine lv_topi (fun z1_ ez1_ => ?_)
  have tz1_ : z1_.toInt = i.toInt + 1 := ti_add ez1_ rfl (by decide) (by omega) (by omega)
  refine va_sld hx hb hX hbl hbA hS (sx_in tz1_ hi.1 (by decide) (by omega)) dL_law_240 ?_
  refine lv_topi (fun y2_ ey2_ => ?_)
  have hP := lxP hP
  have hD := lxD hD
  refine zc_i (wr := (mW h ad cl μ)) (wc := cW (ky κ (xX κ φ ψ)) σ) (va_runV (As := [.int y2_]) (rest := []) ⟨hx, hb, hml, hown, hts⟩ (k_end l dC dI (ky κ (xX κ φ ψ)) H.size σ y2_ hk hI ) (cwV 1 hts gl_k_end rfl rfl rfl dd_k_end ⟨Nat.le_of_ble_eq_true rfl, Nat.le_of_ble_eq_true rfl⟩) (preVy (rP hP) hKc (rD hD) hE (ci := 11) (q0 := 0) rfl rfl) rfl rfl hl.1 rfl (lv_room (Nat.le_of_ble_eq_true rfl)) dL_law_241 ⟨(show cells + 0 ≤ 600000 by omega), (show slots + 0 ≤ 7302250 by omega)⟩) hP hD hS hA (fun r4_ τ5_ H locs hq _ hP hD hS => ?_)
  obtain ⟨hτ5_, qτ5_⟩ := hq
  have hP := xlP hP
  have hD := xlD hD
  refine W.widen (k := cells) (n := slots) (Nat.le_refl _) (Nat.le_refl _) ?_
  refine lv_pop hx hb dL_law_244 rfl ?_
  refine lv_aload_n hx hb dL_law_245 rfl (lv_at hl 2 rfl) ?_
  refine lv_aload_n hx hb dL_law_246 rfl (lv_at hl 3 rfl) ?_
  refine lv_iload_n hx hb dL_law_247 rfl (lv_at hl 0 rfl) ?_
  refine lv_iconst (v := 1) hx hb dL_law_248 (by decide) ?_
  refine lv_iadd hx hb dL_law_249 ?_
  refine lv_topi (fun z6_ ez6_ => ?_)
  have tz6_ : z6_.toInt = i.toInt + 1 := ti_add ez6_ rfl (by decide) (by omega) (by omega)
  refine va_sld hx hb hX hbl hbA hS (sx_in tz6_ hi.1 (by decide) (by omega)) dL_law_250 ?_
  refine lv_topi (fun y7_ ey7_ => ?_)
  have qy7_ : y7_ = y2_ := by rw [ey7_, ey2_, show z6_ = z1_ from Int32.toInt_inj.mp (by omega)]
  refine zp_i (wc := (mW h ad cl μ)) (wr := (xW κ (xX κ φ ψ) τ5_)) (va_runV (As := [.int y7_]) (rest := []) ⟨hx, hb, hml, hown, hts⟩ (n_end l dC dI h ad cl H.size μ y7_ hM) (cwV 1 hts gl_n_end rfl rfl rfl dd_n_end ⟨Nat.le_of_ble_eq_true rfl, Nat.le_of_ble_eq_true rfl⟩) (preV (lP hP) hKm (lD hD) hE.x (ci := 12) (q0 := 0) rfl rfl) rfl rfl hl.1 rfl (lv_room (Nat.le_of_ble_eq_true rfl)) dL_law_251 ⟨(show cells + 0 ≤ 600000 by omega), (show slots + 0 ≤ 7302250 by omega)⟩) hP hD hS hA (fun r8_ μ9_ H locs hq hP hD hS => ?_)
  obtain ⟨hμ9_, xμ9_⟩ := hq
  have iμ9_ : RI μ9_ := RI_end hM hRI xμ9_
  refine W.widen (k := cells) (n := slots) (Nat.le_refl _) (Nat.le_refl _) ?_
  refine lv_pop hx hb dL_law_254 rfl ?_
  refine lv_goto (tgt := 1273) hx hb dL_law_255 (by decide) ?_
  have hG9_ : LG dC dI A s κ φ ψ τ5_ h ad cl μ9_ H locs := ⟨hP, hD, hS, hKm, hKx, hk, hτ5_, hF, hμ9_, iμ9_⟩
  exact kk _ _ _ _ _ _ _ cells slots hG9_ rfl (by omega) (by omega)
set_option maxHeartbeats 4000000 in
set_option maxRecDepth 100000 in
theorem law_2 {p : Program} {l : Launch} {e : Env} {s : State} {m : MethodId} {below : List Frame} {meth : Method} {c : Code} {b L : Nat} {xs : Nat → Int32} (C0 : lw_At p s m meth c b L xs) (hE : Ey s) {A : Nat → Prop} (hAe : A = fun q : Nat => s.heap.size ≤ q) {dC : Nat → ClassId} {dI : Nat → Nat → Nat} {adK adV : Nat → Nat} (hZ : Zs adK adV A s s.heap) (hR : Rs adK s) {κ : CE} {φ ψ σ : MS} {h : Nat} {ad : Nat → Nat} {cl : Nat → ClassId} {μ : MS} {H : Heap} {locs : List Loc} {cells slots : Nat} {i : Int32} {ls : Array Slot} (hi : 0 ≤ i.toInt ∧ i.toInt + 5 < (L : Int) ∧ L ≤ 3072) (hc : cells + 1011 ≤ 600000 ∧ slots + 43534 ≤ 7302250) (G : LG dC dI A s κ φ ψ σ h ad cl μ H locs) (hl : lv_has ls 4 [(3, .int i), (1, .ref (kA κ 0)), (2, .ref h), (0, .ref b)]) {Q : State → Prop}
    (kk : ∀ (κ' : CE) (φ' ψ' σ' μ' : MS) (H' : Heap) (locs' : List Loc) (c' t' : Nat), LG dC dI A s κ' φ' ψ' σ' h ad cl μ' H' locs' → kA κ' 0 = kA κ 0 → c' + 3 * bc κ ≤ cells + 1008 + 3 * bc κ' → t' + 32489 * bc κ ≤ slots + 11045 + 32489 * bc κ' → W p l e room_1 s m #[Value.ref b] below meth c H' locs' c' t' Q (F0 m 1273 ls [])) : W p l e room_1 s m #[Value.ref b] below meth c H locs cells slots Q (F0 m 258 ls []) := by
  obtain ⟨hx, hb, hr, hml, hown, hts, hX, hbl, hlocks, hgv⟩ := id C0
  have hA : ∀ q : Nat, s.heap.size ≤ q → A q := fun q h => by rw [hAe]; exact h
  have hbA : ¬ A b := by rw [hAe]; exact Nat.not_le.mpr hbl
  obtain ⟨hP, hD, hS, hKm, hKx, hk, hI, hF, hM, hRI⟩ := G
  have hKc : va_K (dC, dI) vwCl (cT κ) s := hKx.sub [0, 1, 2, 3, 4, 5, 6, 7, 8, 9, 10, 11, 12, 13, 14, 15, 16, 17, 18, 19, 20] rfl
  refine lv_aload_n hx hb dL_law_258 rfl (lv_at hl 1 rfl) ?_
  refine zc_i (wr := (mW h ad cl μ)) (wc := (xW κ (xX κ φ ψ) σ)) (va_runV (As := []) (rest := []) ⟨hx, hb, hml, hown, hts⟩ (t_program l dC dI adK adV κ H.size φ ψ σ  hk hI hF ) (cwV 0 hts gl_t_program rfl rfl rfl dd_t_program ⟨Nat.le_of_ble_eq_true rfl, Nat.le_of_ble_eq_true rfl⟩) (preVr (rP hP) hKx (rD hD) hE hZ hR hS hA (ci := 11) (q0 := 0) rfl rfl) rfl rfl hl.1 rfl (lv_room (Nat.le_of_ble_eq_true rfl)) dL_law_259 ⟨(show cells + 1008 ≤ 600000 by omega), (show slots + 11045 ≤ 7302250 by omega)⟩) hP hD hS hA (fun r2_ u3_ H locs hq hKn_ hP hD hS => ?_)
  obtain ⟨κ4_, φ5_, ψ6_, τ7_⟩ := u3_
  obtain ⟨hkκ4_, hτ7_, hφ5_, haκ4_, qτ7_⟩ := hq
  have hKx : va_K (dC, dI) vwCl (tT κ4_) s := hKn_
  have bc_ : bc κ4_ = bc κ := bc_e qτ7_.2
  have hP : va_P (dC, dI) vwCl ((mW h ad cl μ) ++ (xW κ4_ (xX κ4_ φ5_ ψ6_) τ7_)) H := hP
  have hD : va_D A ((mW h ad cl μ) ++ (xW κ4_ (xX κ4_ φ5_ ψ6_) τ7_)) := hD
  refine W.widen (k := (cells + 1008)) (n := (slots + 11045)) (Nat.le_refl _) (Nat.le_refl _) ?_
  refine lv_pop hx hb dL_law_262 rfl ?_
  refine lv_aload_n hx hb dL_law_263 rfl (lv_at hl 2 rfl) ?_
  refine zp_i (wc := (mW h ad cl μ)) (wr := (xW κ4_ (xX κ4_ φ5_ ψ6_) τ7_)) (va_runV (As := []) (rest := []) ⟨hx, hb, hml, hown, hts⟩ (n_programV l dC dI h ad cl H.size μ  hM) (cwV 0 hts gl_n_programV rfl rfl rfl dd_n_programV ⟨Nat.le_of_ble_eq_true rfl, Nat.le_of_ble_eq_true rfl⟩) (preV (lP hP) hKm (lD hD) hE.x (ci := 12) (q0 := 0) rfl rfl) rfl rfl hl.1 rfl (lv_room (Nat.le_of_ble_eq_true rfl)) dL_law_264 ⟨(show (cells + 1008) + 0 ≤ 600000 by omega), (show (slots + 11045) + 0 ≤ 7302250 by omega)⟩) hP hD hS hA (fun r8_ μ9_ H locs hq hP hD hS => ?_)
  obtain ⟨hμ9_, xμ9_, f10_⟩ := hq
  have iμ9_ : RI μ9_ := RI.prog hM hRI (by decide) (by decide) (by decide) (by decide) (by decide) (by decide) (f10_.1 hRI.1) (f10_.2 hRI.1 hRI.2.1)
  refine W.widen (k := (cells + 1008)) (n := (slots + 11045)) (Nat.le_refl _) (Nat.le_refl _) ?_
  refine lv_pop hx hb dL_law_267 rfl ?_
  refine lv_goto (tgt := 1273) hx hb dL_law_268 (by decide) ?_
  have hG9_ : LG dC dI A s κ4_ φ5_ ψ6_ τ7_ h ad cl μ9_ H locs := ⟨hP, hD, hS, hKm, hKx, hkκ4_, hτ7_, hφ5_, hμ9_, iμ9_⟩
  exact kk _ _ _ _ _ _ _ (cells + 1008) (slots + 11045) hG9_ haκ4_ (by omega) (by omega)
set_option maxHeartbeats 4000000 in
set_option maxRecDepth 100000 in
theorem law_3 {p : Program} {l : Launch} {e : Env} {s : State} {m : MethodId} {below : List Frame} {meth : Method} {c : Code} {b L : Nat} {xs : Nat → Int32} (C0 : lw_At p s m meth c b L xs) (hE : Ey s) {A : Nat → Prop} (hAe : A = fun q : Nat => s.heap.size ≤ q) {dC : Nat → ClassId} {dI : Nat → Nat → Nat} {adK adV : Nat → Nat} (hZ : Zs adK adV A s s.heap) (hR : Rs adK s) {κ : CE} {φ ψ σ : MS} {h : Nat} {ad : Nat → Nat} {cl : Nat → ClassId} {μ : MS} {H : Heap} {locs : List Loc} {cells slots : Nat} {i : Int32} {ls : Array Slot} (hi : 0 ≤ i.toInt ∧ i.toInt + 5 < (L : Int) ∧ L ≤ 3072) (hc : cells + 1011 ≤ 600000 ∧ slots + 43534 ≤ 7302250) (G : LG dC dI A s κ φ ψ σ h ad cl μ H locs) (hl : lv_has ls 4 [(3, .int i), (1, .ref (kA κ 0)), (2, .ref h), (0, .ref b)]) {Q : State → Prop}
    (kk : ∀ (κ' : CE) (φ' ψ' σ' μ' : MS) (H' : Heap) (locs' : List Loc) (c' t' : Nat), LG dC dI A s κ' φ' ψ' σ' h ad cl μ' H' locs' → kA κ' 0 = kA κ 0 → c' + 3 * bc κ ≤ cells + 1008 + 3 * bc κ' → t' + 32489 * bc κ ≤ slots + 11045 + 32489 * bc κ' → W p l e room_1 s m #[Value.ref b] below meth c H' locs' c' t' Q (F0 m 1273 ls [])) : W p l e room_1 s m #[Value.ref b] below meth c H locs cells slots Q (F0 m 271 ls []) := by
  obtain ⟨hx, hb, hr, hml, hown, hts, hX, hbl, hlocks, hgv⟩ := id C0
  have hA : ∀ q : Nat, s.heap.size ≤ q → A q := fun q h => by rw [hAe]; exact h
  have hbA : ¬ A b := by rw [hAe]; exact Nat.not_le.mpr hbl
  obtain ⟨hP, hD, hS, hKm, hKx, hk, hI, hF, hM, hRI⟩ := G
  have hKc : va_K (dC, dI) vwCl (cT κ) s := hKx.sub [0, 1, 2, 3, 4, 5, 6, 7, 8, 9, 10, 11, 12, 13, 14, 15, 16, 17, 18, 19, 20] rfl
  refine lv_aload_n hx hb dL_law_271 rfl (lv_at hl 1 rfl) ?_
  refine lv_aload_n hx hb dL_law_272 rfl (lv_at hl 3 rfl) ?_
  refine lv_iload_n hx hb dL_law_273 rfl (lv_at hl 0 rfl) ?_
  refine lv_iconst (v := 1) hx hb dL_law_274 (by decide) ?_
  refine lv_iadd hx hb dL_law_275 ?_
  refine lv_topi (fun z1_ ez1_ => ?_)
  have tz1_ : z1_.toInt = i.toInt + 1 := ti_add ez1_ rfl (by decide) (by omega) (by omega)
  refine va_sld hx hb hX hbl hbA hS (sx_in tz1_ hi.1 (by decide) (by omega)) dL_law_276 ?_
  refine lv_topi (fun y2_ ey2_ => ?_)
  have hP := lxP hP
  have hD := lxD hD
  refine zc_i (wr := (mW h ad cl μ)) (wc := cW (ky κ (xX κ φ ψ)) σ) (va_runV (As := [.int y2_]) (rest := []) ⟨hx, hb, hml, hown, hts⟩ (k_fault l dC dI (ky κ (xX κ φ ψ)) H.size σ y2_ hk hI ) (cwV 1 hts gl_k_fault rfl rfl rfl dd_k_fault ⟨Nat.le_of_ble_eq_true rfl, Nat.le_of_ble_eq_true rfl⟩) (preVy (rP hP) hKc (rD hD) hE (ci := 11) (q0 := 0) rfl rfl) rfl rfl hl.1 rfl (lv_room (Nat.le_of_ble_eq_true rfl)) dL_law_277 ⟨(show cells + 0 ≤ 600000 by omega), (show slots + 0 ≤ 7302250 by omega)⟩) hP hD hS hA (fun r4_ τ5_ H locs hq _ hP hD hS => ?_)
  obtain ⟨hτ5_, qτ5_⟩ := hq
  rw [hτ5_] at hP hD
  have hP := xlP hP
  have hD := xlD hD
  refine W.widen (k := cells) (n := slots) (Nat.le_refl _) (Nat.le_refl _) ?_
  refine lv_pop hx hb dL_law_280 rfl ?_
  refine lv_aload_n hx hb dL_law_281 rfl (lv_at hl 2 rfl) ?_
  refine lv_aload_n hx hb dL_law_282 rfl (lv_at hl 3 rfl) ?_
  refine lv_iload_n hx hb dL_law_283 rfl (lv_at hl 0 rfl) ?_
  refine lv_iconst (v := 1) hx hb dL_law_284 (by decide) ?_
  refine lv_iadd hx hb dL_law_285 ?_
  refine lv_topi (fun z6_ ez6_ => ?_)
  have tz6_ : z6_.toInt = i.toInt + 1 := ti_add ez6_ rfl (by decide) (by omega) (by omega)
  refine va_sld hx hb hX hbl hbA hS (sx_in tz6_ hi.1 (by decide) (by omega)) dL_law_286 ?_
  refine lv_topi (fun y7_ ey7_ => ?_)
  have qy7_ : y7_ = y2_ := by rw [ey7_, ey2_, show z6_ = z1_ from Int32.toInt_inj.mp (by omega)]
  refine zp_i (wc := (mW h ad cl μ)) (wr := (xW κ (xX κ φ ψ) σ)) (va_runV (As := [.int y7_]) (rest := []) ⟨hx, hb, hml, hown, hts⟩ (n_fault l dC dI h ad cl H.size μ y7_ hM) (cwV 1 hts gl_n_fault rfl rfl rfl dd_n_fault ⟨Nat.le_of_ble_eq_true rfl, Nat.le_of_ble_eq_true rfl⟩) (preV (lP hP) hKm (lD hD) hE.x (ci := 12) (q0 := 0) rfl rfl) rfl rfl hl.1 rfl (lv_room (Nat.le_of_ble_eq_true rfl)) dL_law_287 ⟨(show cells + 0 ≤ 600000 by omega), (show slots + 0 ≤ 7302250 by omega)⟩) hP hD hS hA (fun r8_ μ9_ H locs hq hP hD hS => ?_)
  rw [show μ9_ = μ from hq.symm] at hP hD
  refine W.widen (k := cells) (n := slots) (Nat.le_refl _) (Nat.le_refl _) ?_
  refine lv_pop hx hb dL_law_290 rfl ?_
  refine lv_goto (tgt := 1273) hx hb dL_law_291 (by decide) ?_
  have hG9_ : LG dC dI A s κ φ ψ σ h ad cl μ H locs := ⟨hP, hD, hS, hKm, hKx, hk, hI, hF, hM, hRI⟩
  exact kk _ _ _ _ _ _ _ cells slots hG9_ rfl (by omega) (by omega)
set_option maxHeartbeats 4000000 in
set_option maxRecDepth 100000 in
theorem law_4 {p : Program} {l : Launch} {e : Env} {s : State} {m : MethodId} {below : List Frame} {meth : Method} {c : Code} {b L : Nat} {xs : Nat → Int32} (C0 : lw_At p s m meth c b L xs) (hE : Ey s) {A : Nat → Prop} (hAe : A = fun q : Nat => s.heap.size ≤ q) {dC : Nat → ClassId} {dI : Nat → Nat → Nat} {adK adV : Nat → Nat} (hZ : Zs adK adV A s s.heap) (hR : Rs adK s) {κ : CE} {φ ψ σ : MS} {h : Nat} {ad : Nat → Nat} {cl : Nat → ClassId} {μ : MS} {H : Heap} {locs : List Loc} {cells slots : Nat} {i : Int32} {ls : Array Slot} (hi : 0 ≤ i.toInt ∧ i.toInt + 5 < (L : Int) ∧ L ≤ 3072) (hc : cells + 1011 ≤ 600000 ∧ slots + 43534 ≤ 7302250) (G : LG dC dI A s κ φ ψ σ h ad cl μ H locs) (hl : lv_has ls 4 [(3, .int i), (1, .ref (kA κ 0)), (2, .ref h), (0, .ref b)]) {Q : State → Prop}
    (kk : ∀ (κ' : CE) (φ' ψ' σ' μ' : MS) (H' : Heap) (locs' : List Loc) (c' t' : Nat), LG dC dI A s κ' φ' ψ' σ' h ad cl μ' H' locs' → kA κ' 0 = kA κ 0 → c' + 3 * bc κ ≤ cells + 1008 + 3 * bc κ' → t' + 32489 * bc κ ≤ slots + 11045 + 32489 * bc κ' → W p l e room_1 s m #[Value.ref b] below meth c H' locs' c' t' Q (F0 m 1273 ls [])) : W p l e room_1 s m #[Value.ref b] below meth c H locs cells slots Q (F0 m 294 ls []) := by
  obtain ⟨hx, hb, hr, hml, hown, hts, hX, hbl, hlocks, hgv⟩ := id C0
  have hA : ∀ q : Nat, s.heap.size ≤ q → A q := fun q h => by rw [hAe]; exact h
  have hbA : ¬ A b := by rw [hAe]; exact Nat.not_le.mpr hbl
  obtain ⟨hP, hD, hS, hKm, hKx, hk, hI, hF, hM, hRI⟩ := G
  have hKc : va_K (dC, dI) vwCl (cT κ) s := hKx.sub [0, 1, 2, 3, 4, 5, 6, 7, 8, 9, 10, 11, 12, 13, 14, 15, 16, 17, 18, 19, 20] rfl
  refine lv_aload_n hx hb dL_law_294 rfl (lv_at hl 1 rfl) ?_
  refine lv_aload_n hx hb dL_law_295 rfl (lv_at hl 3 rfl) ?_
  refine lv_iload_n hx hb dL_law_296 rfl (lv_at hl 0 rfl) ?_
  refine lv_iconst (v := 1) hx hb dL_law_297 (by decide) ?_
  refine lv_iadd hx hb dL_law_298 ?_
  refine lv_topi (fun z1_ ez1_ => ?_)
  have tz1_ : z1_.toInt = i.toInt + 1 := ti_add ez1_ rfl (by decide) (by omega) (by omega)
  refine va_sld hx hb hX hbl hbA hS (sx_in tz1_ hi.1 (by decide) (by omega)) dL_law_299 ?_
  refine lv_topi (fun y2_ ey2_ => ?_)
  refine lv_aload_n hx hb dL_law_300 rfl (lv_at hl 3 rfl) ?_
  refine lv_iload_n hx hb dL_law_301 rfl (lv_at hl 0 rfl) ?_
  refine lv_iconst (v := 2) hx hb dL_law_302 (by decide) ?_
  refine lv_iadd hx hb dL_law_303 ?_
  refine lv_topi (fun z3_ ez3_ => ?_)
  have tz3_ : z3_.toInt = i.toInt + 2 := ti_add ez3_ rfl (by decide) (by omega) (by omega)
  refine va_sld hx hb hX hbl hbA hS (sx_in tz3_ hi.1 (by decide) (by omega)) dL_law_304 ?_
  refine lv_topi (fun y4_ ey4_ => ?_)
  refine lv_if_eq (tgt := 312) hx hb dL_law_305 rfl (fun _ => ?_) (fun _ => ?_)
  · refine lv_iconst (v := 0) hx hb dL_law_312 (by decide) ?_
    have hP := lxP hP
    have hD := lxD hD
    refine zc_i (wr := (mW h ad cl μ)) (wc := cW (ky κ (xX κ φ ψ)) σ) (va_runV (As := [.int y2_, .int 0]) (rest := []) ⟨hx, hb, hml, hown, hts⟩ (k_span l dC dI (ky κ (xX κ φ ψ)) H.size σ y2_ (0) hk hI ) (cwV 2 hts gl_k_span rfl rfl rfl dd_k_span ⟨Nat.le_of_ble_eq_true rfl, Nat.le_of_ble_eq_true rfl⟩) (preVy (rP hP) hKc (rD hD) hE (ci := 11) (q0 := 0) rfl rfl) rfl rfl hl.1 rfl (lv_room (Nat.le_of_ble_eq_true rfl)) dL_law_313 ⟨(show cells + 0 ≤ 600000 by omega), (show slots + 0 ≤ 7302250 by omega)⟩) hP hD hS hA (fun r6_ τ7_ H locs hq _ hP hD hS => ?_)
    obtain ⟨hτ7_, qτ7_⟩ := hq
    rw [hτ7_] at hP hD
    have hP := xlP hP
    have hD := xlD hD
    refine W.widen (k := cells) (n := slots) (Nat.le_refl _) (Nat.le_refl _) ?_
    refine lv_pop hx hb dL_law_316 rfl ?_
    refine lv_aload_n hx hb dL_law_317 rfl (lv_at hl 2 rfl) ?_
    refine lv_aload_n hx hb dL_law_318 rfl (lv_at hl 3 rfl) ?_
    refine lv_iload_n hx hb dL_law_319 rfl (lv_at hl 0 rfl) ?_
    refine lv_iconst (v := 1) hx hb dL_law_320 (by decide) ?_
    refine lv_iadd hx hb dL_law_321 ?_
    refine lv_topi (fun z8_ ez8_ => ?_)
    have tz8_ : z8_.toInt = i.toInt + 1 := ti_add ez8_ rfl (by decide) (by omega) (by omega)
    refine va_sld hx hb hX hbl hbA hS (sx_in tz8_ hi.1 (by decide) (by omega)) dL_law_322 ?_
    refine lv_topi (fun y9_ ey9_ => ?_)
    have qy9_ : y9_ = y2_ := by rw [ey9_, ey2_, show z8_ = z1_ from Int32.toInt_inj.mp (by omega)]
    refine lv_aload_n hx hb dL_law_323 rfl (lv_at hl 3 rfl) ?_
    refine lv_iload_n hx hb dL_law_324 rfl (lv_at hl 0 rfl) ?_
    refine lv_iconst (v := 2) hx hb dL_law_325 (by decide) ?_
    refine lv_iadd hx hb dL_law_326 ?_
    refine lv_topi (fun z10_ ez10_ => ?_)
    have tz10_ : z10_.toInt = i.toInt + 2 := ti_add ez10_ rfl (by decide) (by omega) (by omega)
    refine va_sld hx hb hX hbl hbA hS (sx_in tz10_ hi.1 (by decide) (by omega)) dL_law_327 ?_
    refine lv_topi (fun y11_ ey11_ => ?_)
    have qy11_ : y11_ = y4_ := by rw [ey11_, ey4_, show z10_ = z3_ from Int32.toInt_inj.mp (by omega)]
    refine lv_if_eq (tgt := 335) hx hb dL_law_328 rfl (fun _ => ?_) (fun _ => ?_)
    · refine lv_iconst (v := 0) hx hb dL_law_335 (by decide) ?_
      refine zp_i (wc := (mW h ad cl μ)) (wr := (xW κ (xX κ φ ψ) σ)) (va_runV (As := [.int y9_, .int 0]) (rest := []) ⟨hx, hb, hml, hown, hts⟩ (n_span l dC dI h ad cl H.size μ y9_ (0) hM) (cwV 2 hts gl_n_span rfl rfl rfl dd_n_span ⟨Nat.le_of_ble_eq_true rfl, Nat.le_of_ble_eq_true rfl⟩) (preV (lP hP) hKm (lD hD) hE.x (ci := 12) (q0 := 0) rfl rfl) rfl rfl hl.1 rfl (lv_room (Nat.le_of_ble_eq_true rfl)) dL_law_336 ⟨(show cells + 0 ≤ 600000 by omega), (show slots + 0 ≤ 7302250 by omega)⟩) hP hD hS hA (fun r12_ μ13_ H locs hq hP hD hS => ?_)
      rw [show μ13_ = μ from hq.symm] at hP hD
      refine W.widen (k := cells) (n := slots) (Nat.le_refl _) (Nat.le_refl _) ?_
      refine lv_pop hx hb dL_law_339 rfl ?_
      refine lv_goto (tgt := 1273) hx hb dL_law_340 (by decide) ?_
      have hG9_ : LG dC dI A s κ φ ψ σ h ad cl μ H locs := ⟨hP, hD, hS, hKm, hKx, hk, hI, hF, hM, hRI⟩
      exact kk _ _ _ _ _ _ _ cells slots hG9_ rfl (by omega) (by omega)
    · refine lv_iconst (v := 1) hx hb dL_law_331 (by decide) ?_
      refine lv_goto (tgt := 336) hx hb dL_law_332 (by decide) ?_
      refine zp_i (wc := (mW h ad cl μ)) (wr := (xW κ (xX κ φ ψ) σ)) (va_runV (As := [.int y9_, .int 1]) (rest := []) ⟨hx, hb, hml, hown, hts⟩ (n_span l dC dI h ad cl H.size μ y9_ (1) hM) (cwV 2 hts gl_n_span rfl rfl rfl dd_n_span ⟨Nat.le_of_ble_eq_true rfl, Nat.le_of_ble_eq_true rfl⟩) (preV (lP hP) hKm (lD hD) hE.x (ci := 12) (q0 := 0) rfl rfl) rfl rfl hl.1 rfl (lv_room (Nat.le_of_ble_eq_true rfl)) dL_law_336 ⟨(show cells + 0 ≤ 600000 by omega), (show slots + 0 ≤ 7302250 by omega)⟩) hP hD hS hA (fun r14_ μ15_ H locs hq hP hD hS => ?_)
      rw [show μ15_ = μ from hq.symm] at hP hD
      refine W.widen (k := cells) (n := slots) (Nat.le_refl _) (Nat.le_refl _) ?_
      refine lv_pop hx hb dL_law_339 rfl ?_
      refine lv_goto (tgt := 1273) hx hb dL_law_340 (by decide) ?_
      have hG9_ : LG dC dI A s κ φ ψ σ h ad cl μ H locs := ⟨hP, hD, hS, hKm, hKx, hk, hI, hF, hM, hRI⟩
      exact kk _ _ _ _ _ _ _ cells slots hG9_ rfl (by omega) (by omega)
  · refine lv_iconst (v := 1) hx hb dL_law_308 (by decide) ?_
    refine lv_goto (tgt := 313) hx hb dL_law_309 (by decide) ?_
    have hP := lxP hP
    have hD := lxD hD
    refine zc_i (wr := (mW h ad cl μ)) (wc := cW (ky κ (xX κ φ ψ)) σ) (va_runV (As := [.int y2_, .int 1]) (rest := []) ⟨hx, hb, hml, hown, hts⟩ (k_span l dC dI (ky κ (xX κ φ ψ)) H.size σ y2_ (1) hk hI ) (cwV 2 hts gl_k_span rfl rfl rfl dd_k_span ⟨Nat.le_of_ble_eq_true rfl, Nat.le_of_ble_eq_true rfl⟩) (preVy (rP hP) hKc (rD hD) hE (ci := 11) (q0 := 0) rfl rfl) rfl rfl hl.1 rfl (lv_room (Nat.le_of_ble_eq_true rfl)) dL_law_313 ⟨(show cells + 0 ≤ 600000 by omega), (show slots + 0 ≤ 7302250 by omega)⟩) hP hD hS hA (fun r17_ τ18_ H locs hq _ hP hD hS => ?_)
    obtain ⟨hτ18_, qτ18_⟩ := hq
    rw [hτ18_] at hP hD
    have hP := xlP hP
    have hD := xlD hD
    refine W.widen (k := cells) (n := slots) (Nat.le_refl _) (Nat.le_refl _) ?_
    refine lv_pop hx hb dL_law_316 rfl ?_
    refine lv_aload_n hx hb dL_law_317 rfl (lv_at hl 2 rfl) ?_
    refine lv_aload_n hx hb dL_law_318 rfl (lv_at hl 3 rfl) ?_
    refine lv_iload_n hx hb dL_law_319 rfl (lv_at hl 0 rfl) ?_
    refine lv_iconst (v := 1) hx hb dL_law_320 (by decide) ?_
    refine lv_iadd hx hb dL_law_321 ?_
    refine lv_topi (fun z19_ ez19_ => ?_)
    have tz19_ : z19_.toInt = i.toInt + 1 := ti_add ez19_ rfl (by decide) (by omega) (by omega)
    refine va_sld hx hb hX hbl hbA hS (sx_in tz19_ hi.1 (by decide) (by omega)) dL_law_322 ?_
    refine lv_topi (fun y20_ ey20_ => ?_)
    have qy20_ : y20_ = y2_ := by rw [ey20_, ey2_, show z19_ = z1_ from Int32.toInt_inj.mp (by omega)]
    refine lv_aload_n hx hb dL_law_323 rfl (lv_at hl 3 rfl) ?_
    refine lv_iload_n hx hb dL_law_324 rfl (lv_at hl 0 rfl) ?_
    refine lv_iconst (v := 2) hx hb dL_law_325 (by decide) ?_
    refine lv_iadd hx hb dL_law_326 ?_
    refine lv_topi (fun z21_ ez21_ => ?_)
    have tz21_ : z21_.toInt = i.toInt + 2 := ti_add ez21_ rfl (by decide) (by omega) (by omega)
    refine va_sld hx hb hX hbl hbA hS (sx_in tz21_ hi.1 (by decide) (by omega)) dL_law_327 ?_
    refine lv_topi (fun y22_ ey22_ => ?_)
    have qy22_ : y22_ = y4_ := by rw [ey22_, ey4_, show z21_ = z3_ from Int32.toInt_inj.mp (by omega)]
    refine lv_if_eq (tgt := 335) hx hb dL_law_328 rfl (fun _ => ?_) (fun _ => ?_)
    · refine lv_iconst (v := 0) hx hb dL_law_335 (by decide) ?_
      refine zp_i (wc := (mW h ad cl μ)) (wr := (xW κ (xX κ φ ψ) σ)) (va_runV (As := [.int y20_, .int 0]) (rest := []) ⟨hx, hb, hml, hown, hts⟩ (n_span l dC dI h ad cl H.size μ y20_ (0) hM) (cwV 2 hts gl_n_span rfl rfl rfl dd_n_span ⟨Nat.le_of_ble_eq_true rfl, Nat.le_of_ble_eq_true rfl⟩) (preV (lP hP) hKm (lD hD) hE.x (ci := 12) (q0 := 0) rfl rfl) rfl rfl hl.1 rfl (lv_room (Nat.le_of_ble_eq_true rfl)) dL_law_336 ⟨(show cells + 0 ≤ 600000 by omega), (show slots + 0 ≤ 7302250 by omega)⟩) hP hD hS hA (fun r23_ μ24_ H locs hq hP hD hS => ?_)
      rw [show μ24_ = μ from hq.symm] at hP hD
      refine W.widen (k := cells) (n := slots) (Nat.le_refl _) (Nat.le_refl _) ?_
      refine lv_pop hx hb dL_law_339 rfl ?_
      refine lv_goto (tgt := 1273) hx hb dL_law_340 (by decide) ?_
      have hG9_ : LG dC dI A s κ φ ψ σ h ad cl μ H locs := ⟨hP, hD, hS, hKm, hKx, hk, hI, hF, hM, hRI⟩
      exact kk _ _ _ _ _ _ _ cells slots hG9_ rfl (by omega) (by omega)
    · refine lv_iconst (v := 1) hx hb dL_law_331 (by decide) ?_
      refine lv_goto (tgt := 336) hx hb dL_law_332 (by decide) ?_
      refine zp_i (wc := (mW h ad cl μ)) (wr := (xW κ (xX κ φ ψ) σ)) (va_runV (As := [.int y20_, .int 1]) (rest := []) ⟨hx, hb, hml, hown, hts⟩ (n_span l dC dI h ad cl H.size μ y20_ (1) hM) (cwV 2 hts gl_n_span rfl rfl rfl dd_n_span ⟨Nat.le_of_ble_eq_true rfl, Nat.le_of_ble_eq_true rfl⟩) (preV (lP hP) hKm (lD hD) hE.x (ci := 12) (q0 := 0) rfl rfl) rfl rfl hl.1 rfl (lv_room (Nat.le_of_ble_eq_true rfl)) dL_law_336 ⟨(show cells + 0 ≤ 600000 by omega), (show slots + 0 ≤ 7302250 by omega)⟩) hP hD hS hA (fun r25_ μ26_ H locs hq hP hD hS => ?_)
      rw [show μ26_ = μ from hq.symm] at hP hD
      refine W.widen (k := cells) (n := slots) (Nat.le_refl _) (Nat.le_refl _) ?_
      refine lv_pop hx hb dL_law_339 rfl ?_
      refine lv_goto (tgt := 1273) hx hb dL_law_340 (by decide) ?_
      have hG9_ : LG dC dI A s κ φ ψ σ h ad cl μ H locs := ⟨hP, hD, hS, hKm, hKx, hk, hI, hF, hM, hRI⟩
      exact kk _ _ _ _ _ _ _ cells slots hG9_ rfl (by omega) (by omega)
set_option maxHeartbeats 4000000 in
set_option maxRecDepth 100000 in
theorem law_5 {p : Program} {l : Launch} {e : Env} {s : State} {m : MethodId} {below : List Frame} {meth : Method} {c : Code} {b L : Nat} {xs : Nat → Int32} (C0 : lw_At p s m meth c b L xs) (hE : Ey s) {A : Nat → Prop} (hAe : A = fun q : Nat => s.heap.size ≤ q) {dC : Nat → ClassId} {dI : Nat → Nat → Nat} {adK adV : Nat → Nat} (hZ : Zs adK adV A s s.heap) (hR : Rs adK s) {κ : CE} {φ ψ σ : MS} {h : Nat} {ad : Nat → Nat} {cl : Nat → ClassId} {μ : MS} {H : Heap} {locs : List Loc} {cells slots : Nat} {i : Int32} {ls : Array Slot} (hi : 0 ≤ i.toInt ∧ i.toInt + 5 < (L : Int) ∧ L ≤ 3072) (hc : cells + 1011 ≤ 600000 ∧ slots + 43534 ≤ 7302250) (G : LG dC dI A s κ φ ψ σ h ad cl μ H locs) (hl : lv_has ls 4 [(3, .int i), (1, .ref (kA κ 0)), (2, .ref h), (0, .ref b)]) {Q : State → Prop}
    (kk : ∀ (κ' : CE) (φ' ψ' σ' μ' : MS) (H' : Heap) (locs' : List Loc) (c' t' : Nat), LG dC dI A s κ' φ' ψ' σ' h ad cl μ' H' locs' → kA κ' 0 = kA κ 0 → c' + 3 * bc κ ≤ cells + 1008 + 3 * bc κ' → t' + 32489 * bc κ ≤ slots + 11045 + 32489 * bc κ' → W p l e room_1 s m #[Value.ref b] below meth c H' locs' c' t' Q (F0 m 1273 ls [])) : W p l e room_1 s m #[Value.ref b] below meth c H locs cells slots Q (F0 m 343 ls []) := by
  obtain ⟨hx, hb, hr, hml, hown, hts, hX, hbl, hlocks, hgv⟩ := id C0
  have hA : ∀ q : Nat, s.heap.size ≤ q → A q := fun q h => by rw [hAe]; exact h
  have hbA : ¬ A b := by rw [hAe]; exact Nat.not_le.mpr hbl
  obtain ⟨hP, hD, hS, hKm, hKx, hk, hI, hF, hM, hRI⟩ := G
  have hKc : va_K (dC, dI) vwCl (cT κ) s := hKx.sub [0, 1, 2, 3, 4, 5, 6, 7, 8, 9, 10, 11, 12, 13, 14, 15, 16, 17, 18, 19, 20] rfl
  refine lv_aload_n hx hb dL_law_343 rfl (lv_at hl 1 rfl) ?_
  refine lv_aload_n hx hb dL_law_344 rfl (lv_at hl 3 rfl) ?_
  refine lv_iload_n hx hb dL_law_345 rfl (lv_at hl 0 rfl) ?_
  refine lv_iconst (v := 1) hx hb dL_law_346 (by decide) ?_
  refine lv_iadd hx hb dL_law_347 ?_
  refine lv_topi (fun z1_ ez1_ => ?_)
  have tz1_ : z1_.toInt = i.toInt + 1 := ti_add ez1_ rfl (by decide) (by omega) (by omega)
  refine va_sld hx hb hX hbl hbA hS (sx_in tz1_ hi.1 (by decide) (by omega)) dL_law_348 ?_
  refine lv_topi (fun y2_ ey2_ => ?_)
  refine lv_if_eq (tgt := 356) hx hb dL_law_349 rfl (fun _ => ?_) (fun _ => ?_)
  · refine lv_iconst (v := 0) hx hb dL_law_356 (by decide) ?_
    refine zc_i (wr := (mW h ad cl μ)) (wc := (xW κ (xX κ φ ψ) σ)) (va_runV (As := [.int 0]) (rest := []) ⟨hx, hb, hml, hown, hts⟩ (v_sheet l dC dI κ H.size φ ψ σ (0) hk hI hF ) (cwV 1 hts gl_v_sheet rfl rfl rfl dd_v_sheet ⟨Nat.le_of_ble_eq_true rfl, Nat.le_of_ble_eq_true rfl⟩) (preVy (rP hP) hKx (rD hD) hE (ci := 11) (q0 := 0) rfl rfl) rfl rfl hl.1 rfl (lv_room (Nat.le_of_ble_eq_true rfl)) dL_law_357 ⟨(show cells + 0 ≤ 600000 by omega), (show slots + 0 ≤ 7302250 by omega)⟩) hP hD hS hA (fun r4_ u5_ H locs hq hKn_ hP hD hS => ?_)
    obtain ⟨φ7_, ψ8_, τ9_⟩ := u5_
    obtain ⟨hτ9_, hφ7_, qτ9_⟩ := hq
    have hP : va_P (dC, dI) vwCl ((mW h ad cl μ) ++ (xW κ (xX κ φ7_ ψ8_) τ9_)) H := hP
    have hD : va_D A ((mW h ad cl μ) ++ (xW κ (xX κ φ7_ ψ8_) τ9_)) := hD
    refine W.widen (k := cells) (n := slots) (Nat.le_refl _) (Nat.le_refl _) ?_
    refine lv_pop hx hb dL_law_360 rfl ?_
    refine lv_aload_n hx hb dL_law_361 rfl (lv_at hl 2 rfl) ?_
    refine lv_aload_n hx hb dL_law_362 rfl (lv_at hl 3 rfl) ?_
    refine lv_iload_n hx hb dL_law_363 rfl (lv_at hl 0 rfl) ?_
    refine lv_iconst (v := 1) hx hb dL_law_364 (by decide) ?_
    refine lv_iadd hx hb dL_law_365 ?_
    refine lv_topi (fun z10_ ez10_ => ?_)
    have tz10_ : z10_.toInt = i.toInt + 1 := ti_add ez10_ rfl (by decide) (by omega) (by omega)
    refine va_sld hx hb hX hbl hbA hS (sx_in tz10_ hi.1 (by decide) (by omega)) dL_law_366 ?_
    refine lv_topi (fun y11_ ey11_ => ?_)
    have qy11_ : y11_ = y2_ := by rw [ey11_, ey2_, show z10_ = z1_ from Int32.toInt_inj.mp (by omega)]
    refine lv_if_eq (tgt := 374) hx hb dL_law_367 rfl (fun _ => ?_) (fun _ => ?_)
    · refine lv_iconst (v := 0) hx hb dL_law_374 (by decide) ?_
      refine zp_i (wc := (mW h ad cl μ)) (wr := (xW κ (xX κ φ7_ ψ8_) τ9_)) (va_runV (As := [.int 0]) (rest := []) ⟨hx, hb, hml, hown, hts⟩ (n_sheetV l dC dI h ad cl H.size μ (0) hM) (cwV 1 hts gl_n_sheetV rfl rfl rfl dd_n_sheetV ⟨Nat.le_of_ble_eq_true rfl, Nat.le_of_ble_eq_true rfl⟩) (preV (lP hP) hKm (lD hD) hE.x (ci := 12) (q0 := 0) rfl rfl) rfl rfl hl.1 rfl (lv_room (Nat.le_of_ble_eq_true rfl)) dL_law_375 ⟨(show cells + 0 ≤ 600000 by omega), (show slots + 0 ≤ 7302250 by omega)⟩) hP hD hS hA (fun r12_ μ13_ H locs hq hP hD hS => ?_)
      obtain ⟨hμ13_, xμ13_, f14_⟩ := hq
      have iμ13_ : RI μ13_ := RI_sheet hM hRI xμ13_ (f14_ hRI.1 hRI.2.2.2)
      refine W.widen (k := cells) (n := slots) (Nat.le_refl _) (Nat.le_refl _) ?_
      refine lv_pop hx hb dL_law_378 rfl ?_
      refine lv_goto (tgt := 1273) hx hb dL_law_379 (by decide) ?_
      have hG9_ : LG dC dI A s κ φ7_ ψ8_ τ9_ h ad cl μ13_ H locs := ⟨hP, hD, hS, hKm, hKx, hk, hτ9_, hφ7_, hμ13_, iμ13_⟩
      exact kk _ _ _ _ _ _ _ cells slots hG9_ rfl (by omega) (by omega)
    · refine lv_iconst (v := 1) hx hb dL_law_370 (by decide) ?_
      refine lv_goto (tgt := 375) hx hb dL_law_371 (by decide) ?_
      refine zp_i (wc := (mW h ad cl μ)) (wr := (xW κ (xX κ φ7_ ψ8_) τ9_)) (va_runV (As := [.int 1]) (rest := []) ⟨hx, hb, hml, hown, hts⟩ (n_sheetV l dC dI h ad cl H.size μ (1) hM) (cwV 1 hts gl_n_sheetV rfl rfl rfl dd_n_sheetV ⟨Nat.le_of_ble_eq_true rfl, Nat.le_of_ble_eq_true rfl⟩) (preV (lP hP) hKm (lD hD) hE.x (ci := 12) (q0 := 0) rfl rfl) rfl rfl hl.1 rfl (lv_room (Nat.le_of_ble_eq_true rfl)) dL_law_375 ⟨(show cells + 0 ≤ 600000 by omega), (show slots + 0 ≤ 7302250 by omega)⟩) hP hD hS hA (fun r15_ μ16_ H locs hq hP hD hS => ?_)
      obtain ⟨hμ16_, xμ16_, f17_⟩ := hq
      have iμ16_ : RI μ16_ := RI_sheet hM hRI xμ16_ (f17_ hRI.1 hRI.2.2.2)
      refine W.widen (k := cells) (n := slots) (Nat.le_refl _) (Nat.le_refl _) ?_
      refine lv_pop hx hb dL_law_378 rfl ?_
      refine lv_goto (tgt := 1273) hx hb dL_law_379 (by decide) ?_
      have hG9_ : LG dC dI A s κ φ7_ ψ8_ τ9_ h ad cl μ16_ H locs := ⟨hP, hD, hS, hKm, hKx, hk, hτ9_, hφ7_, hμ16_, iμ16_⟩
      exact kk _ _ _ _ _ _ _ cells slots hG9_ rfl (by omega) (by omega)
  · refine lv_iconst (v := 1) hx hb dL_law_352 (by decide) ?_
    refine lv_goto (tgt := 357) hx hb dL_law_353 (by decide) ?_
    refine zc_i (wr := (mW h ad cl μ)) (wc := (xW κ (xX κ φ ψ) σ)) (va_runV (As := [.int 1]) (rest := []) ⟨hx, hb, hml, hown, hts⟩ (v_sheet l dC dI κ H.size φ ψ σ (1) hk hI hF ) (cwV 1 hts gl_v_sheet rfl rfl rfl dd_v_sheet ⟨Nat.le_of_ble_eq_true rfl, Nat.le_of_ble_eq_true rfl⟩) (preVy (rP hP) hKx (rD hD) hE (ci := 11) (q0 := 0) rfl rfl) rfl rfl hl.1 rfl (lv_room (Nat.le_of_ble_eq_true rfl)) dL_law_357 ⟨(show cells + 0 ≤ 600000 by omega), (show slots + 0 ≤ 7302250 by omega)⟩) hP hD hS hA (fun r19_ u20_ H locs hq hKn_ hP hD hS => ?_)
    obtain ⟨φ22_, ψ23_, τ24_⟩ := u20_
    obtain ⟨hτ24_, hφ22_, qτ24_⟩ := hq
    have hP : va_P (dC, dI) vwCl ((mW h ad cl μ) ++ (xW κ (xX κ φ22_ ψ23_) τ24_)) H := hP
    have hD : va_D A ((mW h ad cl μ) ++ (xW κ (xX κ φ22_ ψ23_) τ24_)) := hD
    refine W.widen (k := cells) (n := slots) (Nat.le_refl _) (Nat.le_refl _) ?_
    refine lv_pop hx hb dL_law_360 rfl ?_
    refine lv_aload_n hx hb dL_law_361 rfl (lv_at hl 2 rfl) ?_
    refine lv_aload_n hx hb dL_law_362 rfl (lv_at hl 3 rfl) ?_
    refine lv_iload_n hx hb dL_law_363 rfl (lv_at hl 0 rfl) ?_
    refine lv_iconst (v := 1) hx hb dL_law_364 (by decide) ?_
    refine lv_iadd hx hb dL_law_365 ?_
    refine lv_topi (fun z25_ ez25_ => ?_)
    have tz25_ : z25_.toInt = i.toInt + 1 := ti_add ez25_ rfl (by decide) (by omega) (by omega)
    refine va_sld hx hb hX hbl hbA hS (sx_in tz25_ hi.1 (by decide) (by omega)) dL_law_366 ?_
    refine lv_topi (fun y26_ ey26_ => ?_)
    have qy26_ : y26_ = y2_ := by rw [ey26_, ey2_, show z25_ = z1_ from Int32.toInt_inj.mp (by omega)]
    refine lv_if_eq (tgt := 374) hx hb dL_law_367 rfl (fun _ => ?_) (fun _ => ?_)
    · refine lv_iconst (v := 0) hx hb dL_law_374 (by decide) ?_
      refine zp_i (wc := (mW h ad cl μ)) (wr := (xW κ (xX κ φ22_ ψ23_) τ24_)) (va_runV (As := [.int 0]) (rest := []) ⟨hx, hb, hml, hown, hts⟩ (n_sheetV l dC dI h ad cl H.size μ (0) hM) (cwV 1 hts gl_n_sheetV rfl rfl rfl dd_n_sheetV ⟨Nat.le_of_ble_eq_true rfl, Nat.le_of_ble_eq_true rfl⟩) (preV (lP hP) hKm (lD hD) hE.x (ci := 12) (q0 := 0) rfl rfl) rfl rfl hl.1 rfl (lv_room (Nat.le_of_ble_eq_true rfl)) dL_law_375 ⟨(show cells + 0 ≤ 600000 by omega), (show slots + 0 ≤ 7302250 by omega)⟩) hP hD hS hA (fun r27_ μ28_ H locs hq hP hD hS => ?_)
      obtain ⟨hμ28_, xμ28_, f29_⟩ := hq
      have iμ28_ : RI μ28_ := RI_sheet hM hRI xμ28_ (f29_ hRI.1 hRI.2.2.2)
      refine W.widen (k := cells) (n := slots) (Nat.le_refl _) (Nat.le_refl _) ?_
      refine lv_pop hx hb dL_law_378 rfl ?_
      refine lv_goto (tgt := 1273) hx hb dL_law_379 (by decide) ?_
      have hG9_ : LG dC dI A s κ φ22_ ψ23_ τ24_ h ad cl μ28_ H locs := ⟨hP, hD, hS, hKm, hKx, hk, hτ24_, hφ22_, hμ28_, iμ28_⟩
      exact kk _ _ _ _ _ _ _ cells slots hG9_ rfl (by omega) (by omega)
    · refine lv_iconst (v := 1) hx hb dL_law_370 (by decide) ?_
      refine lv_goto (tgt := 375) hx hb dL_law_371 (by decide) ?_
      refine zp_i (wc := (mW h ad cl μ)) (wr := (xW κ (xX κ φ22_ ψ23_) τ24_)) (va_runV (As := [.int 1]) (rest := []) ⟨hx, hb, hml, hown, hts⟩ (n_sheetV l dC dI h ad cl H.size μ (1) hM) (cwV 1 hts gl_n_sheetV rfl rfl rfl dd_n_sheetV ⟨Nat.le_of_ble_eq_true rfl, Nat.le_of_ble_eq_true rfl⟩) (preV (lP hP) hKm (lD hD) hE.x (ci := 12) (q0 := 0) rfl rfl) rfl rfl hl.1 rfl (lv_room (Nat.le_of_ble_eq_true rfl)) dL_law_375 ⟨(show cells + 0 ≤ 600000 by omega), (show slots + 0 ≤ 7302250 by omega)⟩) hP hD hS hA (fun r30_ μ31_ H locs hq hP hD hS => ?_)
      obtain ⟨hμ31_, xμ31_, f32_⟩ := hq
      have iμ31_ : RI μ31_ := RI_sheet hM hRI xμ31_ (f32_ hRI.1 hRI.2.2.2)
      refine W.widen (k := cells) (n := slots) (Nat.le_refl _) (Nat.le_refl _) ?_
      refine lv_pop hx hb dL_law_378 rfl ?_
      refine lv_goto (tgt := 1273) hx hb dL_law_379 (by decide) ?_
      have hG9_ : LG dC dI A s κ φ22_ ψ23_ τ24_ h ad cl μ31_ H locs := ⟨hP, hD, hS, hKm, hKx, hk, hτ24_, hφ22_, hμ31_, iμ31_⟩
      exact kk _ _ _ _ _ _ _ cells slots hG9_ rfl (by omega) (by omega)
set_option maxHeartbeats 4000000 in
set_option maxRecDepth 100000 in
theorem law_6 {p : Program} {l : Launch} {e : Env} {s : State} {m : MethodId} {below : List Frame} {meth : Method} {c : Code} {b L : Nat} {xs : Nat → Int32} (C0 : lw_At p s m meth c b L xs) (hE : Ey s) {A : Nat → Prop} (hAe : A = fun q : Nat => s.heap.size ≤ q) {dC : Nat → ClassId} {dI : Nat → Nat → Nat} {adK adV : Nat → Nat} (hZ : Zs adK adV A s s.heap) (hR : Rs adK s) {κ : CE} {φ ψ σ : MS} {h : Nat} {ad : Nat → Nat} {cl : Nat → ClassId} {μ : MS} {H : Heap} {locs : List Loc} {cells slots : Nat} {i : Int32} {ls : Array Slot} (hi : 0 ≤ i.toInt ∧ i.toInt + 5 < (L : Int) ∧ L ≤ 3072) (hc : cells + 1011 ≤ 600000 ∧ slots + 43534 ≤ 7302250) (G : LG dC dI A s κ φ ψ σ h ad cl μ H locs) (hl : lv_has ls 4 [(3, .int i), (1, .ref (kA κ 0)), (2, .ref h), (0, .ref b)]) {Q : State → Prop}
    (kk : ∀ (κ' : CE) (φ' ψ' σ' μ' : MS) (H' : Heap) (locs' : List Loc) (c' t' : Nat), LG dC dI A s κ' φ' ψ' σ' h ad cl μ' H' locs' → kA κ' 0 = kA κ 0 → c' + 3 * bc κ ≤ cells + 1008 + 3 * bc κ' → t' + 32489 * bc κ ≤ slots + 11045 + 32489 * bc κ' → W p l e room_1 s m #[Value.ref b] below meth c H' locs' c' t' Q (F0 m 1273 ls [])) : W p l e room_1 s m #[Value.ref b] below meth c H locs cells slots Q (F0 m 382 ls []) := by
  obtain ⟨hx, hb, hr, hml, hown, hts, hX, hbl, hlocks, hgv⟩ := id C0
  have hA : ∀ q : Nat, s.heap.size ≤ q → A q := fun q h => by rw [hAe]; exact h
  have hbA : ¬ A b := by rw [hAe]; exact Nat.not_le.mpr hbl
  obtain ⟨hP, hD, hS, hKm, hKx, hk, hI, hF, hM, hRI⟩ := G
  have hKc : va_K (dC, dI) vwCl (cT κ) s := hKx.sub [0, 1, 2, 3, 4, 5, 6, 7, 8, 9, 10, 11, 12, 13, 14, 15, 16, 17, 18, 19, 20] rfl
  refine lv_aload_n hx hb dL_law_382 rfl (lv_at hl 1 rfl) ?_
  refine lv_aload_n hx hb dL_law_383 rfl (lv_at hl 3 rfl) ?_
  refine lv_iload_n hx hb dL_law_384 rfl (lv_at hl 0 rfl) ?_
  refine lv_iconst (v := 1) hx hb dL_law_385 (by decide) ?_
  refine lv_iadd hx hb dL_law_386 ?_
  refine lv_topi (fun z1_ ez1_ => ?_)
  have tz1_ : z1_.toInt = i.toInt + 1 := ti_add ez1_ rfl (by decide) (by omega) (by omega)
  refine va_sld hx hb hX hbl hbA hS (sx_in tz1_ hi.1 (by decide) (by omega)) dL_law_387 ?_
  refine lv_topi (fun y2_ ey2_ => ?_)
  refine lv_aload_n hx hb dL_law_388 rfl (lv_at hl 3 rfl) ?_
  refine lv_iload_n hx hb dL_law_389 rfl (lv_at hl 0 rfl) ?_
  refine lv_iconst (v := 2) hx hb dL_law_390 (by decide) ?_
  refine lv_iadd hx hb dL_law_391 ?_
  refine lv_topi (fun z3_ ez3_ => ?_)
  have tz3_ : z3_.toInt = i.toInt + 2 := ti_add ez3_ rfl (by decide) (by omega) (by omega)
  refine va_sld hx hb hX hbl hbA hS (sx_in tz3_ hi.1 (by decide) (by omega)) dL_law_392 ?_
  refine lv_topi (fun y4_ ey4_ => ?_)
  refine lv_aload_n hx hb dL_law_393 rfl (lv_at hl 3 rfl) ?_
  refine lv_iload_n hx hb dL_law_394 rfl (lv_at hl 0 rfl) ?_
  refine lv_iconst (v := 3) hx hb dL_law_395 (by decide) ?_
  refine lv_iadd hx hb dL_law_396 ?_
  refine lv_topi (fun z5_ ez5_ => ?_)
  have tz5_ : z5_.toInt = i.toInt + 3 := ti_add ez5_ rfl (by decide) (by omega) (by omega)
  refine va_sld hx hb hX hbl hbA hS (sx_in tz5_ hi.1 (by decide) (by omega)) dL_law_397 ?_
  refine lv_topi (fun y6_ ey6_ => ?_)
  refine lv_aload_n hx hb dL_law_398 rfl (lv_at hl 3 rfl) ?_
  refine lv_iload_n hx hb dL_law_399 rfl (lv_at hl 0 rfl) ?_
  refine lv_iconst (v := 4) hx hb dL_law_400 (by decide) ?_
  refine lv_iadd hx hb dL_law_401 ?_
  refine lv_topi (fun z7_ ez7_ => ?_)
  have tz7_ : z7_.toInt = i.toInt + 4 := ti_add ez7_ rfl (by decide) (by omega) (by omega)
  refine va_sld hx hb hX hbl hbA hS (sx_in tz7_ hi.1 (by decide) (by omega)) dL_law_402 ?_
  refine lv_topi (fun y8_ ey8_ => ?_)
  refine zc_i (wr := (mW h ad cl μ)) (wc := (xW κ (xX κ φ ψ) σ)) (va_runV (As := [.int y2_, .int y4_, .int y6_, .int y8_]) (rest := []) ⟨hx, hb, hml, hown, hts⟩ (v_put l dC dI κ H.size φ ψ σ y2_ y4_ y6_ y8_ hk hI hF ) (cwV 4 hts gl_v_put rfl rfl rfl dd_v_put ⟨Nat.le_of_ble_eq_true rfl, Nat.le_of_ble_eq_true rfl⟩) (preVy (rP hP) hKx (rD hD) hE (ci := 11) (q0 := 0) rfl rfl) rfl rfl hl.1 rfl (lv_room (Nat.le_of_ble_eq_true rfl)) dL_law_403 ⟨(show cells + 0 ≤ 600000 by omega), (show slots + 0 ≤ 7302250 by omega)⟩) hP hD hS hA (fun r10_ u11_ H locs hq hKn_ hP hD hS => ?_)
  obtain ⟨φ13_, ψ14_, τ15_⟩ := u11_
  obtain ⟨hτ15_, hφ13_, qτ15_⟩ := hq
  have hP : va_P (dC, dI) vwCl ((mW h ad cl μ) ++ (xW κ (xX κ φ13_ ψ14_) τ15_)) H := hP
  have hD : va_D A ((mW h ad cl μ) ++ (xW κ (xX κ φ13_ ψ14_) τ15_)) := hD
  refine W.widen (k := cells) (n := slots) (Nat.le_refl _) (Nat.le_refl _) ?_
  refine lv_pop hx hb dL_law_406 rfl ?_
  refine lv_aload_n hx hb dL_law_407 rfl (lv_at hl 2 rfl) ?_
  refine lv_aload_n hx hb dL_law_408 rfl (lv_at hl 3 rfl) ?_
  refine lv_iload_n hx hb dL_law_409 rfl (lv_at hl 0 rfl) ?_
  refine lv_iconst (v := 1) hx hb dL_law_410 (by decide) ?_
  refine lv_iadd hx hb dL_law_411 ?_
  refine lv_topi (fun z16_ ez16_ => ?_)
  have tz16_ : z16_.toInt = i.toInt + 1 := ti_add ez16_ rfl (by decide) (by omega) (by omega)
  refine va_sld hx hb hX hbl hbA hS (sx_in tz16_ hi.1 (by decide) (by omega)) dL_law_412 ?_
  refine lv_topi (fun y17_ ey17_ => ?_)
  have qy17_ : y17_ = y2_ := by rw [ey17_, ey2_, show z16_ = z1_ from Int32.toInt_inj.mp (by omega)]
  refine lv_aload_n hx hb dL_law_413 rfl (lv_at hl 3 rfl) ?_
  refine lv_iload_n hx hb dL_law_414 rfl (lv_at hl 0 rfl) ?_
  refine lv_iconst (v := 2) hx hb dL_law_415 (by decide) ?_
  refine lv_iadd hx hb dL_law_416 ?_
  refine lv_topi (fun z18_ ez18_ => ?_)
  have tz18_ : z18_.toInt = i.toInt + 2 := ti_add ez18_ rfl (by decide) (by omega) (by omega)
  refine va_sld hx hb hX hbl hbA hS (sx_in tz18_ hi.1 (by decide) (by omega)) dL_law_417 ?_
  refine lv_topi (fun y19_ ey19_ => ?_)
  have qy19_ : y19_ = y4_ := by rw [ey19_, ey4_, show z18_ = z3_ from Int32.toInt_inj.mp (by omega)]
  refine lv_aload_n hx hb dL_law_418 rfl (lv_at hl 3 rfl) ?_
  refine lv_iload_n hx hb dL_law_419 rfl (lv_at hl 0 rfl) ?_
  refine lv_iconst (v := 3) hx hb dL_law_420 (by decide) ?_
  refine lv_iadd hx hb dL_law_421 ?_
  refine lv_topi (fun z20_ ez20_ => ?_)
  have tz20_ : z20_.toInt = i.toInt + 3 := ti_add ez20_ rfl (by decide) (by omega) (by omega)
  refine va_sld hx hb hX hbl hbA hS (sx_in tz20_ hi.1 (by decide) (by omega)) dL_law_422 ?_
  refine lv_topi (fun y21_ ey21_ => ?_)
  have qy21_ : y21_ = y6_ := by rw [ey21_, ey6_, show z20_ = z5_ from Int32.toInt_inj.mp (by omega)]
  refine lv_aload_n hx hb dL_law_423 rfl (lv_at hl 3 rfl) ?_
  refine lv_iload_n hx hb dL_law_424 rfl (lv_at hl 0 rfl) ?_
  refine lv_iconst (v := 4) hx hb dL_law_425 (by decide) ?_
  refine lv_iadd hx hb dL_law_426 ?_
  refine lv_topi (fun z22_ ez22_ => ?_)
  have tz22_ : z22_.toInt = i.toInt + 4 := ti_add ez22_ rfl (by decide) (by omega) (by omega)
  refine va_sld hx hb hX hbl hbA hS (sx_in tz22_ hi.1 (by decide) (by omega)) dL_law_427 ?_
  refine lv_topi (fun y23_ ey23_ => ?_)
  have qy23_ : y23_ = y8_ := by rw [ey23_, ey8_, show z22_ = z7_ from Int32.toInt_inj.mp (by omega)]
  refine zp_i (wc := (mW h ad cl μ)) (wr := (xW κ (xX κ φ13_ ψ14_) τ15_)) (va_runV (As := [.int y17_, .int y19_, .int y21_, .int y23_]) (rest := []) ⟨hx, hb, hml, hown, hts⟩ (n_putV l dC dI h ad cl H.size μ y17_ y19_ y21_ y23_ hM) (cwV 4 hts gl_n_putV rfl rfl rfl dd_n_putV ⟨Nat.le_of_ble_eq_true rfl, Nat.le_of_ble_eq_true rfl⟩) (preV (lP hP) hKm (lD hD) hE.x (ci := 12) (q0 := 0) rfl rfl) rfl rfl hl.1 rfl (lv_room (Nat.le_of_ble_eq_true rfl)) dL_law_428 ⟨(show cells + 0 ≤ 600000 by omega), (show slots + 0 ≤ 7302250 by omega)⟩) hP hD hS hA (fun r24_ μ25_ H locs hq hP hD hS => ?_)
  obtain ⟨hμ25_, xμ25_, f26_⟩ := hq
  have iμ25_ : RI μ25_ := RI_put hM hRI xμ25_ (f26_ hRI.2.2.2)
  refine W.widen (k := cells) (n := slots) (Nat.le_refl _) (Nat.le_refl _) ?_
  refine lv_pop hx hb dL_law_431 rfl ?_
  refine lv_goto (tgt := 1273) hx hb dL_law_432 (by decide) ?_
  have hG9_ : LG dC dI A s κ φ13_ ψ14_ τ15_ h ad cl μ25_ H locs := ⟨hP, hD, hS, hKm, hKx, hk, hτ15_, hφ13_, hμ25_, iμ25_⟩
  exact kk _ _ _ _ _ _ _ cells slots hG9_ rfl (by omega) (by omega)
set_option maxHeartbeats 4000000 in
set_option maxRecDepth 100000 in
theorem law_7 {p : Program} {l : Launch} {e : Env} {s : State} {m : MethodId} {below : List Frame} {meth : Method} {c : Code} {b L : Nat} {xs : Nat → Int32} (C0 : lw_At p s m meth c b L xs) (hE : Ey s) {A : Nat → Prop} (hAe : A = fun q : Nat => s.heap.size ≤ q) {dC : Nat → ClassId} {dI : Nat → Nat → Nat} {adK adV : Nat → Nat} (hZ : Zs adK adV A s s.heap) (hR : Rs adK s) {κ : CE} {φ ψ σ : MS} {h : Nat} {ad : Nat → Nat} {cl : Nat → ClassId} {μ : MS} {H : Heap} {locs : List Loc} {cells slots : Nat} {i : Int32} {ls : Array Slot} (hi : 0 ≤ i.toInt ∧ i.toInt + 5 < (L : Int) ∧ L ≤ 3072) (hc : cells + 1011 ≤ 600000 ∧ slots + 43534 ≤ 7302250) (G : LG dC dI A s κ φ ψ σ h ad cl μ H locs) (hl : lv_has ls 4 [(3, .int i), (1, .ref (kA κ 0)), (2, .ref h), (0, .ref b)]) {Q : State → Prop}
    (kk : ∀ (κ' : CE) (φ' ψ' σ' μ' : MS) (H' : Heap) (locs' : List Loc) (c' t' : Nat), LG dC dI A s κ' φ' ψ' σ' h ad cl μ' H' locs' → kA κ' 0 = kA κ 0 → c' + 3 * bc κ ≤ cells + 1008 + 3 * bc κ' → t' + 32489 * bc κ ≤ slots + 11045 + 32489 * bc κ' → W p l e room_1 s m #[Value.ref b] below meth c H' locs' c' t' Q (F0 m 1273 ls [])) : W p l e room_1 s m #[Value.ref b] below meth c H locs cells slots Q (F0 m 435 ls []) := by
  obtain ⟨hx, hb, hr, hml, hown, hts, hX, hbl, hlocks, hgv⟩ := id C0
  have hA : ∀ q : Nat, s.heap.size ≤ q → A q := fun q h => by rw [hAe]; exact h
  have hbA : ¬ A b := by rw [hAe]; exact Nat.not_le.mpr hbl
  obtain ⟨hP, hD, hS, hKm, hKx, hk, hI, hF, hM, hRI⟩ := G
  have hKc : va_K (dC, dI) vwCl (cT κ) s := hKx.sub [0, 1, 2, 3, 4, 5, 6, 7, 8, 9, 10, 11, 12, 13, 14, 15, 16, 17, 18, 19, 20] rfl
  refine lv_aload_n hx hb dL_law_435 rfl (lv_at hl 1 rfl) ?_
  refine lv_aload_n hx hb dL_law_436 rfl (lv_at hl 3 rfl) ?_
  refine lv_iload_n hx hb dL_law_437 rfl (lv_at hl 0 rfl) ?_
  refine lv_iconst (v := 1) hx hb dL_law_438 (by decide) ?_
  refine lv_iadd hx hb dL_law_439 ?_
  refine lv_topi (fun z1_ ez1_ => ?_)
  have tz1_ : z1_.toInt = i.toInt + 1 := ti_add ez1_ rfl (by decide) (by omega) (by omega)
  refine va_sld hx hb hX hbl hbA hS (sx_in tz1_ hi.1 (by decide) (by omega)) dL_law_440 ?_
  refine lv_topi (fun y2_ ey2_ => ?_)
  refine lv_aload_n hx hb dL_law_441 rfl (lv_at hl 3 rfl) ?_
  refine lv_iload_n hx hb dL_law_442 rfl (lv_at hl 0 rfl) ?_
  refine lv_iconst (v := 2) hx hb dL_law_443 (by decide) ?_
  refine lv_iadd hx hb dL_law_444 ?_
  refine lv_topi (fun z3_ ez3_ => ?_)
  have tz3_ : z3_.toInt = i.toInt + 2 := ti_add ez3_ rfl (by decide) (by omega) (by omega)
  refine va_sld hx hb hX hbl hbA hS (sx_in tz3_ hi.1 (by decide) (by omega)) dL_law_445 ?_
  refine lv_topi (fun y4_ ey4_ => ?_)
  refine lv_aload_n hx hb dL_law_446 rfl (lv_at hl 3 rfl) ?_
  refine lv_iload_n hx hb dL_law_447 rfl (lv_at hl 0 rfl) ?_
  refine lv_iconst (v := 3) hx hb dL_law_448 (by decide) ?_
  refine lv_iadd hx hb dL_law_449 ?_
  refine lv_topi (fun z5_ ez5_ => ?_)
  have tz5_ : z5_.toInt = i.toInt + 3 := ti_add ez5_ rfl (by decide) (by omega) (by omega)
  refine va_sld hx hb hX hbl hbA hS (sx_in tz5_ hi.1 (by decide) (by omega)) dL_law_450 ?_
  refine lv_topi (fun y6_ ey6_ => ?_)
  refine lv_aload_n hx hb dL_law_451 rfl (lv_at hl 3 rfl) ?_
  refine lv_iload_n hx hb dL_law_452 rfl (lv_at hl 0 rfl) ?_
  refine lv_iconst (v := 4) hx hb dL_law_453 (by decide) ?_
  refine lv_iadd hx hb dL_law_454 ?_
  refine lv_topi (fun z7_ ez7_ => ?_)
  have tz7_ : z7_.toInt = i.toInt + 4 := ti_add ez7_ rfl (by decide) (by omega) (by omega)
  refine va_sld hx hb hX hbl hbA hS (sx_in tz7_ hi.1 (by decide) (by omega)) dL_law_455 ?_
  refine lv_topi (fun y8_ ey8_ => ?_)
  refine zc_i (wr := (mW h ad cl μ)) (wc := (xW κ (xX κ φ ψ) σ)) (va_runV (As := [.int y2_, .int y4_, .int y6_, .int y8_]) (rest := []) ⟨hx, hb, hml, hown, hts⟩ (v_change l dC dI κ H.size φ ψ σ y2_ y4_ y6_ y8_ hk hI hF ) (cwV 4 hts gl_v_change rfl rfl rfl dd_v_change ⟨Nat.le_of_ble_eq_true rfl, Nat.le_of_ble_eq_true rfl⟩) (preVy (rP hP) hKx (rD hD) hE (ci := 11) (q0 := 0) rfl rfl) rfl rfl hl.1 rfl (lv_room (Nat.le_of_ble_eq_true rfl)) dL_law_456 ⟨(show cells + 0 ≤ 600000 by omega), (show slots + 0 ≤ 7302250 by omega)⟩) hP hD hS hA (fun r10_ u11_ H locs hq hKn_ hP hD hS => ?_)
  obtain ⟨φ13_, ψ14_, τ15_⟩ := u11_
  obtain ⟨hτ15_, hφ13_, qτ15_⟩ := hq
  have hP : va_P (dC, dI) vwCl ((mW h ad cl μ) ++ (xW κ (xX κ φ13_ ψ14_) τ15_)) H := hP
  have hD : va_D A ((mW h ad cl μ) ++ (xW κ (xX κ φ13_ ψ14_) τ15_)) := hD
  refine W.widen (k := cells) (n := slots) (Nat.le_refl _) (Nat.le_refl _) ?_
  refine lv_pop hx hb dL_law_459 rfl ?_
  refine lv_aload_n hx hb dL_law_460 rfl (lv_at hl 2 rfl) ?_
  refine lv_aload_n hx hb dL_law_461 rfl (lv_at hl 3 rfl) ?_
  refine lv_iload_n hx hb dL_law_462 rfl (lv_at hl 0 rfl) ?_
  refine lv_iconst (v := 1) hx hb dL_law_463 (by decide) ?_
  refine lv_iadd hx hb dL_law_464 ?_
  refine lv_topi (fun z16_ ez16_ => ?_)
  have tz16_ : z16_.toInt = i.toInt + 1 := ti_add ez16_ rfl (by decide) (by omega) (by omega)
  refine va_sld hx hb hX hbl hbA hS (sx_in tz16_ hi.1 (by decide) (by omega)) dL_law_465 ?_
  refine lv_topi (fun y17_ ey17_ => ?_)
  have qy17_ : y17_ = y2_ := by rw [ey17_, ey2_, show z16_ = z1_ from Int32.toInt_inj.mp (by omega)]
  refine lv_aload_n hx hb dL_law_466 rfl (lv_at hl 3 rfl) ?_
  refine lv_iload_n hx hb dL_law_467 rfl (lv_at hl 0 rfl) ?_
  refine lv_iconst (v := 2) hx hb dL_law_468 (by decide) ?_
  refine lv_iadd hx hb dL_law_469 ?_
  refine lv_topi (fun z18_ ez18_ => ?_)
  have tz18_ : z18_.toInt = i.toInt + 2 := ti_add ez18_ rfl (by decide) (by omega) (by omega)
  refine va_sld hx hb hX hbl hbA hS (sx_in tz18_ hi.1 (by decide) (by omega)) dL_law_470 ?_
  refine lv_topi (fun y19_ ey19_ => ?_)
  have qy19_ : y19_ = y4_ := by rw [ey19_, ey4_, show z18_ = z3_ from Int32.toInt_inj.mp (by omega)]
  refine lv_aload_n hx hb dL_law_471 rfl (lv_at hl 3 rfl) ?_
  refine lv_iload_n hx hb dL_law_472 rfl (lv_at hl 0 rfl) ?_
  refine lv_iconst (v := 3) hx hb dL_law_473 (by decide) ?_
  refine lv_iadd hx hb dL_law_474 ?_
  refine lv_topi (fun z20_ ez20_ => ?_)
  have tz20_ : z20_.toInt = i.toInt + 3 := ti_add ez20_ rfl (by decide) (by omega) (by omega)
  refine va_sld hx hb hX hbl hbA hS (sx_in tz20_ hi.1 (by decide) (by omega)) dL_law_475 ?_
  refine lv_topi (fun y21_ ey21_ => ?_)
  have qy21_ : y21_ = y6_ := by rw [ey21_, ey6_, show z20_ = z5_ from Int32.toInt_inj.mp (by omega)]
  refine lv_aload_n hx hb dL_law_476 rfl (lv_at hl 3 rfl) ?_
  refine lv_iload_n hx hb dL_law_477 rfl (lv_at hl 0 rfl) ?_
  refine lv_iconst (v := 4) hx hb dL_law_478 (by decide) ?_
  refine lv_iadd hx hb dL_law_479 ?_
  refine lv_topi (fun z22_ ez22_ => ?_)
  have tz22_ : z22_.toInt = i.toInt + 4 := ti_add ez22_ rfl (by decide) (by omega) (by omega)
  refine va_sld hx hb hX hbl hbA hS (sx_in tz22_ hi.1 (by decide) (by omega)) dL_law_480 ?_
  refine lv_topi (fun y23_ ey23_ => ?_)
  have qy23_ : y23_ = y8_ := by rw [ey23_, ey8_, show z22_ = z7_ from Int32.toInt_inj.mp (by omega)]
  refine zp_i (wc := (mW h ad cl μ)) (wr := (xW κ (xX κ φ13_ ψ14_) τ15_)) (va_runV (As := [.int y17_, .int y19_, .int y21_, .int y23_]) (rest := []) ⟨hx, hb, hml, hown, hts⟩ (n_changeV l dC dI h ad cl H.size μ y17_ y19_ y21_ y23_ hM) (cwV 4 hts gl_n_changeV rfl rfl rfl dd_n_changeV ⟨Nat.le_of_ble_eq_true rfl, Nat.le_of_ble_eq_true rfl⟩) (preV (lP hP) hKm (lD hD) hE.x (ci := 12) (q0 := 0) rfl rfl) rfl rfl hl.1 rfl (lv_room (Nat.le_of_ble_eq_true rfl)) dL_law_481 ⟨(show cells + 0 ≤ 600000 by omega), (show slots + 0 ≤ 7302250 by omega)⟩) hP hD hS hA (fun r24_ μ25_ H locs hq hP hD hS => ?_)
  obtain ⟨hμ25_, xμ25_, f26_⟩ := hq
  have iμ25_ : RI μ25_ := RI_change hM hRI xμ25_ (f26_ hRI.2.2.1)
  refine W.widen (k := cells) (n := slots) (Nat.le_refl _) (Nat.le_refl _) ?_
  refine lv_pop hx hb dL_law_484 rfl ?_
  refine lv_goto (tgt := 1273) hx hb dL_law_485 (by decide) ?_
  have hG9_ : LG dC dI A s κ φ13_ ψ14_ τ15_ h ad cl μ25_ H locs := ⟨hP, hD, hS, hKm, hKx, hk, hτ15_, hφ13_, hμ25_, iμ25_⟩
  exact kk _ _ _ _ _ _ _ cells slots hG9_ rfl (by omega) (by omega)
