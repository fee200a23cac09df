theorem D209_0 : decode (byt 209) 0 = .ok (.new 7, 3) := by decide +kernel
theorem D209_3 : decode (byt 209) 3 = .ok (.dup, 1) := by decide +kernel
theorem D209_4 : decode (byt 209) 4 = .ok (.invokespecial 9, 3) := by decide +kernel
theorem D209_7 : decode (byt 209) 7 = .ok (.astore_n 1, 1) := by decide +kernel
theorem D209_8 : decode (byt 209) 8 = .ok (.new 10, 3) := by decide +kernel
theorem D209_11 : decode (byt 209) 11 = .ok (.dup, 1) := by decide +kernel
theorem D209_12 : decode (byt 209) 12 = .ok (.invokespecial 12, 3) := by decide +kernel
theorem D209_15 : decode (byt 209) 15 = .ok (.astore_n 2, 1) := by decide +kernel
theorem D209_16 : decode (byt 209) 16 = .ok (.iconst 0, 1) := by decide +kernel
theorem D209_17 : decode (byt 209) 17 = .ok (.istore_n 3, 1) := by decide +kernel
theorem D209_18 : decode (byt 209) 18 = .ok (.iload_n 3, 1) := by decide +kernel
theorem D209_19 : decode (byt 209) 19 = .ok (.aload_n 0, 1) := by decide +kernel
theorem D209_20 : decode (byt 209) 20 = .ok (.arraylength, 1) := by decide +kernel
theorem D209_21 : decode (byt 209) 21 = .ok (.bipush 6, 2) := by decide +kernel
theorem D209_23 : decode (byt 209) 23 = .ok (.isub, 1) := by decide +kernel
theorem D209_24 : decode (byt 209) 24 = .ok (.if_icmp .gt 1332, 3) := by decide +kernel
theorem D209_27 : decode (byt 209) 27 = .ok (.aload_n 0, 1) := by decide +kernel
theorem D209_28 : decode (byt 209) 28 = .ok (.iload_n 3, 1) := by decide +kernel
theorem D209_29 : decode (byt 209) 29 = .ok (.iaload, 1) := by decide +kernel
theorem D209_30 : decode (byt 209) 30 = .ok (.bipush 63, 2) := by decide +kernel
theorem D209_32 : decode (byt 209) 32 = .ok (.iand, 1) := by decide +kernel
theorem D209_33 : decode (byt 209) 33 = .ok (.tableswitch 1317 0 34 #[155, 188, 251, 284, 307, 366, 399, 432, 475, 508, 531, 554, 597, 640, 693, 716, 729, 752, 785, 809, 869, 902, 935, 968, 1001, 1050, 1084, 1107, 1146, 1159, 1192, 1205, 1228, 1271, 1294], 155) := by decide +kernel
theorem D209_188 : decode (byt 209) 188 = .ok (.aload_n 1, 1) := by decide +kernel
theorem D209_189 : decode (byt 209) 189 = .ok (.aload_n 0, 1) := by decide +kernel
theorem D209_190 : decode (byt 209) 190 = .ok (.iload_n 3, 1) := by decide +kernel
theorem D209_191 : decode (byt 209) 191 = .ok (.iconst 1, 1) := by decide +kernel
theorem D209_192 : decode (byt 209) 192 = .ok (.iadd, 1) := by decide +kernel
theorem D209_193 : decode (byt 209) 193 = .ok (.iaload, 1) := by decide +kernel
theorem D209_194 : decode (byt 209) 194 = .ok (.aload_n 0, 1) := by decide +kernel
theorem D209_195 : decode (byt 209) 195 = .ok (.iload_n 3, 1) := by decide +kernel
theorem D209_196 : decode (byt 209) 196 = .ok (.iconst 2, 1) := by decide +kernel
theorem D209_197 : decode (byt 209) 197 = .ok (.iadd, 1) := by decide +kernel
theorem D209_198 : decode (byt 209) 198 = .ok (.iaload, 1) := by decide +kernel
theorem D209_199 : decode (byt 209) 199 = .ok (.invokevirtual 13, 3) := by decide +kernel
theorem D209_202 : decode (byt 209) 202 = .ok (.aload_n 2, 1) := by decide +kernel
theorem D209_203 : decode (byt 209) 203 = .ok (.aload_n 0, 1) := by decide +kernel
theorem D209_204 : decode (byt 209) 204 = .ok (.iload_n 3, 1) := by decide +kernel
theorem D209_205 : decode (byt 209) 205 = .ok (.iconst 1, 1) := by decide +kernel
theorem D209_206 : decode (byt 209) 206 = .ok (.iadd, 1) := by decide +kernel
theorem D209_207 : decode (byt 209) 207 = .ok (.iaload, 1) := by decide +kernel
theorem D209_208 : decode (byt 209) 208 = .ok (.aload_n 0, 1) := by decide +kernel
theorem D209_209 : decode (byt 209) 209 = .ok (.iload_n 3, 1) := by decide +kernel
theorem D209_210 : decode (byt 209) 210 = .ok (.iconst 2, 1) := by decide +kernel
theorem D209_211 : decode (byt 209) 211 = .ok (.iadd, 1) := by decide +kernel
theorem D209_212 : decode (byt 209) 212 = .ok (.iaload, 1) := by decide +kernel
theorem D209_213 : decode (byt 209) 213 = .ok (.invokevirtual 17, 3) := by decide +kernel
theorem D209_216 : decode (byt 209) 216 = .ok (.if_icmp .eq 1134, 3) := by decide +kernel
theorem D209_219 : decode (byt 209) 219 = .ok (.iconst 0, 1) := by decide +kernel
theorem D209_220 : decode (byt 209) 220 = .ok (.ireturn, 1) := by decide +kernel
theorem D209_221 : decode (byt 209) 221 = .ok (.aload_n 1, 1) := by decide +kernel
theorem D209_222 : decode (byt 209) 222 = .ok (.aload_n 0, 1) := by decide +kernel
theorem D209_223 : decode (byt 209) 223 = .ok (.iload_n 3, 1) := by decide +kernel
theorem D209_224 : decode (byt 209) 224 = .ok (.iconst 1, 1) := by decide +kernel
theorem D209_225 : decode (byt 209) 225 = .ok (.iadd, 1) := by decide +kernel
theorem D209_226 : decode (byt 209) 226 = .ok (.iaload, 1) := by decide +kernel
theorem D209_227 : decode (byt 209) 227 = .ok (.aload_n 0, 1) := by decide +kernel
theorem D209_228 : decode (byt 209) 228 = .ok (.iload_n 3, 1) := by decide +kernel
theorem D209_229 : decode (byt 209) 229 = .ok (.iconst 2, 1) := by decide +kernel
theorem D209_230 : decode (byt 209) 230 = .ok (.iadd, 1) := by decide +kernel
theorem D209_231 : decode (byt 209) 231 = .ok (.iaload, 1) := by decide +kernel
theorem D209_232 : decode (byt 209) 232 = .ok (.aload_n 0, 1) := by decide +kernel
theorem D209_233 : decode (byt 209) 233 = .ok (.iload_n 3, 1) := by decide +kernel
theorem D209_234 : decode (byt 209) 234 = .ok (.iconst 3, 1) := by decide +kernel
theorem D209_235 : decode (byt 209) 235 = .ok (.iadd, 1) := by decide +kernel
theorem D209_236 : decode (byt 209) 236 = .ok (.iaload, 1) := by decide +kernel
theorem D209_237 : decode (byt 209) 237 = .ok (.aload_n 0, 1) := by decide +kernel
theorem D209_238 : decode (byt 209) 238 = .ok (.iload_n 3, 1) := by decide +kernel
theorem D209_239 : decode (byt 209) 239 = .ok (.iconst 4, 1) := by decide +kernel
theorem D209_240 : decode (byt 209) 240 = .ok (.iadd, 1) := by decide +kernel
theorem D209_241 : decode (byt 209) 241 = .ok (.iaload, 1) := by decide +kernel
theorem D209_242 : decode (byt 209) 242 = .ok (.aload_n 0, 1) := by decide +kernel
theorem D209_243 : decode (byt 209) 243 = .ok (.iload_n 3, 1) := by decide +kernel
theorem D209_244 : decode (byt 209) 244 = .ok (.iconst 5, 1) := by decide +kernel
theorem D209_245 : decode (byt 209) 245 = .ok (.iadd, 1) := by decide +kernel
theorem D209_246 : decode (byt 209) 246 = .ok (.iaload, 1) := by decide +kernel
theorem D209_247 : decode (byt 209) 247 = .ok (.invokevirtual 18, 3) := by decide +kernel
theorem D209_250 : decode (byt 209) 250 = .ok (.aload_n 2, 1) := by decide +kernel
theorem D209_251 : decode (byt 209) 251 = .ok (.aload_n 0, 1) := by decide +kernel
theorem D209_252 : decode (byt 209) 252 = .ok (.iload_n 3, 1) := by decide +kernel
theorem D209_253 : decode (byt 209) 253 = .ok (.iconst 1, 1) := by decide +kernel
theorem D209_254 : decode (byt 209) 254 = .ok (.iadd, 1) := by decide +kernel
theorem D209_255 : decode (byt 209) 255 = .ok (.iaload, 1) := by decide +kernel
theorem D209_256 : decode (byt 209) 256 = .ok (.aload_n 0, 1) := by decide +kernel
theorem D209_257 : decode (byt 209) 257 = .ok (.iload_n 3, 1) := by decide +kernel
theorem D209_258 : decode (byt 209) 258 = .ok (.iconst 2, 1) := by decide +kernel
theorem D209_259 : decode (byt 209) 259 = .ok (.iadd, 1) := by decide +kernel
theorem D209_260 : decode (byt 209) 260 = .ok (.iaload, 1) := by decide +kernel
theorem D209_261 : decode (byt 209) 261 = .ok (.aload_n 0, 1) := by decide +kernel
theorem D209_262 : decode (byt 209) 262 = .ok (.iload_n 3, 1) := by decide +kernel
theorem D209_263 : decode (byt 209) 263 = .ok (.iconst 3, 1) := by decide +kernel
theorem D209_264 : decode (byt 209) 264 = .ok (.iadd, 1) := by decide +kernel
theorem D209_265 : decode (byt 209) 265 = .ok (.iaload, 1) := by decide +kernel
theorem D209_266 : decode (byt 209) 266 = .ok (.aload_n 0, 1) := by decide +kernel
theorem D209_267 : decode (byt 209) 267 = .ok (.iload_n 3, 1) := by decide +kernel
theorem D209_268 : decode (byt 209) 268 = .ok (.iconst 4, 1) := by decide +kernel
theorem D209_269 : decode (byt 209) 269 = .ok (.iadd, 1) := by decide +kernel
theorem D209_270 : decode (byt 209) 270 = .ok (.iaload, 1) := by decide +kernel
theorem D209_271 : decode (byt 209) 271 = .ok (.aload_n 0, 1) := by decide +kernel
theorem D209_272 : decode (byt 209) 272 = .ok (.iload_n 3, 1) := by decide +kernel
theorem D209_273 : decode (byt 209) 273 = .ok (.iconst 5, 1) := by decide +kernel
theorem D209_274 : decode (byt 209) 274 = .ok (.iadd, 1) := by decide +kernel
theorem D209_275 : decode (byt 209) 275 = .ok (.iaload, 1) := by decide +kernel
theorem D209_276 : decode (byt 209) 276 = .ok (.invokevirtual 22, 3) := by decide +kernel
theorem D209_279 : decode (byt 209) 279 = .ok (.if_icmp .eq 1071, 3) := by decide +kernel
theorem D209_282 : decode (byt 209) 282 = .ok (.iconst 0, 1) := by decide +kernel
theorem D209_283 : decode (byt 209) 283 = .ok (.ireturn, 1) := by decide +kernel
theorem D209_284 : decode (byt 209) 284 = .ok (.aload_n 1, 1) := by decide +kernel
theorem D209_285 : decode (byt 209) 285 = .ok (.aload_n 0, 1) := by decide +kernel
theorem D209_286 : decode (byt 209) 286 = .ok (.iload_n 3, 1) := by decide +kernel
theorem D209_287 : decode (byt 209) 287 = .ok (.iconst 1, 1) := by decide +kernel
theorem D209_288 : decode (byt 209) 288 = .ok (.iadd, 1) := by decide +kernel
theorem D209_289 : decode (byt 209) 289 = .ok (.iaload, 1) := by decide +kernel
theorem D209_290 : decode (byt 209) 290 = .ok (.aload_n 0, 1) := by decide +kernel
theorem D209_291 : decode (byt 209) 291 = .ok (.iload_n 3, 1) := by decide +kernel
theorem D209_292 : decode (byt 209) 292 = .ok (.iconst 2, 1) := by decide +kernel
theorem D209_293 : decode (byt 209) 293 = .ok (.iadd, 1) := by decide +kernel
theorem D209_294 : decode (byt 209) 294 = .ok (.iaload, 1) := by decide +kernel
theorem D209_295 : decode (byt 209) 295 = .ok (.invokevirtual 23, 3) := by decide +kernel
theorem D209_298 : decode (byt 209) 298 = .ok (.aload_n 2, 1) := by decide +kernel
theorem D209_299 : decode (byt 209) 299 = .ok (.aload_n 0, 1) := by decide +kernel
theorem D209_300 : decode (byt 209) 300 = .ok (.iload_n 3, 1) := by decide +kernel
theorem D209_301 : decode (byt 209) 301 = .ok (.iconst 1, 1) := by decide +kernel
theorem D209_302 : decode (byt 209) 302 = .ok (.iadd, 1) := by decide +kernel
theorem D209_303 : decode (byt 209) 303 = .ok (.iaload, 1) := by decide +kernel
theorem D209_304 : decode (byt 209) 304 = .ok (.aload_n 0, 1) := by decide +kernel
theorem D209_305 : decode (byt 209) 305 = .ok (.iload_n 3, 1) := by decide +kernel
theorem D209_306 : decode (byt 209) 306 = .ok (.iconst 2, 1) := by decide +kernel
theorem D209_307 : decode (byt 209) 307 = .ok (.iadd, 1) := by decide +kernel
theorem D209_308 : decode (byt 209) 308 = .ok (.iaload, 1) := by decide +kernel
theorem D209_309 : decode (byt 209) 309 = .ok (.invokevirtual 26, 3) := by decide +kernel
theorem D209_312 : decode (byt 209) 312 = .ok (.if_icmp .eq 1038, 3) := by decide +kernel
theorem D209_315 : decode (byt 209) 315 = .ok (.iconst 0, 1) := by decide +kernel
theorem D209_316 : decode (byt 209) 316 = .ok (.ireturn, 1) := by decide +kernel
theorem D209_317 : decode (byt 209) 317 = .ok (.aload_n 1, 1) := by decide +kernel
theorem D209_318 : decode (byt 209) 318 = .ok (.aload_n 0, 1) := by decide +kernel
theorem D209_319 : decode (byt 209) 319 = .ok (.iload_n 3, 1) := by decide +kernel
theorem D209_320 : decode (byt 209) 320 = .ok (.iconst 1, 1) := by decide +kernel
theorem D209_321 : decode (byt 209) 321 = .ok (.iadd, 1) := by decide +kernel
theorem D209_322 : decode (byt 209) 322 = .ok (.iaload, 1) := by decide +kernel
theorem D209_323 : decode (byt 209) 323 = .ok (.invokevirtual 27, 3) := by decide +kernel
theorem D209_326 : decode (byt 209) 326 = .ok (.aload_n 2, 1) := by decide +kernel
theorem D209_327 : decode (byt 209) 327 = .ok (.aload_n 0, 1) := by decide +kernel
theorem D209_328 : decode (byt 209) 328 = .ok (.iload_n 3, 1) := by decide +kernel
theorem D209_329 : decode (byt 209) 329 = .ok (.iconst 1, 1) := by decide +kernel
theorem D209_330 : decode (byt 209) 330 = .ok (.iadd, 1) := by decide +kernel
theorem D209_331 : decode (byt 209) 331 = .ok (.iaload, 1) := by decide +kernel
theorem D209_332 : decode (byt 209) 332 = .ok (.invokevirtual 31, 3) := by decide +kernel
theorem D209_335 : decode (byt 209) 335 = .ok (.if_icmp .eq 1015, 3) := by decide +kernel
theorem D209_338 : decode (byt 209) 338 = .ok (.iconst 0, 1) := by decide +kernel
theorem D209_339 : decode (byt 209) 339 = .ok (.ireturn, 1) := by decide +kernel
theorem D209_340 : decode (byt 209) 340 = .ok (.aload_n 1, 1) := by decide +kernel
theorem D209_341 : decode (byt 209) 341 = .ok (.aload_n 0, 1) := by decide +kernel
theorem D209_342 : decode (byt 209) 342 = .ok (.iload_n 3, 1) := by decide +kernel
theorem D209_343 : decode (byt 209) 343 = .ok (.iconst 1, 1) := by decide +kernel
theorem D209_344 : decode (byt 209) 344 = .ok (.iadd, 1) := by decide +kernel
theorem D209_345 : decode (byt 209) 345 = .ok (.iaload, 1) := by decide +kernel
theorem D209_346 : decode (byt 209) 346 = .ok (.aload_n 0, 1) := by decide +kernel
theorem D209_347 : decode (byt 209) 347 = .ok (.iload_n 3, 1) := by decide +kernel
theorem D209_348 : decode (byt 209) 348 = .ok (.iconst 2, 1) := by decide +kernel
theorem D209_349 : decode (byt 209) 349 = .ok (.iadd, 1) := by decide +kernel
theorem D209_350 : decode (byt 209) 350 = .ok (.iaload, 1) := by decide +kernel
theorem D209_351 : decode (byt 209) 351 = .ok (.aload_n 0, 1) := by decide +kernel
theorem D209_352 : decode (byt 209) 352 = .ok (.iload_n 3, 1) := by decide +kernel
theorem D209_353 : decode (byt 209) 353 = .ok (.iconst 3, 1) := by decide +kernel
theorem D209_354 : decode (byt 209) 354 = .ok (.iadd, 1) := by decide +kernel
theorem D209_355 : decode (byt 209) 355 = .ok (.iaload, 1) := by decide +kernel
theorem D209_356 : decode (byt 209) 356 = .ok (.ifCond .eq 7, 3) := by decide +kernel
theorem D209_359 : decode (byt 209) 359 = .ok (.iconst 1, 1) := by decide +kernel
theorem D209_360 : decode (byt 209) 360 = .ok (.goto 4, 3) := by decide +kernel
theorem D209_363 : decode (byt 209) 363 = .ok (.iconst 0, 1) := by decide +kernel
theorem D209_364 : decode (byt 209) 364 = .ok (.invokevirtual 32, 3) := by decide +kernel
theorem D209_367 : decode (byt 209) 367 = .ok (.aload_n 2, 1) := by decide +kernel
theorem D209_368 : decode (byt 209) 368 = .ok (.aload_n 0, 1) := by decide +kernel
theorem D209_369 : decode (byt 209) 369 = .ok (.iload_n 3, 1) := by decide +kernel
theorem D209_370 : decode (byt 209) 370 = .ok (.iconst 1, 1) := by decide +kernel
theorem D209_371 : decode (byt 209) 371 = .ok (.iadd, 1) := by decide +kernel
theorem D209_372 : decode (byt 209) 372 = .ok (.iaload, 1) := by decide +kernel
theorem D209_373 : decode (byt 209) 373 = .ok (.aload_n 0, 1) := by decide +kernel
theorem D209_374 : decode (byt 209) 374 = .ok (.iload_n 3, 1) := by decide +kernel
theorem D209_375 : decode (byt 209) 375 = .ok (.iconst 2, 1) := by decide +kernel
theorem D209_376 : decode (byt 209) 376 = .ok (.iadd, 1) := by decide +kernel
theorem D209_377 : decode (byt 209) 377 = .ok (.iaload, 1) := by decide +kernel
theorem D209_378 : decode (byt 209) 378 = .ok (.aload_n 0, 1) := by decide +kernel
theorem D209_379 : decode (byt 209) 379 = .ok (.iload_n 3, 1) := by decide +kernel
theorem D209_380 : decode (byt 209) 380 = .ok (.iconst 3, 1) := by decide +kernel
theorem D209_381 : decode (byt 209) 381 = .ok (.iadd, 1) := by decide +kernel
theorem D209_382 : decode (byt 209) 382 = .ok (.iaload, 1) := by decide +kernel
theorem D209_383 : decode (byt 209) 383 = .ok (.ifCond .eq 7, 3) := by decide +kernel
theorem D209_386 : decode (byt 209) 386 = .ok (.iconst 1, 1) := by decide +kernel
theorem D209_387 : decode (byt 209) 387 = .ok (.goto 4, 3) := by decide +kernel
theorem D209_390 : decode (byt 209) 390 = .ok (.iconst 0, 1) := by decide +kernel
theorem D209_391 : decode (byt 209) 391 = .ok (.invokevirtual 36, 3) := by decide +kernel
theorem D209_394 : decode (byt 209) 394 = .ok (.if_icmp .eq 956, 3) := by decide +kernel
theorem D209_397 : decode (byt 209) 397 = .ok (.iconst 0, 1) := by decide +kernel
theorem D209_398 : decode (byt 209) 398 = .ok (.ireturn, 1) := by decide +kernel
theorem D209_399 : decode (byt 209) 399 = .ok (.aload_n 1, 1) := by decide +kernel
theorem D209_400 : decode (byt 209) 400 = .ok (.aload_n 0, 1) := by decide +kernel
theorem D209_401 : decode (byt 209) 401 = .ok (.iload_n 3, 1) := by decide +kernel
theorem D209_402 : decode (byt 209) 402 = .ok (.iconst 1, 1) := by decide +kernel
theorem D209_403 : decode (byt 209) 403 = .ok (.iadd, 1) := by decide +kernel
theorem D209_404 : decode (byt 209) 404 = .ok (.iaload, 1) := by decide +kernel
theorem D209_405 : decode (byt 209) 405 = .ok (.aload_n 0, 1) := by decide +kernel
theorem D209_406 : decode (byt 209) 406 = .ok (.iload_n 3, 1) := by decide +kernel
theorem D209_407 : decode (byt 209) 407 = .ok (.iconst 2, 1) := by decide +kernel
theorem D209_408 : decode (byt 209) 408 = .ok (.iadd, 1) := by decide +kernel
theorem D209_409 : decode (byt 209) 409 = .ok (.iaload, 1) := by decide +kernel
theorem D209_410 : decode (byt 209) 410 = .ok (.invokevirtual 37, 3) := by decide +kernel
theorem D209_413 : decode (byt 209) 413 = .ok (.aload_n 2, 1) := by decide +kernel
theorem D209_414 : decode (byt 209) 414 = .ok (.aload_n 0, 1) := by decide +kernel
theorem D209_415 : decode (byt 209) 415 = .ok (.iload_n 3, 1) := by decide +kernel
theorem D209_416 : decode (byt 209) 416 = .ok (.iconst 1, 1) := by decide +kernel
theorem D209_417 : decode (byt 209) 417 = .ok (.iadd, 1) := by decide +kernel
theorem D209_418 : decode (byt 209) 418 = .ok (.iaload, 1) := by decide +kernel
theorem D209_419 : decode (byt 209) 419 = .ok (.aload_n 0, 1) := by decide +kernel
theorem D209_420 : decode (byt 209) 420 = .ok (.iload_n 3, 1) := by decide +kernel
theorem D209_421 : decode (byt 209) 421 = .ok (.iconst 2, 1) := by decide +kernel
theorem D209_422 : decode (byt 209) 422 = .ok (.iadd, 1) := by decide +kernel
theorem D209_423 : decode (byt 209) 423 = .ok (.iaload, 1) := by decide +kernel
theorem D209_424 : decode (byt 209) 424 = .ok (.invokevirtual 40, 3) := by decide +kernel
theorem D209_427 : decode (byt 209) 427 = .ok (.if_icmp .eq 923, 3) := by decide +kernel
theorem D209_430 : decode (byt 209) 430 = .ok (.iconst 0, 1) := by decide +kernel
theorem D209_431 : decode (byt 209) 431 = .ok (.ireturn, 1) := by decide +kernel
theorem D209_432 : decode (byt 209) 432 = .ok (.aload_n 1, 1) := by decide +kernel
theorem D209_433 : decode (byt 209) 433 = .ok (.aload_n 0, 1) := by decide +kernel
theorem D209_434 : decode (byt 209) 434 = .ok (.iload_n 3, 1) := by decide +kernel
theorem D209_435 : decode (byt 209) 435 = .ok (.iconst 1, 1) := by decide +kernel
theorem D209_436 : decode (byt 209) 436 = .ok (.iadd, 1) := by decide +kernel
theorem D209_437 : decode (byt 209) 437 = .ok (.iaload, 1) := by decide +kernel
theorem D209_438 : decode (byt 209) 438 = .ok (.aload_n 0, 1) := by decide +kernel
theorem D209_439 : decode (byt 209) 439 = .ok (.iload_n 3, 1) := by decide +kernel
theorem D209_440 : decode (byt 209) 440 = .ok (.iconst 2, 1) := by decide +kernel
theorem D209_441 : decode (byt 209) 441 = .ok (.iadd, 1) := by decide +kernel
theorem D209_442 : decode (byt 209) 442 = .ok (.iaload, 1) := by decide +kernel
theorem D209_443 : decode (byt 209) 443 = .ok (.invokevirtual 41, 3) := by decide +kernel
theorem D209_446 : decode (byt 209) 446 = .ok (.aload_n 2, 1) := by decide +kernel
theorem D209_447 : decode (byt 209) 447 = .ok (.aload_n 0, 1) := by decide +kernel
theorem D209_448 : decode (byt 209) 448 = .ok (.iload_n 3, 1) := by decide +kernel
theorem D209_449 : decode (byt 209) 449 = .ok (.iconst 1, 1) := by decide +kernel
theorem D209_450 : decode (byt 209) 450 = .ok (.iadd, 1) := by decide +kernel
theorem D209_451 : decode (byt 209) 451 = .ok (.iaload, 1) := by decide +kernel
theorem D209_452 : decode (byt 209) 452 = .ok (.aload_n 0, 1) := by decide +kernel
theorem D209_453 : decode (byt 209) 453 = .ok (.iload_n 3, 1) := by decide +kernel
theorem D209_454 : decode (byt 209) 454 = .ok (.iconst 2, 1) := by decide +kernel
theorem D209_455 : decode (byt 209) 455 = .ok (.iadd, 1) := by decide +kernel
theorem D209_456 : decode (byt 209) 456 = .ok (.iaload, 1) := by decide +kernel
theorem D209_457 : decode (byt 209) 457 = .ok (.invokevirtual 44, 3) := by decide +kernel
theorem D209_460 : decode (byt 209) 460 = .ok (.if_icmp .eq 890, 3) := by decide +kernel
theorem D209_463 : decode (byt 209) 463 = .ok (.iconst 0, 1) := by decide +kernel
theorem D209_464 : decode (byt 209) 464 = .ok (.ireturn, 1) := by decide +kernel
theorem D209_465 : decode (byt 209) 465 = .ok (.aload_n 1, 1) := by decide +kernel
theorem D209_466 : decode (byt 209) 466 = .ok (.aload_n 0, 1) := by decide +kernel
theorem D209_467 : decode (byt 209) 467 = .ok (.iload_n 3, 1) := by decide +kernel
theorem D209_468 : decode (byt 209) 468 = .ok (.iconst 1, 1) := by decide +kernel
theorem D209_469 : decode (byt 209) 469 = .ok (.iadd, 1) := by decide +kernel
theorem D209_470 : decode (byt 209) 470 = .ok (.iaload, 1) := by decide +kernel
theorem D209_471 : decode (byt 209) 471 = .ok (.aload_n 0, 1) := by decide +kernel
theorem D209_472 : decode (byt 209) 472 = .ok (.iload_n 3, 1) := by decide +kernel
theorem D209_473 : decode (byt 209) 473 = .ok (.iconst 2, 1) := by decide +kernel
theorem D209_474 : decode (byt 209) 474 = .ok (.iadd, 1) := by decide +kernel
theorem D209_475 : decode (byt 209) 475 = .ok (.iaload, 1) := by decide +kernel
theorem D209_476 : decode (byt 209) 476 = .ok (.aload_n 0, 1) := by decide +kernel
theorem D209_477 : decode (byt 209) 477 = .ok (.iload_n 3, 1) := by decide +kernel
theorem D209_478 : decode (byt 209) 478 = .ok (.iconst 3, 1) := by decide +kernel
theorem D209_479 : decode (byt 209) 479 = .ok (.iadd, 1) := by decide +kernel
theorem D209_480 : decode (byt 209) 480 = .ok (.iaload, 1) := by decide +kernel
theorem D209_481 : decode (byt 209) 481 = .ok (.invokevirtual 45, 3) := by decide +kernel
theorem D209_484 : decode (byt 209) 484 = .ok (.aload_n 2, 1) := by decide +kernel
theorem D209_485 : decode (byt 209) 485 = .ok (.aload_n 0, 1) := by decide +kernel
theorem D209_486 : decode (byt 209) 486 = .ok (.iload_n 3, 1) := by decide +kernel
theorem D209_487 : decode (byt 209) 487 = .ok (.iconst 1, 1) := by decide +kernel
theorem D209_488 : decode (byt 209) 488 = .ok (.iadd, 1) := by decide +kernel
theorem D209_489 : decode (byt 209) 489 = .ok (.iaload, 1) := by decide +kernel
theorem D209_490 : decode (byt 209) 490 = .ok (.aload_n 0, 1) := by decide +kernel
theorem D209_491 : decode (byt 209) 491 = .ok (.iload_n 3, 1) := by decide +kernel
theorem D209_492 : decode (byt 209) 492 = .ok (.iconst 2, 1) := by decide +kernel
theorem D209_493 : decode (byt 209) 493 = .ok (.iadd, 1) := by decide +kernel
theorem D209_494 : decode (byt 209) 494 = .ok (.iaload, 1) := by decide +kernel
theorem D209_495 : decode (byt 209) 495 = .ok (.aload_n 0, 1) := by decide +kernel
theorem D209_496 : decode (byt 209) 496 = .ok (.iload_n 3, 1) := by decide +kernel
theorem D209_497 : decode (byt 209) 497 = .ok (.iconst 3, 1) := by decide +kernel
theorem D209_498 : decode (byt 209) 498 = .ok (.iadd, 1) := by decide +kernel
theorem D209_499 : decode (byt 209) 499 = .ok (.iaload, 1) := by decide +kernel
theorem D209_500 : decode (byt 209) 500 = .ok (.invokevirtual 49, 3) := by decide +kernel
theorem D209_503 : decode (byt 209) 503 = .ok (.if_icmp .eq 847, 3) := by decide +kernel
theorem D209_506 : decode (byt 209) 506 = .ok (.iconst 0, 1) := by decide +kernel
theorem D209_507 : decode (byt 209) 507 = .ok (.ireturn, 1) := by decide +kernel
theorem D209_508 : decode (byt 209) 508 = .ok (.aload_n 1, 1) := by decide +kernel
theorem D209_509 : decode (byt 209) 509 = .ok (.aload_n 0, 1) := by decide +kernel
theorem D209_510 : decode (byt 209) 510 = .ok (.iload_n 3, 1) := by decide +kernel
theorem D209_511 : decode (byt 209) 511 = .ok (.iconst 1, 1) := by decide +kernel
theorem D209_512 : decode (byt 209) 512 = .ok (.iadd, 1) := by decide +kernel
theorem D209_513 : decode (byt 209) 513 = .ok (.iaload, 1) := by decide +kernel
theorem D209_514 : decode (byt 209) 514 = .ok (.aload_n 0, 1) := by decide +kernel
theorem D209_515 : decode (byt 209) 515 = .ok (.iload_n 3, 1) := by decide +kernel
theorem D209_516 : decode (byt 209) 516 = .ok (.iconst 2, 1) := by decide +kernel
theorem D209_517 : decode (byt 209) 517 = .ok (.iadd, 1) := by decide +kernel
theorem D209_518 : decode (byt 209) 518 = .ok (.iaload, 1) := by decide +kernel
theorem D209_519 : decode (byt 209) 519 = .ok (.invokevirtual 50, 3) := by decide +kernel
theorem D209_522 : decode (byt 209) 522 = .ok (.aload_n 2, 1) := by decide +kernel
theorem D209_523 : decode (byt 209) 523 = .ok (.aload_n 0, 1) := by decide +kernel
theorem D209_524 : decode (byt 209) 524 = .ok (.iload_n 3, 1) := by decide +kernel
theorem D209_525 : decode (byt 209) 525 = .ok (.iconst 1, 1) := by decide +kernel
theorem D209_526 : decode (byt 209) 526 = .ok (.iadd, 1) := by decide +kernel
theorem D209_527 : decode (byt 209) 527 = .ok (.iaload, 1) := by decide +kernel
theorem D209_528 : decode (byt 209) 528 = .ok (.aload_n 0, 1) := by decide +kernel
theorem D209_529 : decode (byt 209) 529 = .ok (.iload_n 3, 1) := by decide +kernel
theorem D209_530 : decode (byt 209) 530 = .ok (.iconst 2, 1) := by decide +kernel
theorem D209_531 : decode (byt 209) 531 = .ok (.iadd, 1) := by decide +kernel
theorem D209_532 : decode (byt 209) 532 = .ok (.iaload, 1) := by decide +kernel
theorem D209_533 : decode (byt 209) 533 = .ok (.invokevirtual 53, 3) := by decide +kernel
theorem D209_536 : decode (byt 209) 536 = .ok (.if_icmp .eq 814, 3) := by decide +kernel
theorem D209_539 : decode (byt 209) 539 = .ok (.iconst 0, 1) := by decide +kernel
theorem D209_540 : decode (byt 209) 540 = .ok (.ireturn, 1) := by decide +kernel
theorem D209_541 : decode (byt 209) 541 = .ok (.aload_n 1, 1) := by decide +kernel
theorem D209_542 : decode (byt 209) 542 = .ok (.aload_n 0, 1) := by decide +kernel
theorem D209_543 : decode (byt 209) 543 = .ok (.iload_n 3, 1) := by decide +kernel
theorem D209_544 : decode (byt 209) 544 = .ok (.iconst 1, 1) := by decide +kernel
theorem D209_545 : decode (byt 209) 545 = .ok (.iadd, 1) := by decide +kernel
theorem D209_546 : decode (byt 209) 546 = .ok (.iaload, 1) := by decide +kernel
theorem D209_547 : decode (byt 209) 547 = .ok (.invokevirtual 54, 3) := by decide +kernel
theorem D209_550 : decode (byt 209) 550 = .ok (.aload_n 2, 1) := by decide +kernel
theorem D209_551 : decode (byt 209) 551 = .ok (.aload_n 0, 1) := by decide +kernel
theorem D209_552 : decode (byt 209) 552 = .ok (.iload_n 3, 1) := by decide +kernel
theorem D209_553 : decode (byt 209) 553 = .ok (.iconst 1, 1) := by decide +kernel
theorem D209_554 : decode (byt 209) 554 = .ok (.iadd, 1) := by decide +kernel
theorem D209_555 : decode (byt 209) 555 = .ok (.iaload, 1) := by decide +kernel
theorem D209_556 : decode (byt 209) 556 = .ok (.invokevirtual 57, 3) := by decide +kernel
theorem D209_559 : decode (byt 209) 559 = .ok (.if_icmp .eq 791, 3) := by decide +kernel
theorem D209_562 : decode (byt 209) 562 = .ok (.iconst 0, 1) := by decide +kernel
theorem D209_563 : decode (byt 209) 563 = .ok (.ireturn, 1) := by decide +kernel
theorem D209_564 : decode (byt 209) 564 = .ok (.aload_n 1, 1) := by decide +kernel
theorem D209_565 : decode (byt 209) 565 = .ok (.aload_n 0, 1) := by decide +kernel
theorem D209_566 : decode (byt 209) 566 = .ok (.iload_n 3, 1) := by decide +kernel
theorem D209_567 : decode (byt 209) 567 = .ok (.iconst 1, 1) := by decide +kernel
theorem D209_568 : decode (byt 209) 568 = .ok (.iadd, 1) := by decide +kernel
theorem D209_569 : decode (byt 209) 569 = .ok (.iaload, 1) := by decide +kernel
theorem D209_570 : decode (byt 209) 570 = .ok (.invokevirtual 58, 3) := by decide +kernel
theorem D209_573 : decode (byt 209) 573 = .ok (.aload_n 2, 1) := by decide +kernel
theorem D209_574 : decode (byt 209) 574 = .ok (.aload_n 0, 1) := by decide +kernel
theorem D209_575 : decode (byt 209) 575 = .ok (.iload_n 3, 1) := by decide +kernel
theorem D209_576 : decode (byt 209) 576 = .ok (.iconst 1, 1) := by decide +kernel
theorem D209_577 : decode (byt 209) 577 = .ok (.iadd, 1) := by decide +kernel
theorem D209_578 : decode (byt 209) 578 = .ok (.iaload, 1) := by decide +kernel
theorem D209_579 : decode (byt 209) 579 = .ok (.invokevirtual 61, 3) := by decide +kernel
theorem D209_582 : decode (byt 209) 582 = .ok (.if_icmp .eq 768, 3) := by decide +kernel
theorem D209_585 : decode (byt 209) 585 = .ok (.iconst 0, 1) := by decide +kernel
theorem D209_586 : decode (byt 209) 586 = .ok (.ireturn, 1) := by decide +kernel
theorem D209_587 : decode (byt 209) 587 = .ok (.aload_n 1, 1) := by decide +kernel
theorem D209_588 : decode (byt 209) 588 = .ok (.aload_n 0, 1) := by decide +kernel
theorem D209_589 : decode (byt 209) 589 = .ok (.iload_n 3, 1) := by decide +kernel
theorem D209_590 : decode (byt 209) 590 = .ok (.iconst 1, 1) := by decide +kernel
theorem D209_591 : decode (byt 209) 591 = .ok (.iadd, 1) := by decide +kernel
theorem D209_592 : decode (byt 209) 592 = .ok (.iaload, 1) := by decide +kernel
theorem D209_593 : decode (byt 209) 593 = .ok (.aload_n 0, 1) := by decide +kernel
theorem D209_594 : decode (byt 209) 594 = .ok (.iload_n 3, 1) := by decide +kernel
theorem D209_595 : decode (byt 209) 595 = .ok (.iconst 2, 1) := by decide +kernel
theorem D209_596 : decode (byt 209) 596 = .ok (.iadd, 1) := by decide +kernel
theorem D209_597 : decode (byt 209) 597 = .ok (.iaload, 1) := by decide +kernel
theorem D209_598 : decode (byt 209) 598 = .ok (.aload_n 0, 1) := by decide +kernel
theorem D209_599 : decode (byt 209) 599 = .ok (.iload_n 3, 1) := by decide +kernel
theorem D209_600 : decode (byt 209) 600 = .ok (.iconst 3, 1) := by decide +kernel
theorem D209_601 : decode (byt 209) 601 = .ok (.iadd, 1) := by decide +kernel
theorem D209_602 : decode (byt 209) 602 = .ok (.iaload, 1) := by decide +kernel
theorem D209_603 : decode (byt 209) 603 = .ok (.invokevirtual 62, 3) := by decide +kernel
theorem D209_606 : decode (byt 209) 606 = .ok (.aload_n 2, 1) := by decide +kernel
theorem D209_607 : decode (byt 209) 607 = .ok (.aload_n 0, 1) := by decide +kernel
theorem D209_608 : decode (byt 209) 608 = .ok (.iload_n 3, 1) := by decide +kernel
theorem D209_609 : decode (byt 209) 609 = .ok (.iconst 1, 1) := by decide +kernel
theorem D209_610 : decode (byt 209) 610 = .ok (.iadd, 1) := by decide +kernel
theorem D209_611 : decode (byt 209) 611 = .ok (.iaload, 1) := by decide +kernel
theorem D209_612 : decode (byt 209) 612 = .ok (.aload_n 0, 1) := by decide +kernel
theorem D209_613 : decode (byt 209) 613 = .ok (.iload_n 3, 1) := by decide +kernel
theorem D209_614 : decode (byt 209) 614 = .ok (.iconst 2, 1) := by decide +kernel
theorem D209_615 : decode (byt 209) 615 = .ok (.iadd, 1) := by decide +kernel
theorem D209_616 : decode (byt 209) 616 = .ok (.iaload, 1) := by decide +kernel
theorem D209_617 : decode (byt 209) 617 = .ok (.aload_n 0, 1) := by decide +kernel
theorem D209_618 : decode (byt 209) 618 = .ok (.iload_n 3, 1) := by decide +kernel
theorem D209_619 : decode (byt 209) 619 = .ok (.iconst 3, 1) := by decide +kernel
theorem D209_620 : decode (byt 209) 620 = .ok (.iadd, 1) := by decide +kernel
theorem D209_621 : decode (byt 209) 621 = .ok (.iaload, 1) := by decide +kernel
theorem D209_622 : decode (byt 209) 622 = .ok (.invokevirtual 65, 3) := by decide +kernel
theorem D209_625 : decode (byt 209) 625 = .ok (.if_icmp .eq 725, 3) := by decide +kernel
theorem D209_628 : decode (byt 209) 628 = .ok (.iconst 0, 1) := by decide +kernel
theorem D209_629 : decode (byt 209) 629 = .ok (.ireturn, 1) := by decide +kernel
theorem D209_630 : decode (byt 209) 630 = .ok (.aload_n 1, 1) := by decide +kernel
theorem D209_631 : decode (byt 209) 631 = .ok (.aload_n 0, 1) := by decide +kernel
theorem D209_632 : decode (byt 209) 632 = .ok (.iload_n 3, 1) := by decide +kernel
theorem D209_633 : decode (byt 209) 633 = .ok (.iconst 1, 1) := by decide +kernel
theorem D209_634 : decode (byt 209) 634 = .ok (.iadd, 1) := by decide +kernel
theorem D209_635 : decode (byt 209) 635 = .ok (.iaload, 1) := by decide +kernel
theorem D209_636 : decode (byt 209) 636 = .ok (.aload_n 0, 1) := by decide +kernel
theorem D209_637 : decode (byt 209) 637 = .ok (.iload_n 3, 1) := by decide +kernel
theorem D209_638 : decode (byt 209) 638 = .ok (.iconst 2, 1) := by decide +kernel
theorem D209_639 : decode (byt 209) 639 = .ok (.iadd, 1) := by decide +kernel
theorem D209_640 : decode (byt 209) 640 = .ok (.iaload, 1) := by decide +kernel
theorem D209_641 : decode (byt 209) 641 = .ok (.aload_n 0, 1) := by decide +kernel
theorem D209_642 : decode (byt 209) 642 = .ok (.iload_n 3, 1) := by decide +kernel
theorem D209_643 : decode (byt 209) 643 = .ok (.iconst 3, 1) := by decide +kernel
theorem D209_644 : decode (byt 209) 644 = .ok (.iadd, 1) := by decide +kernel
theorem D209_645 : decode (byt 209) 645 = .ok (.iaload, 1) := by decide +kernel
theorem D209_646 : decode (byt 209) 646 = .ok (.invokevirtual 66, 3) := by decide +kernel
theorem D209_649 : decode (byt 209) 649 = .ok (.aload_n 2, 1) := by decide +kernel
theorem D209_650 : decode (byt 209) 650 = .ok (.aload_n 0, 1) := by decide +kernel
theorem D209_651 : decode (byt 209) 651 = .ok (.iload_n 3, 1) := by decide +kernel
theorem D209_652 : decode (byt 209) 652 = .ok (.iconst 1, 1) := by decide +kernel
theorem D209_653 : decode (byt 209) 653 = .ok (.iadd, 1) := by decide +kernel
theorem D209_654 : decode (byt 209) 654 = .ok (.iaload, 1) := by decide +kernel
theorem D209_655 : decode (byt 209) 655 = .ok (.aload_n 0, 1) := by decide +kernel
theorem D209_656 : decode (byt 209) 656 = .ok (.iload_n 3, 1) := by decide +kernel
theorem D209_657 : decode (byt 209) 657 = .ok (.iconst 2, 1) := by decide +kernel
theorem D209_658 : decode (byt 209) 658 = .ok (.iadd, 1) := by decide +kernel
theorem D209_659 : decode (byt 209) 659 = .ok (.iaload, 1) := by decide +kernel
theorem D209_660 : decode (byt 209) 660 = .ok (.aload_n 0, 1) := by decide +kernel
theorem D209_661 : decode (byt 209) 661 = .ok (.iload_n 3, 1) := by decide +kernel
theorem D209_662 : decode (byt 209) 662 = .ok (.iconst 3, 1) := by decide +kernel
theorem D209_663 : decode (byt 209) 663 = .ok (.iadd, 1) := by decide +kernel
theorem D209_664 : decode (byt 209) 664 = .ok (.iaload, 1) := by decide +kernel
theorem D209_665 : decode (byt 209) 665 = .ok (.invokevirtual 69, 3) := by decide +kernel
theorem D209_668 : decode (byt 209) 668 = .ok (.if_icmp .eq 682, 3) := by decide +kernel
theorem D209_671 : decode (byt 209) 671 = .ok (.iconst 0, 1) := by decide +kernel
theorem D209_672 : decode (byt 209) 672 = .ok (.ireturn, 1) := by decide +kernel
theorem D209_673 : decode (byt 209) 673 = .ok (.aload_n 1, 1) := by decide +kernel
theorem D209_674 : decode (byt 209) 674 = .ok (.aload_n 0, 1) := by decide +kernel
theorem D209_675 : decode (byt 209) 675 = .ok (.iload_n 3, 1) := by decide +kernel
theorem D209_676 : decode (byt 209) 676 = .ok (.iconst 1, 1) := by decide +kernel
theorem D209_677 : decode (byt 209) 677 = .ok (.iadd, 1) := by decide +kernel
theorem D209_678 : decode (byt 209) 678 = .ok (.iaload, 1) := by decide +kernel
theorem D209_679 : decode (byt 209) 679 = .ok (.aload_n 0, 1) := by decide +kernel
theorem D209_680 : decode (byt 209) 680 = .ok (.iload_n 3, 1) := by decide +kernel
theorem D209_681 : decode (byt 209) 681 = .ok (.iconst 2, 1) := by decide +kernel
theorem D209_682 : decode (byt 209) 682 = .ok (.iadd, 1) := by decide +kernel
theorem D209_683 : decode (byt 209) 683 = .ok (.iaload, 1) := by decide +kernel
theorem D209_684 : decode (byt 209) 684 = .ok (.aload_n 0, 1) := by decide +kernel
theorem D209_685 : decode (byt 209) 685 = .ok (.iload_n 3, 1) := by decide +kernel
theorem D209_686 : decode (byt 209) 686 = .ok (.iconst 3, 1) := by decide +kernel
theorem D209_687 : decode (byt 209) 687 = .ok (.iadd, 1) := by decide +kernel
theorem D209_688 : decode (byt 209) 688 = .ok (.iaload, 1) := by decide +kernel
theorem D209_689 : decode (byt 209) 689 = .ok (.aload_n 0, 1) := by decide +kernel
theorem D209_690 : decode (byt 209) 690 = .ok (.iload_n 3, 1) := by decide +kernel
theorem D209_691 : decode (byt 209) 691 = .ok (.iconst 4, 1) := by decide +kernel
theorem D209_692 : decode (byt 209) 692 = .ok (.iadd, 1) := by decide +kernel
theorem D209_693 : decode (byt 209) 693 = .ok (.iaload, 1) := by decide +kernel
theorem D209_694 : decode (byt 209) 694 = .ok (.invokevirtual 70, 3) := by decide +kernel
theorem D209_697 : decode (byt 209) 697 = .ok (.aload_n 2, 1) := by decide +kernel
theorem D209_698 : decode (byt 209) 698 = .ok (.aload_n 0, 1) := by decide +kernel
theorem D209_699 : decode (byt 209) 699 = .ok (.iload_n 3, 1) := by decide +kernel
theorem D209_700 : decode (byt 209) 700 = .ok (.iconst 1, 1) := by decide +kernel
theorem D209_701 : decode (byt 209) 701 = .ok (.iadd, 1) := by decide +kernel
theorem D209_702 : decode (byt 209) 702 = .ok (.iaload, 1) := by decide +kernel
theorem D209_703 : decode (byt 209) 703 = .ok (.aload_n 0, 1) := by decide +kernel
theorem D209_704 : decode (byt 209) 704 = .ok (.iload_n 3, 1) := by decide +kernel
theorem D209_705 : decode (byt 209) 705 = .ok (.iconst 2, 1) := by decide +kernel
theorem D209_706 : decode (byt 209) 706 = .ok (.iadd, 1) := by decide +kernel
theorem D209_707 : decode (byt 209) 707 = .ok (.iaload, 1) := by decide +kernel
theorem D209_708 : decode (byt 209) 708 = .ok (.aload_n 0, 1) := by decide +kernel
theorem D209_709 : decode (byt 209) 709 = .ok (.iload_n 3, 1) := by decide +kernel
theorem D209_710 : decode (byt 209) 710 = .ok (.iconst 3, 1) := by decide +kernel
theorem D209_711 : decode (byt 209) 711 = .ok (.iadd, 1) := by decide +kernel
theorem D209_712 : decode (byt 209) 712 = .ok (.iaload, 1) := by decide +kernel
theorem D209_713 : decode (byt 209) 713 = .ok (.aload_n 0, 1) := by decide +kernel
theorem D209_714 : decode (byt 209) 714 = .ok (.iload_n 3, 1) := by decide +kernel
theorem D209_715 : decode (byt 209) 715 = .ok (.iconst 4, 1) := by decide +kernel
theorem D209_716 : decode (byt 209) 716 = .ok (.iadd, 1) := by decide +kernel
theorem D209_717 : decode (byt 209) 717 = .ok (.iaload, 1) := by decide +kernel
theorem D209_718 : decode (byt 209) 718 = .ok (.invokevirtual 74, 3) := by decide +kernel
theorem D209_721 : decode (byt 209) 721 = .ok (.if_icmp .eq 629, 3) := by decide +kernel
theorem D209_724 : decode (byt 209) 724 = .ok (.iconst 0, 1) := by decide +kernel
theorem D209_725 : decode (byt 209) 725 = .ok (.ireturn, 1) := by decide +kernel
theorem D209_726 : decode (byt 209) 726 = .ok (.aload_n 1, 1) := by decide +kernel
theorem D209_727 : decode (byt 209) 727 = .ok (.aload_n 0, 1) := by decide +kernel
theorem D209_728 : decode (byt 209) 728 = .ok (.iload_n 3, 1) := by decide +kernel
theorem D209_729 : decode (byt 209) 729 = .ok (.iconst 1, 1) := by decide +kernel
theorem D209_730 : decode (byt 209) 730 = .ok (.iadd, 1) := by decide +kernel
theorem D209_731 : decode (byt 209) 731 = .ok (.iaload, 1) := by decide +kernel
theorem D209_732 : decode (byt 209) 732 = .ok (.invokevirtual 75, 3) := by decide +kernel
theorem D209_735 : decode (byt 209) 735 = .ok (.aload_n 2, 1) := by decide +kernel
theorem D209_736 : decode (byt 209) 736 = .ok (.aload_n 0, 1) := by decide +kernel
theorem D209_737 : decode (byt 209) 737 = .ok (.iload_n 3, 1) := by decide +kernel
theorem D209_738 : decode (byt 209) 738 = .ok (.iconst 1, 1) := by decide +kernel
theorem D209_739 : decode (byt 209) 739 = .ok (.iadd, 1) := by decide +kernel
theorem D209_740 : decode (byt 209) 740 = .ok (.iaload, 1) := by decide +kernel
theorem D209_741 : decode (byt 209) 741 = .ok (.invokevirtual 78, 3) := by decide +kernel
theorem D209_744 : decode (byt 209) 744 = .ok (.if_icmp .eq 606, 3) := by decide +kernel
theorem D209_747 : decode (byt 209) 747 = .ok (.iconst 0, 1) := by decide +kernel
theorem D209_748 : decode (byt 209) 748 = .ok (.ireturn, 1) := by decide +kernel
theorem D209_749 : decode (byt 209) 749 = .ok (.aload_n 1, 1) := by decide +kernel
theorem D209_750 : decode (byt 209) 750 = .ok (.invokevirtual 79, 3) := by decide +kernel
theorem D209_753 : decode (byt 209) 753 = .ok (.aload_n 2, 1) := by decide +kernel
theorem D209_754 : decode (byt 209) 754 = .ok (.invokevirtual 83, 3) := by decide +kernel
theorem D209_757 : decode (byt 209) 757 = .ok (.if_icmp .eq 593, 3) := by decide +kernel
theorem D209_760 : decode (byt 209) 760 = .ok (.iconst 0, 1) := by decide +kernel
theorem D209_761 : decode (byt 209) 761 = .ok (.ireturn, 1) := by decide +kernel
theorem D209_762 : decode (byt 209) 762 = .ok (.aload_n 1, 1) := by decide +kernel
theorem D209_763 : decode (byt 209) 763 = .ok (.aload_n 0, 1) := by decide +kernel
theorem D209_764 : decode (byt 209) 764 = .ok (.iload_n 3, 1) := by decide +kernel
theorem D209_765 : decode (byt 209) 765 = .ok (.iconst 1, 1) := by decide +kernel
theorem D209_766 : decode (byt 209) 766 = .ok (.iadd, 1) := by decide +kernel
theorem D209_767 : decode (byt 209) 767 = .ok (.iaload, 1) := by decide +kernel
theorem D209_768 : decode (byt 209) 768 = .ok (.invokevirtual 84, 3) := by decide +kernel
theorem D209_771 : decode (byt 209) 771 = .ok (.aload_n 2, 1) := by decide +kernel
theorem D209_772 : decode (byt 209) 772 = .ok (.aload_n 0, 1) := by decide +kernel
theorem D209_773 : decode (byt 209) 773 = .ok (.iload_n 3, 1) := by decide +kernel
theorem D209_774 : decode (byt 209) 774 = .ok (.iconst 1, 1) := by decide +kernel
theorem D209_775 : decode (byt 209) 775 = .ok (.iadd, 1) := by decide +kernel
theorem D209_776 : decode (byt 209) 776 = .ok (.iaload, 1) := by decide +kernel
theorem D209_777 : decode (byt 209) 777 = .ok (.invokevirtual 87, 3) := by decide +kernel
theorem D209_780 : decode (byt 209) 780 = .ok (.if_icmp .eq 570, 3) := by decide +kernel
theorem D209_783 : decode (byt 209) 783 = .ok (.iconst 0, 1) := by decide +kernel
theorem D209_784 : decode (byt 209) 784 = .ok (.ireturn, 1) := by decide +kernel
theorem D209_785 : decode (byt 209) 785 = .ok (.aload_n 1, 1) := by decide +kernel
theorem D209_786 : decode (byt 209) 786 = .ok (.aload_n 0, 1) := by decide +kernel
theorem D209_787 : decode (byt 209) 787 = .ok (.iload_n 3, 1) := by decide +kernel
theorem D209_788 : decode (byt 209) 788 = .ok (.iconst 1, 1) := by decide +kernel
theorem D209_789 : decode (byt 209) 789 = .ok (.iadd, 1) := by decide +kernel
theorem D209_790 : decode (byt 209) 790 = .ok (.iaload, 1) := by decide +kernel
theorem D209_791 : decode (byt 209) 791 = .ok (.aload_n 0, 1) := by decide +kernel
theorem D209_792 : decode (byt 209) 792 = .ok (.iload_n 3, 1) := by decide +kernel
theorem D209_793 : decode (byt 209) 793 = .ok (.iconst 2, 1) := by decide +kernel
theorem D209_794 : decode (byt 209) 794 = .ok (.iadd, 1) := by decide +kernel
theorem D209_795 : decode (byt 209) 795 = .ok (.iaload, 1) := by decide +kernel
theorem D209_796 : decode (byt 209) 796 = .ok (.invokevirtual 88, 3) := by decide +kernel
theorem D209_799 : decode (byt 209) 799 = .ok (.aload_n 2, 1) := by decide +kernel
theorem D209_800 : decode (byt 209) 800 = .ok (.aload_n 0, 1) := by decide +kernel
theorem D209_801 : decode (byt 209) 801 = .ok (.iload_n 3, 1) := by decide +kernel
theorem D209_802 : decode (byt 209) 802 = .ok (.iconst 1, 1) := by decide +kernel
theorem D209_803 : decode (byt 209) 803 = .ok (.iadd, 1) := by decide +kernel
theorem D209_804 : decode (byt 209) 804 = .ok (.iaload, 1) := by decide +kernel
theorem D209_805 : decode (byt 209) 805 = .ok (.aload_n 0, 1) := by decide +kernel
theorem D209_806 : decode (byt 209) 806 = .ok (.iload_n 3, 1) := by decide +kernel
theorem D209_807 : decode (byt 209) 807 = .ok (.iconst 2, 1) := by decide +kernel
theorem D209_808 : decode (byt 209) 808 = .ok (.iadd, 1) := by decide +kernel
theorem D209_809 : decode (byt 209) 809 = .ok (.iaload, 1) := by decide +kernel
theorem D209_810 : decode (byt 209) 810 = .ok (.invokevirtual 91, 3) := by decide +kernel
theorem D209_813 : decode (byt 209) 813 = .ok (.if_icmp .eq 537, 3) := by decide +kernel
theorem D209_816 : decode (byt 209) 816 = .ok (.iconst 0, 1) := by decide +kernel
theorem D209_817 : decode (byt 209) 817 = .ok (.ireturn, 1) := by decide +kernel
theorem D209_818 : decode (byt 209) 818 = .ok (.aload_n 1, 1) := by decide +kernel
theorem D209_819 : decode (byt 209) 819 = .ok (.aload_n 0, 1) := by decide +kernel
theorem D209_820 : decode (byt 209) 820 = .ok (.iload_n 3, 1) := by decide +kernel
theorem D209_821 : decode (byt 209) 821 = .ok (.iconst 1, 1) := by decide +kernel
theorem D209_822 : decode (byt 209) 822 = .ok (.iadd, 1) := by decide +kernel
theorem D209_823 : decode (byt 209) 823 = .ok (.iaload, 1) := by decide +kernel
theorem D209_824 : decode (byt 209) 824 = .ok (.invokevirtual 92, 3) := by decide +kernel
theorem D209_827 : decode (byt 209) 827 = .ok (.aload_n 2, 1) := by decide +kernel
theorem D209_828 : decode (byt 209) 828 = .ok (.aload_n 0, 1) := by decide +kernel
theorem D209_829 : decode (byt 209) 829 = .ok (.iload_n 3, 1) := by decide +kernel
theorem D209_830 : decode (byt 209) 830 = .ok (.iconst 1, 1) := by decide +kernel
theorem D209_831 : decode (byt 209) 831 = .ok (.iadd, 1) := by decide +kernel
theorem D209_832 : decode (byt 209) 832 = .ok (.iaload, 1) := by decide +kernel
theorem D209_833 : decode (byt 209) 833 = .ok (.invokevirtual 96, 3) := by decide +kernel
theorem D209_836 : decode (byt 209) 836 = .ok (.lcmp, 1) := by decide +kernel
theorem D209_837 : decode (byt 209) 837 = .ok (.ifCond .eq 513, 3) := by decide +kernel
theorem D209_840 : decode (byt 209) 840 = .ok (.iconst 0, 1) := by decide +kernel
theorem D209_841 : decode (byt 209) 841 = .ok (.ireturn, 1) := by decide +kernel
theorem D209_842 : decode (byt 209) 842 = .ok (.aload_n 1, 1) := by decide +kernel
theorem D209_843 : decode (byt 209) 843 = .ok (.aload_n 0, 1) := by decide +kernel
theorem D209_844 : decode (byt 209) 844 = .ok (.iload_n 3, 1) := by decide +kernel
theorem D209_845 : decode (byt 209) 845 = .ok (.iconst 1, 1) := by decide +kernel
theorem D209_846 : decode (byt 209) 846 = .ok (.iadd, 1) := by decide +kernel
theorem D209_847 : decode (byt 209) 847 = .ok (.iaload, 1) := by decide +kernel
theorem D209_848 : decode (byt 209) 848 = .ok (.aload_n 0, 1) := by decide +kernel
theorem D209_849 : decode (byt 209) 849 = .ok (.iload_n 3, 1) := by decide +kernel
theorem D209_850 : decode (byt 209) 850 = .ok (.iconst 2, 1) := by decide +kernel
theorem D209_851 : decode (byt 209) 851 = .ok (.iadd, 1) := by decide +kernel
theorem D209_852 : decode (byt 209) 852 = .ok (.iaload, 1) := by decide +kernel
theorem D209_853 : decode (byt 209) 853 = .ok (.aload_n 0, 1) := by decide +kernel
theorem D209_854 : decode (byt 209) 854 = .ok (.iload_n 3, 1) := by decide +kernel
theorem D209_855 : decode (byt 209) 855 = .ok (.iconst 3, 1) := by decide +kernel
theorem D209_856 : decode (byt 209) 856 = .ok (.iadd, 1) := by decide +kernel
theorem D209_857 : decode (byt 209) 857 = .ok (.iaload, 1) := by decide +kernel
theorem D209_858 : decode (byt 209) 858 = .ok (.ifCond .eq 7, 3) := by decide +kernel
theorem D209_861 : decode (byt 209) 861 = .ok (.iconst 1, 1) := by decide +kernel
theorem D209_862 : decode (byt 209) 862 = .ok (.goto 4, 3) := by decide +kernel
theorem D209_865 : decode (byt 209) 865 = .ok (.iconst 0, 1) := by decide +kernel
theorem D209_866 : decode (byt 209) 866 = .ok (.invokevirtual 97, 3) := by decide +kernel
theorem D209_869 : decode (byt 209) 869 = .ok (.aload_n 2, 1) := by decide +kernel
theorem D209_870 : decode (byt 209) 870 = .ok (.aload_n 0, 1) := by decide +kernel
theorem D209_871 : decode (byt 209) 871 = .ok (.iload_n 3, 1) := by decide +kernel
theorem D209_872 : decode (byt 209) 872 = .ok (.iconst 1, 1) := by decide +kernel
theorem D209_873 : decode (byt 209) 873 = .ok (.iadd, 1) := by decide +kernel
theorem D209_874 : decode (byt 209) 874 = .ok (.iaload, 1) := by decide +kernel
theorem D209_875 : decode (byt 209) 875 = .ok (.aload_n 0, 1) := by decide +kernel
theorem D209_876 : decode (byt 209) 876 = .ok (.iload_n 3, 1) := by decide +kernel
theorem D209_877 : decode (byt 209) 877 = .ok (.iconst 2, 1) := by decide +kernel
theorem D209_878 : decode (byt 209) 878 = .ok (.iadd, 1) := by decide +kernel
theorem D209_879 : decode (byt 209) 879 = .ok (.iaload, 1) := by decide +kernel
theorem D209_880 : decode (byt 209) 880 = .ok (.aload_n 0, 1) := by decide +kernel
theorem D209_881 : decode (byt 209) 881 = .ok (.iload_n 3, 1) := by decide +kernel
theorem D209_882 : decode (byt 209) 882 = .ok (.iconst 3, 1) := by decide +kernel
theorem D209_883 : decode (byt 209) 883 = .ok (.iadd, 1) := by decide +kernel
theorem D209_884 : decode (byt 209) 884 = .ok (.iaload, 1) := by decide +kernel
theorem D209_885 : decode (byt 209) 885 = .ok (.ifCond .eq 7, 3) := by decide +kernel
theorem D209_888 : decode (byt 209) 888 = .ok (.iconst 1, 1) := by decide +kernel
theorem D209_889 : decode (byt 209) 889 = .ok (.goto 4, 3) := by decide +kernel
theorem D209_892 : decode (byt 209) 892 = .ok (.iconst 0, 1) := by decide +kernel
theorem D209_893 : decode (byt 209) 893 = .ok (.invokevirtual 101, 3) := by decide +kernel
theorem D209_896 : decode (byt 209) 896 = .ok (.lcmp, 1) := by decide +kernel
theorem D209_897 : decode (byt 209) 897 = .ok (.ifCond .eq 453, 3) := by decide +kernel
theorem D209_900 : decode (byt 209) 900 = .ok (.iconst 0, 1) := by decide +kernel
theorem D209_901 : decode (byt 209) 901 = .ok (.ireturn, 1) := by decide +kernel
theorem D209_902 : decode (byt 209) 902 = .ok (.aload_n 1, 1) := by decide +kernel
theorem D209_903 : decode (byt 209) 903 = .ok (.aload_n 0, 1) := by decide +kernel
theorem D209_904 : decode (byt 209) 904 = .ok (.iload_n 3, 1) := by decide +kernel
theorem D209_905 : decode (byt 209) 905 = .ok (.iconst 1, 1) := by decide +kernel
theorem D209_906 : decode (byt 209) 906 = .ok (.iadd, 1) := by decide +kernel
theorem D209_907 : decode (byt 209) 907 = .ok (.iaload, 1) := by decide +kernel
theorem D209_908 : decode (byt 209) 908 = .ok (.aload_n 0, 1) := by decide +kernel
theorem D209_909 : decode (byt 209) 909 = .ok (.iload_n 3, 1) := by decide +kernel
theorem D209_910 : decode (byt 209) 910 = .ok (.iconst 2, 1) := by decide +kernel
theorem D209_911 : decode (byt 209) 911 = .ok (.iadd, 1) := by decide +kernel
theorem D209_912 : decode (byt 209) 912 = .ok (.iaload, 1) := by decide +kernel
theorem D209_913 : decode (byt 209) 913 = .ok (.invokevirtual 102, 3) := by decide +kernel
theorem D209_916 : decode (byt 209) 916 = .ok (.aload_n 2, 1) := by decide +kernel
theorem D209_917 : decode (byt 209) 917 = .ok (.aload_n 0, 1) := by decide +kernel
theorem D209_918 : decode (byt 209) 918 = .ok (.iload_n 3, 1) := by decide +kernel
theorem D209_919 : decode (byt 209) 919 = .ok (.iconst 1, 1) := by decide +kernel
theorem D209_920 : decode (byt 209) 920 = .ok (.iadd, 1) := by decide +kernel
theorem D209_921 : decode (byt 209) 921 = .ok (.iaload, 1) := by decide +kernel
theorem D209_922 : decode (byt 209) 922 = .ok (.aload_n 0, 1) := by decide +kernel
theorem D209_923 : decode (byt 209) 923 = .ok (.iload_n 3, 1) := by decide +kernel
theorem D209_924 : decode (byt 209) 924 = .ok (.iconst 2, 1) := by decide +kernel
theorem D209_925 : decode (byt 209) 925 = .ok (.iadd, 1) := by decide +kernel
theorem D209_926 : decode (byt 209) 926 = .ok (.iaload, 1) := by decide +kernel
theorem D209_927 : decode (byt 209) 927 = .ok (.invokevirtual 105, 3) := by decide +kernel
theorem D209_930 : decode (byt 209) 930 = .ok (.if_icmp .eq 420, 3) := by decide +kernel
theorem D209_933 : decode (byt 209) 933 = .ok (.iconst 0, 1) := by decide +kernel
theorem D209_934 : decode (byt 209) 934 = .ok (.ireturn, 1) := by decide +kernel
theorem D209_935 : decode (byt 209) 935 = .ok (.aload_n 1, 1) := by decide +kernel
theorem D209_936 : decode (byt 209) 936 = .ok (.aload_n 0, 1) := by decide +kernel
theorem D209_937 : decode (byt 209) 937 = .ok (.iload_n 3, 1) := by decide +kernel
theorem D209_938 : decode (byt 209) 938 = .ok (.iconst 1, 1) := by decide +kernel
theorem D209_939 : decode (byt 209) 939 = .ok (.iadd, 1) := by decide +kernel
theorem D209_940 : decode (byt 209) 940 = .ok (.iaload, 1) := by decide +kernel
theorem D209_941 : decode (byt 209) 941 = .ok (.aload_n 0, 1) := by decide +kernel
theorem D209_942 : decode (byt 209) 942 = .ok (.iload_n 3, 1) := by decide +kernel
theorem D209_943 : decode (byt 209) 943 = .ok (.iconst 2, 1) := by decide +kernel
theorem D209_944 : decode (byt 209) 944 = .ok (.iadd, 1) := by decide +kernel
theorem D209_945 : decode (byt 209) 945 = .ok (.iaload, 1) := by decide +kernel
theorem D209_946 : decode (byt 209) 946 = .ok (.invokevirtual 106, 3) := by decide +kernel
theorem D209_949 : decode (byt 209) 949 = .ok (.aload_n 2, 1) := by decide +kernel
theorem D209_950 : decode (byt 209) 950 = .ok (.aload_n 0, 1) := by decide +kernel
theorem D209_951 : decode (byt 209) 951 = .ok (.iload_n 3, 1) := by decide +kernel
theorem D209_952 : decode (byt 209) 952 = .ok (.iconst 1, 1) := by decide +kernel
theorem D209_953 : decode (byt 209) 953 = .ok (.iadd, 1) := by decide +kernel
theorem D209_954 : decode (byt 209) 954 = .ok (.iaload, 1) := by decide +kernel
theorem D209_955 : decode (byt 209) 955 = .ok (.aload_n 0, 1) := by decide +kernel
theorem D209_956 : decode (byt 209) 956 = .ok (.iload_n 3, 1) := by decide +kernel
theorem D209_957 : decode (byt 209) 957 = .ok (.iconst 2, 1) := by decide +kernel
theorem D209_958 : decode (byt 209) 958 = .ok (.iadd, 1) := by decide +kernel
theorem D209_959 : decode (byt 209) 959 = .ok (.iaload, 1) := by decide +kernel
theorem D209_960 : decode (byt 209) 960 = .ok (.invokevirtual 109, 3) := by decide +kernel
theorem D209_963 : decode (byt 209) 963 = .ok (.if_icmp .eq 387, 3) := by decide +kernel
theorem D209_966 : decode (byt 209) 966 = .ok (.iconst 0, 1) := by decide +kernel
theorem D209_967 : decode (byt 209) 967 = .ok (.ireturn, 1) := by decide +kernel
theorem D209_968 : decode (byt 209) 968 = .ok (.aload_n 1, 1) := by decide +kernel
theorem D209_969 : decode (byt 209) 969 = .ok (.aload_n 0, 1) := by decide +kernel
theorem D209_970 : decode (byt 209) 970 = .ok (.iload_n 3, 1) := by decide +kernel
theorem D209_971 : decode (byt 209) 971 = .ok (.iconst 1, 1) := by decide +kernel
theorem D209_972 : decode (byt 209) 972 = .ok (.iadd, 1) := by decide +kernel
theorem D209_973 : decode (byt 209) 973 = .ok (.iaload, 1) := by decide +kernel
theorem D209_974 : decode (byt 209) 974 = .ok (.aload_n 0, 1) := by decide +kernel
theorem D209_975 : decode (byt 209) 975 = .ok (.iload_n 3, 1) := by decide +kernel
theorem D209_976 : decode (byt 209) 976 = .ok (.iconst 2, 1) := by decide +kernel
theorem D209_977 : decode (byt 209) 977 = .ok (.iadd, 1) := by decide +kernel
theorem D209_978 : decode (byt 209) 978 = .ok (.iaload, 1) := by decide +kernel
theorem D209_979 : decode (byt 209) 979 = .ok (.invokevirtual 110, 3) := by decide +kernel
theorem D209_982 : decode (byt 209) 982 = .ok (.aload_n 2, 1) := by decide +kernel
theorem D209_983 : decode (byt 209) 983 = .ok (.aload_n 0, 1) := by decide +kernel
theorem D209_984 : decode (byt 209) 984 = .ok (.iload_n 3, 1) := by decide +kernel
theorem D209_985 : decode (byt 209) 985 = .ok (.iconst 1, 1) := by decide +kernel
theorem D209_986 : decode (byt 209) 986 = .ok (.iadd, 1) := by decide +kernel
theorem D209_987 : decode (byt 209) 987 = .ok (.iaload, 1) := by decide +kernel
theorem D209_988 : decode (byt 209) 988 = .ok (.aload_n 0, 1) := by decide +kernel
theorem D209_989 : decode (byt 209) 989 = .ok (.iload_n 3, 1) := by decide +kernel
theorem D209_990 : decode (byt 209) 990 = .ok (.iconst 2, 1) := by decide +kernel
theorem D209_991 : decode (byt 209) 991 = .ok (.iadd, 1) := by decide +kernel
theorem D209_992 : decode (byt 209) 992 = .ok (.iaload, 1) := by decide +kernel
theorem D209_993 : decode (byt 209) 993 = .ok (.invokevirtual 113, 3) := by decide +kernel
theorem D209_996 : decode (byt 209) 996 = .ok (.if_icmp .eq 354, 3) := by decide +kernel
theorem D209_999 : decode (byt 209) 999 = .ok (.iconst 0, 1) := by decide +kernel
theorem D209_1000 : decode (byt 209) 1000 = .ok (.ireturn, 1) := by decide +kernel
theorem D209_1001 : decode (byt 209) 1001 = .ok (.aload_n 1, 1) := by decide +kernel
theorem D209_1002 : decode (byt 209) 1002 = .ok (.aload_n 0, 1) := by decide +kernel
theorem D209_1003 : decode (byt 209) 1003 = .ok (.iload_n 3, 1) := by decide +kernel
theorem D209_1004 : decode (byt 209) 1004 = .ok (.iconst 1, 1) := by decide +kernel
theorem D209_1005 : decode (byt 209) 1005 = .ok (.iadd, 1) := by decide +kernel
theorem D209_1006 : decode (byt 209) 1006 = .ok (.iaload, 1) := by decide +kernel
theorem D209_1007 : decode (byt 209) 1007 = .ok (.aload_n 0, 1) := by decide +kernel
theorem D209_1008 : decode (byt 209) 1008 = .ok (.iload_n 3, 1) := by decide +kernel
theorem D209_1009 : decode (byt 209) 1009 = .ok (.iconst 2, 1) := by decide +kernel
theorem D209_1010 : decode (byt 209) 1010 = .ok (.iadd, 1) := by decide +kernel
theorem D209_1011 : decode (byt 209) 1011 = .ok (.iaload, 1) := by decide +kernel
theorem D209_1012 : decode (byt 209) 1012 = .ok (.invokevirtual 114, 3) := by decide +kernel
theorem D209_1015 : decode (byt 209) 1015 = .ok (.aload_n 2, 1) := by decide +kernel
theorem D209_1016 : decode (byt 209) 1016 = .ok (.aload_n 0, 1) := by decide +kernel
theorem D209_1017 : decode (byt 209) 1017 = .ok (.iload_n 3, 1) := by decide +kernel
theorem D209_1018 : decode (byt 209) 1018 = .ok (.iconst 1, 1) := by decide +kernel
theorem D209_1019 : decode (byt 209) 1019 = .ok (.iadd, 1) := by decide +kernel
theorem D209_1020 : decode (byt 209) 1020 = .ok (.iaload, 1) := by decide +kernel
theorem D209_1021 : decode (byt 209) 1021 = .ok (.aload_n 0, 1) := by decide +kernel
theorem D209_1022 : decode (byt 209) 1022 = .ok (.iload_n 3, 1) := by decide +kernel
theorem D209_1023 : decode (byt 209) 1023 = .ok (.iconst 2, 1) := by decide +kernel
theorem D209_1024 : decode (byt 209) 1024 = .ok (.iadd, 1) := by decide +kernel
theorem D209_1025 : decode (byt 209) 1025 = .ok (.iaload, 1) := by decide +kernel
theorem D209_1026 : decode (byt 209) 1026 = .ok (.invokevirtual 117, 3) := by decide +kernel
theorem D209_1029 : decode (byt 209) 1029 = .ok (.if_icmp .eq 321, 3) := by decide +kernel
theorem D209_1032 : decode (byt 209) 1032 = .ok (.iconst 0, 1) := by decide +kernel
theorem D209_1033 : decode (byt 209) 1033 = .ok (.ireturn, 1) := by decide +kernel
theorem D209_1034 : decode (byt 209) 1034 = .ok (.aload_n 1, 1) := by decide +kernel
theorem D209_1035 : decode (byt 209) 1035 = .ok (.aload_n 0, 1) := by decide +kernel
theorem D209_1036 : decode (byt 209) 1036 = .ok (.iload_n 3, 1) := by decide +kernel
theorem D209_1037 : decode (byt 209) 1037 = .ok (.iconst 1, 1) := by decide +kernel
theorem D209_1038 : decode (byt 209) 1038 = .ok (.iadd, 1) := by decide +kernel
theorem D209_1039 : decode (byt 209) 1039 = .ok (.iaload, 1) := by decide +kernel
theorem D209_1040 : decode (byt 209) 1040 = .ok (.aload_n 0, 1) := by decide +kernel
theorem D209_1041 : decode (byt 209) 1041 = .ok (.iload_n 3, 1) := by decide +kernel
theorem D209_1042 : decode (byt 209) 1042 = .ok (.iconst 2, 1) := by decide +kernel
theorem D209_1043 : decode (byt 209) 1043 = .ok (.iadd, 1) := by decide +kernel
theorem D209_1044 : decode (byt 209) 1044 = .ok (.iaload, 1) := by decide +kernel
theorem D209_1045 : decode (byt 209) 1045 = .ok (.ifCond .eq 7, 3) := by decide +kernel
theorem D209_1048 : decode (byt 209) 1048 = .ok (.iconst 1, 1) := by decide +kernel
theorem D209_1049 : decode (byt 209) 1049 = .ok (.goto 4, 3) := by decide +kernel
theorem D209_1052 : decode (byt 209) 1052 = .ok (.iconst 0, 1) := by decide +kernel
theorem D209_1053 : decode (byt 209) 1053 = .ok (.invokevirtual 118, 3) := by decide +kernel
theorem D209_1056 : decode (byt 209) 1056 = .ok (.aload_n 2, 1) := by decide +kernel
theorem D209_1057 : decode (byt 209) 1057 = .ok (.aload_n 0, 1) := by decide +kernel
theorem D209_1058 : decode (byt 209) 1058 = .ok (.iload_n 3, 1) := by decide +kernel
theorem D209_1059 : decode (byt 209) 1059 = .ok (.iconst 1, 1) := by decide +kernel
theorem D209_1060 : decode (byt 209) 1060 = .ok (.iadd, 1) := by decide +kernel
theorem D209_1061 : decode (byt 209) 1061 = .ok (.iaload, 1) := by decide +kernel
theorem D209_1062 : decode (byt 209) 1062 = .ok (.aload_n 0, 1) := by decide +kernel
theorem D209_1063 : decode (byt 209) 1063 = .ok (.iload_n 3, 1) := by decide +kernel
theorem D209_1064 : decode (byt 209) 1064 = .ok (.iconst 2, 1) := by decide +kernel
theorem D209_1065 : decode (byt 209) 1065 = .ok (.iadd, 1) := by decide +kernel
theorem D209_1066 : decode (byt 209) 1066 = .ok (.iaload, 1) := by decide +kernel
theorem D209_1067 : decode (byt 209) 1067 = .ok (.ifCond .eq 7, 3) := by decide +kernel
theorem D209_1070 : decode (byt 209) 1070 = .ok (.iconst 1, 1) := by decide +kernel
theorem D209_1071 : decode (byt 209) 1071 = .ok (.goto 4, 3) := by decide +kernel
theorem D209_1074 : decode (byt 209) 1074 = .ok (.iconst 0, 1) := by decide +kernel
theorem D209_1075 : decode (byt 209) 1075 = .ok (.invokevirtual 122, 3) := by decide +kernel
theorem D209_1078 : decode (byt 209) 1078 = .ok (.if_icmp .eq 272, 3) := by decide +kernel
theorem D209_1081 : decode (byt 209) 1081 = .ok (.iconst 0, 1) := by decide +kernel
theorem D209_1082 : decode (byt 209) 1082 = .ok (.ireturn, 1) := by decide +kernel
theorem D209_1083 : decode (byt 209) 1083 = .ok (.aload_n 1, 1) := by decide +kernel
theorem D209_1084 : decode (byt 209) 1084 = .ok (.aload_n 0, 1) := by decide +kernel
theorem D209_1085 : decode (byt 209) 1085 = .ok (.iload_n 3, 1) := by decide +kernel
theorem D209_1086 : decode (byt 209) 1086 = .ok (.iconst 1, 1) := by decide +kernel
theorem D209_1087 : decode (byt 209) 1087 = .ok (.iadd, 1) := by decide +kernel
theorem D209_1088 : decode (byt 209) 1088 = .ok (.iaload, 1) := by decide +kernel
theorem D209_1089 : decode (byt 209) 1089 = .ok (.aload_n 0, 1) := by decide +kernel
theorem D209_1090 : decode (byt 209) 1090 = .ok (.iload_n 3, 1) := by decide +kernel
theorem D209_1091 : decode (byt 209) 1091 = .ok (.iconst 2, 1) := by decide +kernel
theorem D209_1092 : decode (byt 209) 1092 = .ok (.iadd, 1) := by decide +kernel
theorem D209_1093 : decode (byt 209) 1093 = .ok (.iaload, 1) := by decide +kernel
theorem D209_1094 : decode (byt 209) 1094 = .ok (.invokevirtual 123, 3) := by decide +kernel
theorem D209_1097 : decode (byt 209) 1097 = .ok (.aload_n 2, 1) := by decide +kernel
theorem D209_1098 : decode (byt 209) 1098 = .ok (.aload_n 0, 1) := by decide +kernel
theorem D209_1099 : decode (byt 209) 1099 = .ok (.iload_n 3, 1) := by decide +kernel
theorem D209_1100 : decode (byt 209) 1100 = .ok (.iconst 1, 1) := by decide +kernel
theorem D209_1101 : decode (byt 209) 1101 = .ok (.iadd, 1) := by decide +kernel
theorem D209_1102 : decode (byt 209) 1102 = .ok (.iaload, 1) := by decide +kernel
theorem D209_1103 : decode (byt 209) 1103 = .ok (.aload_n 0, 1) := by decide +kernel
theorem D209_1104 : decode (byt 209) 1104 = .ok (.iload_n 3, 1) := by decide +kernel
theorem D209_1105 : decode (byt 209) 1105 = .ok (.iconst 2, 1) := by decide +kernel
theorem D209_1106 : decode (byt 209) 1106 = .ok (.iadd, 1) := by decide +kernel
theorem D209_1107 : decode (byt 209) 1107 = .ok (.iaload, 1) := by decide +kernel
theorem D209_1108 : decode (byt 209) 1108 = .ok (.invokevirtual 127, 3) := by decide +kernel
theorem D209_1111 : decode (byt 209) 1111 = .ok (.lcmp, 1) := by decide +kernel
theorem D209_1112 : decode (byt 209) 1112 = .ok (.ifCond .eq 238, 3) := by decide +kernel
theorem D209_1115 : decode (byt 209) 1115 = .ok (.iconst 0, 1) := by decide +kernel
theorem D209_1116 : decode (byt 209) 1116 = .ok (.ireturn, 1) := by decide +kernel
theorem D209_1117 : decode (byt 209) 1117 = .ok (.aload_n 1, 1) := by decide +kernel
theorem D209_1118 : decode (byt 209) 1118 = .ok (.aload_n 0, 1) := by decide +kernel
theorem D209_1119 : decode (byt 209) 1119 = .ok (.iload_n 3, 1) := by decide +kernel
theorem D209_1120 : decode (byt 209) 1120 = .ok (.iconst 1, 1) := by decide +kernel
theorem D209_1121 : decode (byt 209) 1121 = .ok (.iadd, 1) := by decide +kernel
theorem D209_1122 : decode (byt 209) 1122 = .ok (.iaload, 1) := by decide +kernel
theorem D209_1123 : decode (byt 209) 1123 = .ok (.invokevirtual 128, 3) := by decide +kernel
theorem D209_1126 : decode (byt 209) 1126 = .ok (.aload_n 2, 1) := by decide +kernel
theorem D209_1127 : decode (byt 209) 1127 = .ok (.aload_n 0, 1) := by decide +kernel
theorem D209_1128 : decode (byt 209) 1128 = .ok (.iload_n 3, 1) := by decide +kernel
theorem D209_1129 : decode (byt 209) 1129 = .ok (.iconst 1, 1) := by decide +kernel
theorem D209_1130 : decode (byt 209) 1130 = .ok (.iadd, 1) := by decide +kernel
theorem D209_1131 : decode (byt 209) 1131 = .ok (.iaload, 1) := by decide +kernel
theorem D209_1132 : decode (byt 209) 1132 = .ok (.invokevirtual 131, 3) := by decide +kernel
theorem D209_1135 : decode (byt 209) 1135 = .ok (.if_icmp .eq 215, 3) := by decide +kernel
theorem D209_1138 : decode (byt 209) 1138 = .ok (.iconst 0, 1) := by decide +kernel
theorem D209_1139 : decode (byt 209) 1139 = .ok (.ireturn, 1) := by decide +kernel
theorem D209_1140 : decode (byt 209) 1140 = .ok (.aload_n 1, 1) := by decide +kernel
theorem D209_1141 : decode (byt 209) 1141 = .ok (.aload_n 0, 1) := by decide +kernel
theorem D209_1142 : decode (byt 209) 1142 = .ok (.iload_n 3, 1) := by decide +kernel
theorem D209_1143 : decode (byt 209) 1143 = .ok (.iconst 1, 1) := by decide +kernel
theorem D209_1144 : decode (byt 209) 1144 = .ok (.iadd, 1) := by decide +kernel
theorem D209_1145 : decode (byt 209) 1145 = .ok (.iaload, 1) := by decide +kernel
theorem D209_1146 : decode (byt 209) 1146 = .ok (.ifCond .eq 7, 3) := by decide +kernel
theorem D209_1149 : decode (byt 209) 1149 = .ok (.iconst 1, 1) := by decide +kernel
theorem D209_1150 : decode (byt 209) 1150 = .ok (.goto 4, 3) := by decide +kernel
theorem D209_1153 : decode (byt 209) 1153 = .ok (.iconst 0, 1) := by decide +kernel
theorem D209_1154 : decode (byt 209) 1154 = .ok (.invokevirtual 132, 3) := by decide +kernel
theorem D209_1157 : decode (byt 209) 1157 = .ok (.aload_n 2, 1) := by decide +kernel
theorem D209_1158 : decode (byt 209) 1158 = .ok (.aload_n 0, 1) := by decide +kernel
theorem D209_1159 : decode (byt 209) 1159 = .ok (.iload_n 3, 1) := by decide +kernel
theorem D209_1160 : decode (byt 209) 1160 = .ok (.iconst 1, 1) := by decide +kernel
theorem D209_1161 : decode (byt 209) 1161 = .ok (.iadd, 1) := by decide +kernel
theorem D209_1162 : decode (byt 209) 1162 = .ok (.iaload, 1) := by decide +kernel
theorem D209_1163 : decode (byt 209) 1163 = .ok (.ifCond .eq 7, 3) := by decide +kernel
theorem D209_1166 : decode (byt 209) 1166 = .ok (.iconst 1, 1) := by decide +kernel
theorem D209_1167 : decode (byt 209) 1167 = .ok (.goto 4, 3) := by decide +kernel
theorem D209_1170 : decode (byt 209) 1170 = .ok (.iconst 0, 1) := by decide +kernel
theorem D209_1171 : decode (byt 209) 1171 = .ok (.invokevirtual 136, 3) := by decide +kernel
theorem D209_1174 : decode (byt 209) 1174 = .ok (.if_icmp .eq 176, 3) := by decide +kernel
theorem D209_1177 : decode (byt 209) 1177 = .ok (.iconst 0, 1) := by decide +kernel
theorem D209_1178 : decode (byt 209) 1178 = .ok (.ireturn, 1) := by decide +kernel
theorem D209_1179 : decode (byt 209) 1179 = .ok (.aload_n 1, 1) := by decide +kernel
theorem D209_1180 : decode (byt 209) 1180 = .ok (.invokevirtual 137, 3) := by decide +kernel
theorem D209_1183 : decode (byt 209) 1183 = .ok (.aload_n 2, 1) := by decide +kernel
theorem D209_1184 : decode (byt 209) 1184 = .ok (.invokevirtual 140, 3) := by decide +kernel
theorem D209_1187 : decode (byt 209) 1187 = .ok (.if_icmp .eq 163, 3) := by decide +kernel
theorem D209_1190 : decode (byt 209) 1190 = .ok (.iconst 0, 1) := by decide +kernel
theorem D209_1191 : decode (byt 209) 1191 = .ok (.ireturn, 1) := by decide +kernel
theorem D209_1192 : decode (byt 209) 1192 = .ok (.aload_n 1, 1) := by decide +kernel
theorem D209_1193 : decode (byt 209) 1193 = .ok (.aload_n 0, 1) := by decide +kernel
theorem D209_1194 : decode (byt 209) 1194 = .ok (.iload_n 3, 1) := by decide +kernel
theorem D209_1195 : decode (byt 209) 1195 = .ok (.iconst 1, 1) := by decide +kernel
theorem D209_1196 : decode (byt 209) 1196 = .ok (.iadd, 1) := by decide +kernel
theorem D209_1197 : decode (byt 209) 1197 = .ok (.iaload, 1) := by decide +kernel
theorem D209_1198 : decode (byt 209) 1198 = .ok (.aload_n 0, 1) := by decide +kernel
theorem D209_1199 : decode (byt 209) 1199 = .ok (.iload_n 3, 1) := by decide +kernel
theorem D209_1200 : decode (byt 209) 1200 = .ok (.iconst 2, 1) := by decide +kernel
theorem D209_1201 : decode (byt 209) 1201 = .ok (.iadd, 1) := by decide +kernel
theorem D209_1202 : decode (byt 209) 1202 = .ok (.iaload, 1) := by decide +kernel
theorem D209_1203 : decode (byt 209) 1203 = .ok (.invokevirtual 141, 3) := by decide +kernel
theorem D209_1206 : decode (byt 209) 1206 = .ok (.aload_n 2, 1) := by decide +kernel
theorem D209_1207 : decode (byt 209) 1207 = .ok (.aload_n 0, 1) := by decide +kernel
theorem D209_1208 : decode (byt 209) 1208 = .ok (.iload_n 3, 1) := by decide +kernel
theorem D209_1209 : decode (byt 209) 1209 = .ok (.iconst 1, 1) := by decide +kernel
theorem D209_1210 : decode (byt 209) 1210 = .ok (.iadd, 1) := by decide +kernel
theorem D209_1211 : decode (byt 209) 1211 = .ok (.iaload, 1) := by decide +kernel
theorem D209_1212 : decode (byt 209) 1212 = .ok (.aload_n 0, 1) := by decide +kernel
theorem D209_1213 : decode (byt 209) 1213 = .ok (.iload_n 3, 1) := by decide +kernel
theorem D209_1214 : decode (byt 209) 1214 = .ok (.iconst 2, 1) := by decide +kernel
theorem D209_1215 : decode (byt 209) 1215 = .ok (.iadd, 1) := by decide +kernel
theorem D209_1216 : decode (byt 209) 1216 = .ok (.iaload, 1) := by decide +kernel
theorem D209_1217 : decode (byt 209) 1217 = .ok (.invokevirtual 144, 3) := by decide +kernel
theorem D209_1220 : decode (byt 209) 1220 = .ok (.if_icmp .eq 130, 3) := by decide +kernel
theorem D209_1223 : decode (byt 209) 1223 = .ok (.iconst 0, 1) := by decide +kernel
theorem D209_1224 : decode (byt 209) 1224 = .ok (.ireturn, 1) := by decide +kernel
theorem D209_1225 : decode (byt 209) 1225 = .ok (.aload_n 1, 1) := by decide +kernel
theorem D209_1226 : decode (byt 209) 1226 = .ok (.invokevirtual 145, 3) := by decide +kernel
theorem D209_1229 : decode (byt 209) 1229 = .ok (.aload_n 2, 1) := by decide +kernel
theorem D209_1230 : decode (byt 209) 1230 = .ok (.invokevirtual 148, 3) := by decide +kernel
theorem D209_1233 : decode (byt 209) 1233 = .ok (.if_icmp .eq 117, 3) := by decide +kernel
theorem D209_1236 : decode (byt 209) 1236 = .ok (.iconst 0, 1) := by decide +kernel
theorem D209_1237 : decode (byt 209) 1237 = .ok (.ireturn, 1) := by decide +kernel
theorem D209_1238 : decode (byt 209) 1238 = .ok (.aload_n 1, 1) := by decide +kernel
theorem D209_1239 : decode (byt 209) 1239 = .ok (.aload_n 0, 1) := by decide +kernel
theorem D209_1240 : decode (byt 209) 1240 = .ok (.iload_n 3, 1) := by decide +kernel
theorem D209_1241 : decode (byt 209) 1241 = .ok (.iconst 1, 1) := by decide +kernel
theorem D209_1242 : decode (byt 209) 1242 = .ok (.iadd, 1) := by decide +kernel
theorem D209_1243 : decode (byt 209) 1243 = .ok (.iaload, 1) := by decide +kernel
theorem D209_1244 : decode (byt 209) 1244 = .ok (.invokevirtual 149, 3) := by decide +kernel
theorem D209_1247 : decode (byt 209) 1247 = .ok (.aload_n 2, 1) := by decide +kernel
theorem D209_1248 : decode (byt 209) 1248 = .ok (.aload_n 0, 1) := by decide +kernel
theorem D209_1249 : decode (byt 209) 1249 = .ok (.iload_n 3, 1) := by decide +kernel
theorem D209_1250 : decode (byt 209) 1250 = .ok (.iconst 1, 1) := by decide +kernel
theorem D209_1251 : decode (byt 209) 1251 = .ok (.iadd, 1) := by decide +kernel
theorem D209_1252 : decode (byt 209) 1252 = .ok (.iaload, 1) := by decide +kernel
theorem D209_1253 : decode (byt 209) 1253 = .ok (.invokevirtual 152, 3) := by decide +kernel
theorem D209_1256 : decode (byt 209) 1256 = .ok (.if_icmp .eq 94, 3) := by decide +kernel
theorem D209_1259 : decode (byt 209) 1259 = .ok (.iconst 0, 1) := by decide +kernel
theorem D209_1260 : decode (byt 209) 1260 = .ok (.ireturn, 1) := by decide +kernel
theorem D209_1261 : decode (byt 209) 1261 = .ok (.aload_n 1, 1) := by decide +kernel
theorem D209_1262 : decode (byt 209) 1262 = .ok (.aload_n 0, 1) := by decide +kernel
theorem D209_1263 : decode (byt 209) 1263 = .ok (.iload_n 3, 1) := by decide +kernel
theorem D209_1264 : decode (byt 209) 1264 = .ok (.iconst 1, 1) := by decide +kernel
theorem D209_1265 : decode (byt 209) 1265 = .ok (.iadd, 1) := by decide +kernel
theorem D209_1266 : decode (byt 209) 1266 = .ok (.iaload, 1) := by decide +kernel
theorem D209_1267 : decode (byt 209) 1267 = .ok (.aload_n 0, 1) := by decide +kernel
theorem D209_1268 : decode (byt 209) 1268 = .ok (.iload_n 3, 1) := by decide +kernel
theorem D209_1269 : decode (byt 209) 1269 = .ok (.iconst 2, 1) := by decide +kernel
theorem D209_1270 : decode (byt 209) 1270 = .ok (.iadd, 1) := by decide +kernel
theorem D209_1271 : decode (byt 209) 1271 = .ok (.iaload, 1) := by decide +kernel
theorem D209_1272 : decode (byt 209) 1272 = .ok (.aload_n 0, 1) := by decide +kernel
theorem D209_1273 : decode (byt 209) 1273 = .ok (.iload_n 3, 1) := by decide +kernel
theorem D209_1274 : decode (byt 209) 1274 = .ok (.iconst 3, 1) := by decide +kernel
theorem D209_1275 : decode (byt 209) 1275 = .ok (.iadd, 1) := by decide +kernel
theorem D209_1276 : decode (byt 209) 1276 = .ok (.iaload, 1) := by decide +kernel
theorem D209_1277 : decode (byt 209) 1277 = .ok (.invokevirtual 153, 3) := by decide +kernel
theorem D209_1280 : decode (byt 209) 1280 = .ok (.aload_n 2, 1) := by decide +kernel
theorem D209_1281 : decode (byt 209) 1281 = .ok (.aload_n 0, 1) := by decide +kernel
theorem D209_1282 : decode (byt 209) 1282 = .ok (.iload_n 3, 1) := by decide +kernel
theorem D209_1283 : decode (byt 209) 1283 = .ok (.iconst 1, 1) := by decide +kernel
theorem D209_1284 : decode (byt 209) 1284 = .ok (.iadd, 1) := by decide +kernel
theorem D209_1285 : decode (byt 209) 1285 = .ok (.iaload, 1) := by decide +kernel
theorem D209_1286 : decode (byt 209) 1286 = .ok (.aload_n 0, 1) := by decide +kernel
theorem D209_1287 : decode (byt 209) 1287 = .ok (.iload_n 3, 1) := by decide +kernel
theorem D209_1288 : decode (byt 209) 1288 = .ok (.iconst 2, 1) := by decide +kernel
theorem D209_1289 : decode (byt 209) 1289 = .ok (.iadd, 1) := by decide +kernel
theorem D209_1290 : decode (byt 209) 1290 = .ok (.iaload, 1) := by decide +kernel
theorem D209_1291 : decode (byt 209) 1291 = .ok (.aload_n 0, 1) := by decide +kernel
theorem D209_1292 : decode (byt 209) 1292 = .ok (.iload_n 3, 1) := by decide +kernel
theorem D209_1293 : decode (byt 209) 1293 = .ok (.iconst 3, 1) := by decide +kernel
theorem D209_1294 : decode (byt 209) 1294 = .ok (.iadd, 1) := by decide +kernel
theorem D209_1295 : decode (byt 209) 1295 = .ok (.iaload, 1) := by decide +kernel
theorem D209_1296 : decode (byt 209) 1296 = .ok (.invokevirtual 156, 3) := by decide +kernel
theorem D209_1299 : decode (byt 209) 1299 = .ok (.if_icmp .eq 51, 3) := by decide +kernel
theorem D209_1302 : decode (byt 209) 1302 = .ok (.iconst 0, 1) := by decide +kernel
theorem D209_1303 : decode (byt 209) 1303 = .ok (.ireturn, 1) := by decide +kernel
theorem D209_1304 : decode (byt 209) 1304 = .ok (.aload_n 1, 1) := by decide +kernel
theorem D209_1305 : decode (byt 209) 1305 = .ok (.aload_n 0, 1) := by decide +kernel
theorem D209_1306 : decode (byt 209) 1306 = .ok (.iload_n 3, 1) := by decide +kernel
theorem D209_1307 : decode (byt 209) 1307 = .ok (.iconst 1, 1) := by decide +kernel
theorem D209_1308 : decode (byt 209) 1308 = .ok (.iadd, 1) := by decide +kernel
theorem D209_1309 : decode (byt 209) 1309 = .ok (.iaload, 1) := by decide +kernel
theorem D209_1310 : decode (byt 209) 1310 = .ok (.invokevirtual 157, 3) := by decide +kernel
theorem D209_1313 : decode (byt 209) 1313 = .ok (.aload_n 2, 1) := by decide +kernel
theorem D209_1314 : decode (byt 209) 1314 = .ok (.aload_n 0, 1) := by decide +kernel
theorem D209_1315 : decode (byt 209) 1315 = .ok (.iload_n 3, 1) := by decide +kernel
theorem D209_1316 : decode (byt 209) 1316 = .ok (.iconst 1, 1) := by decide +kernel
theorem D209_1317 : decode (byt 209) 1317 = .ok (.iadd, 1) := by decide +kernel
theorem D209_1318 : decode (byt 209) 1318 = .ok (.iaload, 1) := by decide +kernel
theorem D209_1319 : decode (byt 209) 1319 = .ok (.invokevirtual 160, 3) := by decide +kernel
theorem D209_1322 : decode (byt 209) 1322 = .ok (.if_icmp .eq 28, 3) := by decide +kernel
theorem D209_1325 : decode (byt 209) 1325 = .ok (.iconst 0, 1) := by decide +kernel
theorem D209_1326 : decode (byt 209) 1326 = .ok (.ireturn, 1) := by decide +kernel
theorem D209_1327 : decode (byt 209) 1327 = .ok (.aload_n 1, 1) := by decide +kernel
theorem D209_1328 : decode (byt 209) 1328 = .ok (.aload_n 0, 1) := by decide +kernel
theorem D209_1329 : decode (byt 209) 1329 = .ok (.iload_n 3, 1) := by decide +kernel
theorem D209_1330 : decode (byt 209) 1330 = .ok (.iconst 1, 1) := by decide +kernel
theorem D209_1331 : decode (byt 209) 1331 = .ok (.iadd, 1) := by decide +kernel
theorem D209_1332 : decode (byt 209) 1332 = .ok (.iaload, 1) := by decide +kernel
theorem D209_1333 : decode (byt 209) 1333 = .ok (.invokevirtual 161, 3) := by decide +kernel
theorem D209_1336 : decode (byt 209) 1336 = .ok (.aload_n 2, 1) := by decide +kernel
theorem D209_1337 : decode (byt 209) 1337 = .ok (.aload_n 0, 1) := by decide +kernel
theorem D209_1338 : decode (byt 209) 1338 = .ok (.iload_n 3, 1) := by decide +kernel
theorem D209_1339 : decode (byt 209) 1339 = .ok (.iconst 1, 1) := by decide +kernel
theorem D209_1340 : decode (byt 209) 1340 = .ok (.iadd, 1) := by decide +kernel
theorem D209_1341 : decode (byt 209) 1341 = .ok (.iaload, 1) := by decide +kernel
theorem D209_1342 : decode (byt 209) 1342 = .ok (.invokevirtual 164, 3) := by decide +kernel
theorem D209_1345 : decode (byt 209) 1345 = .ok (.if_icmp .eq 5, 3) := by decide +kernel
theorem D209_1348 : decode (byt 209) 1348 = .ok (.iconst 0, 1) := by decide +kernel
theorem D209_1349 : decode (byt 209) 1349 = .ok (.ireturn, 1) := by decide +kernel
theorem D209_1350 : decode (byt 209) 1350 = .ok (.iinc 3 6, 3) := by decide +kernel
theorem D209_1353 : decode (byt 209) 1353 = .ok (.goto (-1335), 3) := by decide +kernel
theorem D209_1356 : decode (byt 209) 1356 = .ok (.iconst 1, 1) := by decide +kernel
theorem D209_1357 : decode (byt 209) 1357 = .ok (.ireturn, 1) := by decide +kernel
