theorem D208_0 : decode (byt 208) 0 = .ok (.new 7, 3) := by decide +kernel
theorem D208_3 : decode (byt 208) 3 = .ok (.dup, 1) := by decide +kernel
theorem D208_4 : decode (byt 208) 4 = .ok (.invokespecial 9, 3) := by decide +kernel
theorem D208_7 : decode (byt 208) 7 = .ok (.astore_n 1, 1) := by decide +kernel
theorem D208_8 : decode (byt 208) 8 = .ok (.new 10, 3) := by decide +kernel
theorem D208_11 : decode (byt 208) 11 = .ok (.dup, 1) := by decide +kernel
theorem D208_12 : decode (byt 208) 12 = .ok (.invokespecial 12, 3) := by decide +kernel
theorem D208_15 : decode (byt 208) 15 = .ok (.astore_n 2, 1) := by decide +kernel
theorem D208_16 : decode (byt 208) 16 = .ok (.iconst 0, 1) := by decide +kernel
theorem D208_17 : decode (byt 208) 17 = .ok (.istore_n 3, 1) := by decide +kernel
theorem D208_18 : decode (byt 208) 18 = .ok (.iload_n 3, 1) := by decide +kernel
theorem D208_19 : decode (byt 208) 19 = .ok (.aload_n 0, 1) := by decide +kernel
theorem D208_20 : decode (byt 208) 20 = .ok (.arraylength, 1) := by decide +kernel
theorem D208_21 : decode (byt 208) 21 = .ok (.bipush 6, 2) := by decide +kernel
theorem D208_23 : decode (byt 208) 23 = .ok (.isub, 1) := by decide +kernel
theorem D208_24 : decode (byt 208) 24 = .ok (.if_icmp .gt 1332, 3) := by decide +kernel
theorem D208_27 : decode (byt 208) 27 = .ok (.aload_n 0, 1) := by decide +kernel
theorem D208_28 : decode (byt 208) 28 = .ok (.iload_n 3, 1) := by decide +kernel
theorem D208_29 : decode (byt 208) 29 = .ok (.iaload, 1) := by decide +kernel
theorem D208_30 : decode (byt 208) 30 = .ok (.bipush 63, 2) := by decide +kernel
theorem D208_32 : decode (byt 208) 32 = .ok (.iand, 1) := by decide +kernel
theorem D208_33 : decode (byt 208) 33 = .ok (.tableswitch 1317 0 34 #[155, 188, 251, 284, 307, 366, 399, 432, 475, 508, 531, 554, 597, 640, 693, 716, 729, 752, 785, 809, 869, 902, 935, 968, 1001, 1050, 1084, 1107, 1146, 1159, 1192, 1205, 1228, 1271, 1294], 155) := by decide +kernel
theorem D208_188 : decode (byt 208) 188 = .ok (.aload_n 1, 1) := by decide +kernel
theorem D208_189 : decode (byt 208) 189 = .ok (.aload_n 0, 1) := by decide +kernel
theorem D208_190 : decode (byt 208) 190 = .ok (.iload_n 3, 1) := by decide +kernel
theorem D208_191 : decode (byt 208) 191 = .ok (.iconst 1, 1) := by decide +kernel
theorem D208_192 : decode (byt 208) 192 = .ok (.iadd, 1) := by decide +kernel
theorem D208_193 : decode (byt 208) 193 = .ok (.iaload, 1) := by decide +kernel
theorem D208_194 : decode (byt 208) 194 = .ok (.aload_n 0, 1) := by decide +kernel
theorem D208_195 : decode (byt 208) 195 = .ok (.iload_n 3, 1) := by decide +kernel
theorem D208_196 : decode (byt 208) 196 = .ok (.iconst 2, 1) := by decide +kernel
theorem D208_197 : decode (byt 208) 197 = .ok (.iadd, 1) := by decide +kernel
theorem D208_198 : decode (byt 208) 198 = .ok (.iaload, 1) := by decide +kernel
theorem D208_199 : decode (byt 208) 199 = .ok (.invokevirtual 13, 3) := by decide +kernel
theorem D208_202 : decode (byt 208) 202 = .ok (.aload_n 2, 1) := by decide +kernel
theorem D208_203 : decode (byt 208) 203 = .ok (.aload_n 0, 1) := by decide +kernel
theorem D208_204 : decode (byt 208) 204 = .ok (.iload_n 3, 1) := by decide +kernel
theorem D208_205 : decode (byt 208) 205 = .ok (.iconst 1, 1) := by decide +kernel
theorem D208_206 : decode (byt 208) 206 = .ok (.iadd, 1) := by decide +kernel
theorem D208_207 : decode (byt 208) 207 = .ok (.iaload, 1) := by decide +kernel
theorem D208_208 : decode (byt 208) 208 = .ok (.aload_n 0, 1) := by decide +kernel
theorem D208_209 : decode (byt 208) 209 = .ok (.iload_n 3, 1) := by decide +kernel
theorem D208_210 : decode (byt 208) 210 = .ok (.iconst 2, 1) := by decide +kernel
theorem D208_211 : decode (byt 208) 211 = .ok (.iadd, 1) := by decide +kernel
theorem D208_212 : decode (byt 208) 212 = .ok (.iaload, 1) := by decide +kernel
theorem D208_213 : decode (byt 208) 213 = .ok (.invokevirtual 17, 3) := by decide +kernel
theorem D208_216 : decode (byt 208) 216 = .ok (.if_icmp .eq 1134, 3) := by decide +kernel
theorem D208_219 : decode (byt 208) 219 = .ok (.iconst 0, 1) := by decide +kernel
theorem D208_220 : decode (byt 208) 220 = .ok (.ireturn, 1) := by decide +kernel
theorem D208_221 : decode (byt 208) 221 = .ok (.aload_n 1, 1) := by decide +kernel
theorem D208_222 : decode (byt 208) 222 = .ok (.aload_n 0, 1) := by decide +kernel
theorem D208_223 : decode (byt 208) 223 = .ok (.iload_n 3, 1) := by decide +kernel
theorem D208_224 : decode (byt 208) 224 = .ok (.iconst 1, 1) := by decide +kernel
theorem D208_225 : decode (byt 208) 225 = .ok (.iadd, 1) := by decide +kernel
theorem D208_226 : decode (byt 208) 226 = .ok (.iaload, 1) := by decide +kernel
theorem D208_227 : decode (byt 208) 227 = .ok (.aload_n 0, 1) := by decide +kernel
theorem D208_228 : decode (byt 208) 228 = .ok (.iload_n 3, 1) := by decide +kernel
theorem D208_229 : decode (byt 208) 229 = .ok (.iconst 2, 1) := by decide +kernel
theorem D208_230 : decode (byt 208) 230 = .ok (.iadd, 1) := by decide +kernel
theorem D208_231 : decode (byt 208) 231 = .ok (.iaload, 1) := by decide +kernel
theorem D208_232 : decode (byt 208) 232 = .ok (.aload_n 0, 1) := by decide +kernel
theorem D208_233 : decode (byt 208) 233 = .ok (.iload_n 3, 1) := by decide +kernel
theorem D208_234 : decode (byt 208) 234 = .ok (.iconst 3, 1) := by decide +kernel
theorem D208_235 : decode (byt 208) 235 = .ok (.iadd, 1) := by decide +kernel
theorem D208_236 : decode (byt 208) 236 = .ok (.iaload, 1) := by decide +kernel
theorem D208_237 : decode (byt 208) 237 = .ok (.aload_n 0, 1) := by decide +kernel
theorem D208_238 : decode (byt 208) 238 = .ok (.iload_n 3, 1) := by decide +kernel
theorem D208_239 : decode (byt 208) 239 = .ok (.iconst 4, 1) := by decide +kernel
theorem D208_240 : decode (byt 208) 240 = .ok (.iadd, 1) := by decide +kernel
theorem D208_241 : decode (byt 208) 241 = .ok (.iaload, 1) := by decide +kernel
theorem D208_242 : decode (byt 208) 242 = .ok (.aload_n 0, 1) := by decide +kernel
theorem D208_243 : decode (byt 208) 243 = .ok (.iload_n 3, 1) := by decide +kernel
theorem D208_244 : decode (byt 208) 244 = .ok (.iconst 5, 1) := by decide +kernel
theorem D208_245 : decode (byt 208) 245 = .ok (.iadd, 1) := by decide +kernel
theorem D208_246 : decode (byt 208) 246 = .ok (.iaload, 1) := by decide +kernel
theorem D208_247 : decode (byt 208) 247 = .ok (.invokevirtual 18, 3) := by decide +kernel
theorem D208_250 : decode (byt 208) 250 = .ok (.aload_n 2, 1) := by decide +kernel
theorem D208_251 : decode (byt 208) 251 = .ok (.aload_n 0, 1) := by decide +kernel
theorem D208_252 : decode (byt 208) 252 = .ok (.iload_n 3, 1) := by decide +kernel
theorem D208_253 : decode (byt 208) 253 = .ok (.iconst 1, 1) := by decide +kernel
theorem D208_254 : decode (byt 208) 254 = .ok (.iadd, 1) := by decide +kernel
theorem D208_255 : decode (byt 208) 255 = .ok (.iaload, 1) := by decide +kernel
theorem D208_256 : decode (byt 208) 256 = .ok (.aload_n 0, 1) := by decide +kernel
theorem D208_257 : decode (byt 208) 257 = .ok (.iload_n 3, 1) := by decide +kernel
theorem D208_258 : decode (byt 208) 258 = .ok (.iconst 2, 1) := by decide +kernel
theorem D208_259 : decode (byt 208) 259 = .ok (.iadd, 1) := by decide +kernel
theorem D208_260 : decode (byt 208) 260 = .ok (.iaload, 1) := by decide +kernel
theorem D208_261 : decode (byt 208) 261 = .ok (.aload_n 0, 1) := by decide +kernel
theorem D208_262 : decode (byt 208) 262 = .ok (.iload_n 3, 1) := by decide +kernel
theorem D208_263 : decode (byt 208) 263 = .ok (.iconst 3, 1) := by decide +kernel
theorem D208_264 : decode (byt 208) 264 = .ok (.iadd, 1) := by decide +kernel
theorem D208_265 : decode (byt 208) 265 = .ok (.iaload, 1) := by decide +kernel
theorem D208_266 : decode (byt 208) 266 = .ok (.aload_n 0, 1) := by decide +kernel
theorem D208_267 : decode (byt 208) 267 = .ok (.iload_n 3, 1) := by decide +kernel
theorem D208_268 : decode (byt 208) 268 = .ok (.iconst 4, 1) := by decide +kernel
theorem D208_269 : decode (byt 208) 269 = .ok (.iadd, 1) := by decide +kernel
theorem D208_270 : decode (byt 208) 270 = .ok (.iaload, 1) := by decide +kernel
theorem D208_271 : decode (byt 208) 271 = .ok (.aload_n 0, 1) := by decide +kernel
theorem D208_272 : decode (byt 208) 272 = .ok (.iload_n 3, 1) := by decide +kernel
theorem D208_273 : decode (byt 208) 273 = .ok (.iconst 5, 1) := by decide +kernel
theorem D208_274 : decode (byt 208) 274 = .ok (.iadd, 1) := by decide +kernel
theorem D208_275 : decode (byt 208) 275 = .ok (.iaload, 1) := by decide +kernel
theorem D208_276 : decode (byt 208) 276 = .ok (.invokevirtual 22, 3) := by decide +kernel
theorem D208_279 : decode (byt 208) 279 = .ok (.if_icmp .eq 1071, 3) := by decide +kernel
theorem D208_282 : decode (byt 208) 282 = .ok (.iconst 0, 1) := by decide +kernel
theorem D208_283 : decode (byt 208) 283 = .ok (.ireturn, 1) := by decide +kernel
theorem D208_284 : decode (byt 208) 284 = .ok (.aload_n 1, 1) := by decide +kernel
theorem D208_285 : decode (byt 208) 285 = .ok (.aload_n 0, 1) := by decide +kernel
theorem D208_286 : decode (byt 208) 286 = .ok (.iload_n 3, 1) := by decide +kernel
theorem D208_287 : decode (byt 208) 287 = .ok (.iconst 1, 1) := by decide +kernel
theorem D208_288 : decode (byt 208) 288 = .ok (.iadd, 1) := by decide +kernel
theorem D208_289 : decode (byt 208) 289 = .ok (.iaload, 1) := by decide +kernel
theorem D208_290 : decode (byt 208) 290 = .ok (.aload_n 0, 1) := by decide +kernel
theorem D208_291 : decode (byt 208) 291 = .ok (.iload_n 3, 1) := by decide +kernel
theorem D208_292 : decode (byt 208) 292 = .ok (.iconst 2, 1) := by decide +kernel
theorem D208_293 : decode (byt 208) 293 = .ok (.iadd, 1) := by decide +kernel
theorem D208_294 : decode (byt 208) 294 = .ok (.iaload, 1) := by decide +kernel
theorem D208_295 : decode (byt 208) 295 = .ok (.invokevirtual 23, 3) := by decide +kernel
theorem D208_298 : decode (byt 208) 298 = .ok (.aload_n 2, 1) := by decide +kernel
theorem D208_299 : decode (byt 208) 299 = .ok (.aload_n 0, 1) := by decide +kernel
theorem D208_300 : decode (byt 208) 300 = .ok (.iload_n 3, 1) := by decide +kernel
theorem D208_301 : decode (byt 208) 301 = .ok (.iconst 1, 1) := by decide +kernel
theorem D208_302 : decode (byt 208) 302 = .ok (.iadd, 1) := by decide +kernel
theorem D208_303 : decode (byt 208) 303 = .ok (.iaload, 1) := by decide +kernel
theorem D208_304 : decode (byt 208) 304 = .ok (.aload_n 0, 1) := by decide +kernel
theorem D208_305 : decode (byt 208) 305 = .ok (.iload_n 3, 1) := by decide +kernel
theorem D208_306 : decode (byt 208) 306 = .ok (.iconst 2, 1) := by decide +kernel
theorem D208_307 : decode (byt 208) 307 = .ok (.iadd, 1) := by decide +kernel
theorem D208_308 : decode (byt 208) 308 = .ok (.iaload, 1) := by decide +kernel
theorem D208_309 : decode (byt 208) 309 = .ok (.invokevirtual 26, 3) := by decide +kernel
theorem D208_312 : decode (byt 208) 312 = .ok (.if_icmp .eq 1038, 3) := by decide +kernel
theorem D208_315 : decode (byt 208) 315 = .ok (.iconst 0, 1) := by decide +kernel
theorem D208_316 : decode (byt 208) 316 = .ok (.ireturn, 1) := by decide +kernel
theorem D208_317 : decode (byt 208) 317 = .ok (.aload_n 1, 1) := by decide +kernel
theorem D208_318 : decode (byt 208) 318 = .ok (.aload_n 0, 1) := by decide +kernel
theorem D208_319 : decode (byt 208) 319 = .ok (.iload_n 3, 1) := by decide +kernel
theorem D208_320 : decode (byt 208) 320 = .ok (.iconst 1, 1) := by decide +kernel
theorem D208_321 : decode (byt 208) 321 = .ok (.iadd, 1) := by decide +kernel
theorem D208_322 : decode (byt 208) 322 = .ok (.iaload, 1) := by decide +kernel
theorem D208_323 : decode (byt 208) 323 = .ok (.invokevirtual 27, 3) := by decide +kernel
theorem D208_326 : decode (byt 208) 326 = .ok (.aload_n 2, 1) := by decide +kernel
theorem D208_327 : decode (byt 208) 327 = .ok (.aload_n 0, 1) := by decide +kernel
theorem D208_328 : decode (byt 208) 328 = .ok (.iload_n 3, 1) := by decide +kernel
theorem D208_329 : decode (byt 208) 329 = .ok (.iconst 1, 1) := by decide +kernel
theorem D208_330 : decode (byt 208) 330 = .ok (.iadd, 1) := by decide +kernel
theorem D208_331 : decode (byt 208) 331 = .ok (.iaload, 1) := by decide +kernel
theorem D208_332 : decode (byt 208) 332 = .ok (.invokevirtual 31, 3) := by decide +kernel
theorem D208_335 : decode (byt 208) 335 = .ok (.if_icmp .eq 1015, 3) := by decide +kernel
theorem D208_338 : decode (byt 208) 338 = .ok (.iconst 0, 1) := by decide +kernel
theorem D208_339 : decode (byt 208) 339 = .ok (.ireturn, 1) := by decide +kernel
theorem D208_340 : decode (byt 208) 340 = .ok (.aload_n 1, 1) := by decide +kernel
theorem D208_341 : decode (byt 208) 341 = .ok (.aload_n 0, 1) := by decide +kernel
theorem D208_342 : decode (byt 208) 342 = .ok (.iload_n 3, 1) := by decide +kernel
theorem D208_343 : decode (byt 208) 343 = .ok (.iconst 1, 1) := by decide +kernel
theorem D208_344 : decode (byt 208) 344 = .ok (.iadd, 1) := by decide +kernel
theorem D208_345 : decode (byt 208) 345 = .ok (.iaload, 1) := by decide +kernel
theorem D208_346 : decode (byt 208) 346 = .ok (.aload_n 0, 1) := by decide +kernel
theorem D208_347 : decode (byt 208) 347 = .ok (.iload_n 3, 1) := by decide +kernel
theorem D208_348 : decode (byt 208) 348 = .ok (.iconst 2, 1) := by decide +kernel
theorem D208_349 : decode (byt 208) 349 = .ok (.iadd, 1) := by decide +kernel
theorem D208_350 : decode (byt 208) 350 = .ok (.iaload, 1) := by decide +kernel
theorem D208_351 : decode (byt 208) 351 = .ok (.aload_n 0, 1) := by decide +kernel
theorem D208_352 : decode (byt 208) 352 = .ok (.iload_n 3, 1) := by decide +kernel
theorem D208_353 : decode (byt 208) 353 = .ok (.iconst 3, 1) := by decide +kernel
theorem D208_354 : decode (byt 208) 354 = .ok (.iadd, 1) := by decide +kernel
theorem D208_355 : decode (byt 208) 355 = .ok (.iaload, 1) := by decide +kernel
theorem D208_356 : decode (byt 208) 356 = .ok (.ifCond .eq 7, 3) := by decide +kernel
theorem D208_359 : decode (byt 208) 359 = .ok (.iconst 1, 1) := by decide +kernel
theorem D208_360 : decode (byt 208) 360 = .ok (.goto 4, 3) := by decide +kernel
theorem D208_363 : decode (byt 208) 363 = .ok (.iconst 0, 1) := by decide +kernel
theorem D208_364 : decode (byt 208) 364 = .ok (.invokevirtual 32, 3) := by decide +kernel
theorem D208_367 : decode (byt 208) 367 = .ok (.aload_n 2, 1) := by decide +kernel
theorem D208_368 : decode (byt 208) 368 = .ok (.aload_n 0, 1) := by decide +kernel
theorem D208_369 : decode (byt 208) 369 = .ok (.iload_n 3, 1) := by decide +kernel
theorem D208_370 : decode (byt 208) 370 = .ok (.iconst 1, 1) := by decide +kernel
theorem D208_371 : decode (byt 208) 371 = .ok (.iadd, 1) := by decide +kernel
theorem D208_372 : decode (byt 208) 372 = .ok (.iaload, 1) := by decide +kernel
theorem D208_373 : decode (byt 208) 373 = .ok (.aload_n 0, 1) := by decide +kernel
theorem D208_374 : decode (byt 208) 374 = .ok (.iload_n 3, 1) := by decide +kernel
theorem D208_375 : decode (byt 208) 375 = .ok (.iconst 2, 1) := by decide +kernel
theorem D208_376 : decode (byt 208) 376 = .ok (.iadd, 1) := by decide +kernel
theorem D208_377 : decode (byt 208) 377 = .ok (.iaload, 1) := by decide +kernel
theorem D208_378 : decode (byt 208) 378 = .ok (.aload_n 0, 1) := by decide +kernel
theorem D208_379 : decode (byt 208) 379 = .ok (.iload_n 3, 1) := by decide +kernel
theorem D208_380 : decode (byt 208) 380 = .ok (.iconst 3, 1) := by decide +kernel
theorem D208_381 : decode (byt 208) 381 = .ok (.iadd, 1) := by decide +kernel
theorem D208_382 : decode (byt 208) 382 = .ok (.iaload, 1) := by decide +kernel
theorem D208_383 : decode (byt 208) 383 = .ok (.ifCond .eq 7, 3) := by decide +kernel
theorem D208_386 : decode (byt 208) 386 = .ok (.iconst 1, 1) := by decide +kernel
theorem D208_387 : decode (byt 208) 387 = .ok (.goto 4, 3) := by decide +kernel
theorem D208_390 : decode (byt 208) 390 = .ok (.iconst 0, 1) := by decide +kernel
theorem D208_391 : decode (byt 208) 391 = .ok (.invokevirtual 36, 3) := by decide +kernel
theorem D208_394 : decode (byt 208) 394 = .ok (.if_icmp .eq 956, 3) := by decide +kernel
theorem D208_397 : decode (byt 208) 397 = .ok (.iconst 0, 1) := by decide +kernel
theorem D208_398 : decode (byt 208) 398 = .ok (.ireturn, 1) := by decide +kernel
theorem D208_399 : decode (byt 208) 399 = .ok (.aload_n 1, 1) := by decide +kernel
theorem D208_400 : decode (byt 208) 400 = .ok (.aload_n 0, 1) := by decide +kernel
theorem D208_401 : decode (byt 208) 401 = .ok (.iload_n 3, 1) := by decide +kernel
theorem D208_402 : decode (byt 208) 402 = .ok (.iconst 1, 1) := by decide +kernel
theorem D208_403 : decode (byt 208) 403 = .ok (.iadd, 1) := by decide +kernel
theorem D208_404 : decode (byt 208) 404 = .ok (.iaload, 1) := by decide +kernel
theorem D208_405 : decode (byt 208) 405 = .ok (.aload_n 0, 1) := by decide +kernel
theorem D208_406 : decode (byt 208) 406 = .ok (.iload_n 3, 1) := by decide +kernel
theorem D208_407 : decode (byt 208) 407 = .ok (.iconst 2, 1) := by decide +kernel
theorem D208_408 : decode (byt 208) 408 = .ok (.iadd, 1) := by decide +kernel
theorem D208_409 : decode (byt 208) 409 = .ok (.iaload, 1) := by decide +kernel
theorem D208_410 : decode (byt 208) 410 = .ok (.invokevirtual 37, 3) := by decide +kernel
theorem D208_413 : decode (byt 208) 413 = .ok (.aload_n 2, 1) := by decide +kernel
theorem D208_414 : decode (byt 208) 414 = .ok (.aload_n 0, 1) := by decide +kernel
theorem D208_415 : decode (byt 208) 415 = .ok (.iload_n 3, 1) := by decide +kernel
theorem D208_416 : decode (byt 208) 416 = .ok (.iconst 1, 1) := by decide +kernel
theorem D208_417 : decode (byt 208) 417 = .ok (.iadd, 1) := by decide +kernel
theorem D208_418 : decode (byt 208) 418 = .ok (.iaload, 1) := by decide +kernel
theorem D208_419 : decode (byt 208) 419 = .ok (.aload_n 0, 1) := by decide +kernel
theorem D208_420 : decode (byt 208) 420 = .ok (.iload_n 3, 1) := by decide +kernel
theorem D208_421 : decode (byt 208) 421 = .ok (.iconst 2, 1) := by decide +kernel
theorem D208_422 : decode (byt 208) 422 = .ok (.iadd, 1) := by decide +kernel
theorem D208_423 : decode (byt 208) 423 = .ok (.iaload, 1) := by decide +kernel
theorem D208_424 : decode (byt 208) 424 = .ok (.invokevirtual 40, 3) := by decide +kernel
theorem D208_427 : decode (byt 208) 427 = .ok (.if_icmp .eq 923, 3) := by decide +kernel
theorem D208_430 : decode (byt 208) 430 = .ok (.iconst 0, 1) := by decide +kernel
theorem D208_431 : decode (byt 208) 431 = .ok (.ireturn, 1) := by decide +kernel
theorem D208_432 : decode (byt 208) 432 = .ok (.aload_n 1, 1) := by decide +kernel
theorem D208_433 : decode (byt 208) 433 = .ok (.aload_n 0, 1) := by decide +kernel
theorem D208_434 : decode (byt 208) 434 = .ok (.iload_n 3, 1) := by decide +kernel
theorem D208_435 : decode (byt 208) 435 = .ok (.iconst 1, 1) := by decide +kernel
theorem D208_436 : decode (byt 208) 436 = .ok (.iadd, 1) := by decide +kernel
theorem D208_437 : decode (byt 208) 437 = .ok (.iaload, 1) := by decide +kernel
theorem D208_438 : decode (byt 208) 438 = .ok (.aload_n 0, 1) := by decide +kernel
theorem D208_439 : decode (byt 208) 439 = .ok (.iload_n 3, 1) := by decide +kernel
theorem D208_440 : decode (byt 208) 440 = .ok (.iconst 2, 1) := by decide +kernel
theorem D208_441 : decode (byt 208) 441 = .ok (.iadd, 1) := by decide +kernel
theorem D208_442 : decode (byt 208) 442 = .ok (.iaload, 1) := by decide +kernel
theorem D208_443 : decode (byt 208) 443 = .ok (.invokevirtual 41, 3) := by decide +kernel
theorem D208_446 : decode (byt 208) 446 = .ok (.aload_n 2, 1) := by decide +kernel
theorem D208_447 : decode (byt 208) 447 = .ok (.aload_n 0, 1) := by decide +kernel
theorem D208_448 : decode (byt 208) 448 = .ok (.iload_n 3, 1) := by decide +kernel
theorem D208_449 : decode (byt 208) 449 = .ok (.iconst 1, 1) := by decide +kernel
theorem D208_450 : decode (byt 208) 450 = .ok (.iadd, 1) := by decide +kernel
theorem D208_451 : decode (byt 208) 451 = .ok (.iaload, 1) := by decide +kernel
theorem D208_452 : decode (byt 208) 452 = .ok (.aload_n 0, 1) := by decide +kernel
theorem D208_453 : decode (byt 208) 453 = .ok (.iload_n 3, 1) := by decide +kernel
theorem D208_454 : decode (byt 208) 454 = .ok (.iconst 2, 1) := by decide +kernel
theorem D208_455 : decode (byt 208) 455 = .ok (.iadd, 1) := by decide +kernel
theorem D208_456 : decode (byt 208) 456 = .ok (.iaload, 1) := by decide +kernel
theorem D208_457 : decode (byt 208) 457 = .ok (.invokevirtual 44, 3) := by decide +kernel
theorem D208_460 : decode (byt 208) 460 = .ok (.if_icmp .eq 890, 3) := by decide +kernel
theorem D208_463 : decode (byt 208) 463 = .ok (.iconst 0, 1) := by decide +kernel
theorem D208_464 : decode (byt 208) 464 = .ok (.ireturn, 1) := by decide +kernel
theorem D208_465 : decode (byt 208) 465 = .ok (.aload_n 1, 1) := by decide +kernel
theorem D208_466 : decode (byt 208) 466 = .ok (.aload_n 0, 1) := by decide +kernel
theorem D208_467 : decode (byt 208) 467 = .ok (.iload_n 3, 1) := by decide +kernel
theorem D208_468 : decode (byt 208) 468 = .ok (.iconst 1, 1) := by decide +kernel
theorem D208_469 : decode (byt 208) 469 = .ok (.iadd, 1) := by decide +kernel
theorem D208_470 : decode (byt 208) 470 = .ok (.iaload, 1) := by decide +kernel
theorem D208_471 : decode (byt 208) 471 = .ok (.aload_n 0, 1) := by decide +kernel
theorem D208_472 : decode (byt 208) 472 = .ok (.iload_n 3, 1) := by decide +kernel
theorem D208_473 : decode (byt 208) 473 = .ok (.iconst 2, 1) := by decide +kernel
theorem D208_474 : decode (byt 208) 474 = .ok (.iadd, 1) := by decide +kernel
theorem D208_475 : decode (byt 208) 475 = .ok (.iaload, 1) := by decide +kernel
theorem D208_476 : decode (byt 208) 476 = .ok (.aload_n 0, 1) := by decide +kernel
theorem D208_477 : decode (byt 208) 477 = .ok (.iload_n 3, 1) := by decide +kernel
theorem D208_478 : decode (byt 208) 478 = .ok (.iconst 3, 1) := by decide +kernel
theorem D208_479 : decode (byt 208) 479 = .ok (.iadd, 1) := by decide +kernel
theorem D208_480 : decode (byt 208) 480 = .ok (.iaload, 1) := by decide +kernel
theorem D208_481 : decode (byt 208) 481 = .ok (.invokevirtual 45, 3) := by decide +kernel
theorem D208_484 : decode (byt 208) 484 = .ok (.aload_n 2, 1) := by decide +kernel
theorem D208_485 : decode (byt 208) 485 = .ok (.aload_n 0, 1) := by decide +kernel
theorem D208_486 : decode (byt 208) 486 = .ok (.iload_n 3, 1) := by decide +kernel
theorem D208_487 : decode (byt 208) 487 = .ok (.iconst 1, 1) := by decide +kernel
theorem D208_488 : decode (byt 208) 488 = .ok (.iadd, 1) := by decide +kernel
theorem D208_489 : decode (byt 208) 489 = .ok (.iaload, 1) := by decide +kernel
theorem D208_490 : decode (byt 208) 490 = .ok (.aload_n 0, 1) := by decide +kernel
theorem D208_491 : decode (byt 208) 491 = .ok (.iload_n 3, 1) := by decide +kernel
theorem D208_492 : decode (byt 208) 492 = .ok (.iconst 2, 1) := by decide +kernel
theorem D208_493 : decode (byt 208) 493 = .ok (.iadd, 1) := by decide +kernel
theorem D208_494 : decode (byt 208) 494 = .ok (.iaload, 1) := by decide +kernel
theorem D208_495 : decode (byt 208) 495 = .ok (.aload_n 0, 1) := by decide +kernel
theorem D208_496 : decode (byt 208) 496 = .ok (.iload_n 3, 1) := by decide +kernel
theorem D208_497 : decode (byt 208) 497 = .ok (.iconst 3, 1) := by decide +kernel
theorem D208_498 : decode (byt 208) 498 = .ok (.iadd, 1) := by decide +kernel
theorem D208_499 : decode (byt 208) 499 = .ok (.iaload, 1) := by decide +kernel
theorem D208_500 : decode (byt 208) 500 = .ok (.invokevirtual 49, 3) := by decide +kernel
theorem D208_503 : decode (byt 208) 503 = .ok (.if_icmp .eq 847, 3) := by decide +kernel
theorem D208_506 : decode (byt 208) 506 = .ok (.iconst 0, 1) := by decide +kernel
theorem D208_507 : decode (byt 208) 507 = .ok (.ireturn, 1) := by decide +kernel
theorem D208_508 : decode (byt 208) 508 = .ok (.aload_n 1, 1) := by decide +kernel
theorem D208_509 : decode (byt 208) 509 = .ok (.aload_n 0, 1) := by decide +kernel
theorem D208_510 : decode (byt 208) 510 = .ok (.iload_n 3, 1) := by decide +kernel
theorem D208_511 : decode (byt 208) 511 = .ok (.iconst 1, 1) := by decide +kernel
theorem D208_512 : decode (byt 208) 512 = .ok (.iadd, 1) := by decide +kernel
theorem D208_513 : decode (byt 208) 513 = .ok (.iaload, 1) := by decide +kernel
theorem D208_514 : decode (byt 208) 514 = .ok (.aload_n 0, 1) := by decide +kernel
theorem D208_515 : decode (byt 208) 515 = .ok (.iload_n 3, 1) := by decide +kernel
theorem D208_516 : decode (byt 208) 516 = .ok (.iconst 2, 1) := by decide +kernel
theorem D208_517 : decode (byt 208) 517 = .ok (.iadd, 1) := by decide +kernel
theorem D208_518 : decode (byt 208) 518 = .ok (.iaload, 1) := by decide +kernel
theorem D208_519 : decode (byt 208) 519 = .ok (.invokevirtual 50, 3) := by decide +kernel
theorem D208_522 : decode (byt 208) 522 = .ok (.aload_n 2, 1) := by decide +kernel
theorem D208_523 : decode (byt 208) 523 = .ok (.aload_n 0, 1) := by decide +kernel
theorem D208_524 : decode (byt 208) 524 = .ok (.iload_n 3, 1) := by decide +kernel
theorem D208_525 : decode (byt 208) 525 = .ok (.iconst 1, 1) := by decide +kernel
theorem D208_526 : decode (byt 208) 526 = .ok (.iadd, 1) := by decide +kernel
theorem D208_527 : decode (byt 208) 527 = .ok (.iaload, 1) := by decide +kernel
theorem D208_528 : decode (byt 208) 528 = .ok (.aload_n 0, 1) := by decide +kernel
theorem D208_529 : decode (byt 208) 529 = .ok (.iload_n 3, 1) := by decide +kernel
theorem D208_530 : decode (byt 208) 530 = .ok (.iconst 2, 1) := by decide +kernel
theorem D208_531 : decode (byt 208) 531 = .ok (.iadd, 1) := by decide +kernel
theorem D208_532 : decode (byt 208) 532 = .ok (.iaload, 1) := by decide +kernel
theorem D208_533 : decode (byt 208) 533 = .ok (.invokevirtual 53, 3) := by decide +kernel
theorem D208_536 : decode (byt 208) 536 = .ok (.if_icmp .eq 814, 3) := by decide +kernel
theorem D208_539 : decode (byt 208) 539 = .ok (.iconst 0, 1) := by decide +kernel
theorem D208_540 : decode (byt 208) 540 = .ok (.ireturn, 1) := by decide +kernel
theorem D208_541 : decode (byt 208) 541 = .ok (.aload_n 1, 1) := by decide +kernel
theorem D208_542 : decode (byt 208) 542 = .ok (.aload_n 0, 1) := by decide +kernel
theorem D208_543 : decode (byt 208) 543 = .ok (.iload_n 3, 1) := by decide +kernel
theorem D208_544 : decode (byt 208) 544 = .ok (.iconst 1, 1) := by decide +kernel
theorem D208_545 : decode (byt 208) 545 = .ok (.iadd, 1) := by decide +kernel
theorem D208_546 : decode (byt 208) 546 = .ok (.iaload, 1) := by decide +kernel
theorem D208_547 : decode (byt 208) 547 = .ok (.invokevirtual 54, 3) := by decide +kernel
theorem D208_550 : decode (byt 208) 550 = .ok (.aload_n 2, 1) := by decide +kernel
theorem D208_551 : decode (byt 208) 551 = .ok (.aload_n 0, 1) := by decide +kernel
theorem D208_552 : decode (byt 208) 552 = .ok (.iload_n 3, 1) := by decide +kernel
theorem D208_553 : decode (byt 208) 553 = .ok (.iconst 1, 1) := by decide +kernel
theorem D208_554 : decode (byt 208) 554 = .ok (.iadd, 1) := by decide +kernel
theorem D208_555 : decode (byt 208) 555 = .ok (.iaload, 1) := by decide +kernel
theorem D208_556 : decode (byt 208) 556 = .ok (.invokevirtual 57, 3) := by decide +kernel
theorem D208_559 : decode (byt 208) 559 = .ok (.if_icmp .eq 791, 3) := by decide +kernel
theorem D208_562 : decode (byt 208) 562 = .ok (.iconst 0, 1) := by decide +kernel
theorem D208_563 : decode (byt 208) 563 = .ok (.ireturn, 1) := by decide +kernel
theorem D208_564 : decode (byt 208) 564 = .ok (.aload_n 1, 1) := by decide +kernel
theorem D208_565 : decode (byt 208) 565 = .ok (.aload_n 0, 1) := by decide +kernel
theorem D208_566 : decode (byt 208) 566 = .ok (.iload_n 3, 1) := by decide +kernel
theorem D208_567 : decode (byt 208) 567 = .ok (.iconst 1, 1) := by decide +kernel
theorem D208_568 : decode (byt 208) 568 = .ok (.iadd, 1) := by decide +kernel
theorem D208_569 : decode (byt 208) 569 = .ok (.iaload, 1) := by decide +kernel
theorem D208_570 : decode (byt 208) 570 = .ok (.invokevirtual 58, 3) := by decide +kernel
theorem D208_573 : decode (byt 208) 573 = .ok (.aload_n 2, 1) := by decide +kernel
theorem D208_574 : decode (byt 208) 574 = .ok (.aload_n 0, 1) := by decide +kernel
theorem D208_575 : decode (byt 208) 575 = .ok (.iload_n 3, 1) := by decide +kernel
theorem D208_576 : decode (byt 208) 576 = .ok (.iconst 1, 1) := by decide +kernel
theorem D208_577 : decode (byt 208) 577 = .ok (.iadd, 1) := by decide +kernel
theorem D208_578 : decode (byt 208) 578 = .ok (.iaload, 1) := by decide +kernel
theorem D208_579 : decode (byt 208) 579 = .ok (.invokevirtual 61, 3) := by decide +kernel
theorem D208_582 : decode (byt 208) 582 = .ok (.if_icmp .eq 768, 3) := by decide +kernel
theorem D208_585 : decode (byt 208) 585 = .ok (.iconst 0, 1) := by decide +kernel
theorem D208_586 : decode (byt 208) 586 = .ok (.ireturn, 1) := by decide +kernel
theorem D208_587 : decode (byt 208) 587 = .ok (.aload_n 1, 1) := by decide +kernel
theorem D208_588 : decode (byt 208) 588 = .ok (.aload_n 0, 1) := by decide +kernel
theorem D208_589 : decode (byt 208) 589 = .ok (.iload_n 3, 1) := by decide +kernel
theorem D208_590 : decode (byt 208) 590 = .ok (.iconst 1, 1) := by decide +kernel
theorem D208_591 : decode (byt 208) 591 = .ok (.iadd, 1) := by decide +kernel
theorem D208_592 : decode (byt 208) 592 = .ok (.iaload, 1) := by decide +kernel
theorem D208_593 : decode (byt 208) 593 = .ok (.aload_n 0, 1) := by decide +kernel
theorem D208_594 : decode (byt 208) 594 = .ok (.iload_n 3, 1) := by decide +kernel
theorem D208_595 : decode (byt 208) 595 = .ok (.iconst 2, 1) := by decide +kernel
theorem D208_596 : decode (byt 208) 596 = .ok (.iadd, 1) := by decide +kernel
theorem D208_597 : decode (byt 208) 597 = .ok (.iaload, 1) := by decide +kernel
theorem D208_598 : decode (byt 208) 598 = .ok (.aload_n 0, 1) := by decide +kernel
theorem D208_599 : decode (byt 208) 599 = .ok (.iload_n 3, 1) := by decide +kernel
theorem D208_600 : decode (byt 208) 600 = .ok (.iconst 3, 1) := by decide +kernel
theorem D208_601 : decode (byt 208) 601 = .ok (.iadd, 1) := by decide +kernel
theorem D208_602 : decode (byt 208) 602 = .ok (.iaload, 1) := by decide +kernel
theorem D208_603 : decode (byt 208) 603 = .ok (.invokevirtual 62, 3) := by decide +kernel
theorem D208_606 : decode (byt 208) 606 = .ok (.aload_n 2, 1) := by decide +kernel
theorem D208_607 : decode (byt 208) 607 = .ok (.aload_n 0, 1) := by decide +kernel
theorem D208_608 : decode (byt 208) 608 = .ok (.iload_n 3, 1) := by decide +kernel
theorem D208_609 : decode (byt 208) 609 = .ok (.iconst 1, 1) := by decide +kernel
theorem D208_610 : decode (byt 208) 610 = .ok (.iadd, 1) := by decide +kernel
theorem D208_611 : decode (byt 208) 611 = .ok (.iaload, 1) := by decide +kernel
theorem D208_612 : decode (byt 208) 612 = .ok (.aload_n 0, 1) := by decide +kernel
theorem D208_613 : decode (byt 208) 613 = .ok (.iload_n 3, 1) := by decide +kernel
theorem D208_614 : decode (byt 208) 614 = .ok (.iconst 2, 1) := by decide +kernel
theorem D208_615 : decode (byt 208) 615 = .ok (.iadd, 1) := by decide +kernel
theorem D208_616 : decode (byt 208) 616 = .ok (.iaload, 1) := by decide +kernel
theorem D208_617 : decode (byt 208) 617 = .ok (.aload_n 0, 1) := by decide +kernel
theorem D208_618 : decode (byt 208) 618 = .ok (.iload_n 3, 1) := by decide +kernel
theorem D208_619 : decode (byt 208) 619 = .ok (.iconst 3, 1) := by decide +kernel
theorem D208_620 : decode (byt 208) 620 = .ok (.iadd, 1) := by decide +kernel
theorem D208_621 : decode (byt 208) 621 = .ok (.iaload, 1) := by decide +kernel
theorem D208_622 : decode (byt 208) 622 = .ok (.invokevirtual 65, 3) := by decide +kernel
theorem D208_625 : decode (byt 208) 625 = .ok (.if_icmp .eq 725, 3) := by decide +kernel
theorem D208_628 : decode (byt 208) 628 = .ok (.iconst 0, 1) := by decide +kernel
theorem D208_629 : decode (byt 208) 629 = .ok (.ireturn, 1) := by decide +kernel
theorem D208_630 : decode (byt 208) 630 = .ok (.aload_n 1, 1) := by decide +kernel
theorem D208_631 : decode (byt 208) 631 = .ok (.aload_n 0, 1) := by decide +kernel
theorem D208_632 : decode (byt 208) 632 = .ok (.iload_n 3, 1) := by decide +kernel
theorem D208_633 : decode (byt 208) 633 = .ok (.iconst 1, 1) := by decide +kernel
theorem D208_634 : decode (byt 208) 634 = .ok (.iadd, 1) := by decide +kernel
theorem D208_635 : decode (byt 208) 635 = .ok (.iaload, 1) := by decide +kernel
theorem D208_636 : decode (byt 208) 636 = .ok (.aload_n 0, 1) := by decide +kernel
theorem D208_637 : decode (byt 208) 637 = .ok (.iload_n 3, 1) := by decide +kernel
theorem D208_638 : decode (byt 208) 638 = .ok (.iconst 2, 1) := by decide +kernel
theorem D208_639 : decode (byt 208) 639 = .ok (.iadd, 1) := by decide +kernel
theorem D208_640 : decode (byt 208) 640 = .ok (.iaload, 1) := by decide +kernel
theorem D208_641 : decode (byt 208) 641 = .ok (.aload_n 0, 1) := by decide +kernel
theorem D208_642 : decode (byt 208) 642 = .ok (.iload_n 3, 1) := by decide +kernel
theorem D208_643 : decode (byt 208) 643 = .ok (.iconst 3, 1) := by decide +kernel
theorem D208_644 : decode (byt 208) 644 = .ok (.iadd, 1) := by decide +kernel
theorem D208_645 : decode (byt 208) 645 = .ok (.iaload, 1) := by decide +kernel
theorem D208_646 : decode (byt 208) 646 = .ok (.invokevirtual 66, 3) := by decide +kernel
theorem D208_649 : decode (byt 208) 649 = .ok (.aload_n 2, 1) := by decide +kernel
theorem D208_650 : decode (byt 208) 650 = .ok (.aload_n 0, 1) := by decide +kernel
theorem D208_651 : decode (byt 208) 651 = .ok (.iload_n 3, 1) := by decide +kernel
theorem D208_652 : decode (byt 208) 652 = .ok (.iconst 1, 1) := by decide +kernel
theorem D208_653 : decode (byt 208) 653 = .ok (.iadd, 1) := by decide +kernel
theorem D208_654 : decode (byt 208) 654 = .ok (.iaload, 1) := by decide +kernel
theorem D208_655 : decode (byt 208) 655 = .ok (.aload_n 0, 1) := by decide +kernel
theorem D208_656 : decode (byt 208) 656 = .ok (.iload_n 3, 1) := by decide +kernel
theorem D208_657 : decode (byt 208) 657 = .ok (.iconst 2, 1) := by decide +kernel
theorem D208_658 : decode (byt 208) 658 = .ok (.iadd, 1) := by decide +kernel
theorem D208_659 : decode (byt 208) 659 = .ok (.iaload, 1) := by decide +kernel
theorem D208_660 : decode (byt 208) 660 = .ok (.aload_n 0, 1) := by decide +kernel
theorem D208_661 : decode (byt 208) 661 = .ok (.iload_n 3, 1) := by decide +kernel
theorem D208_662 : decode (byt 208) 662 = .ok (.iconst 3, 1) := by decide +kernel
theorem D208_663 : decode (byt 208) 663 = .ok (.iadd, 1) := by decide +kernel
theorem D208_664 : decode (byt 208) 664 = .ok (.iaload, 1) := by decide +kernel
theorem D208_665 : decode (byt 208) 665 = .ok (.invokevirtual 69, 3) := by decide +kernel
theorem D208_668 : decode (byt 208) 668 = .ok (.if_icmp .eq 682, 3) := by decide +kernel
theorem D208_671 : decode (byt 208) 671 = .ok (.iconst 0, 1) := by decide +kernel
theorem D208_672 : decode (byt 208) 672 = .ok (.ireturn, 1) := by decide +kernel
theorem D208_673 : decode (byt 208) 673 = .ok (.aload_n 1, 1) := by decide +kernel
theorem D208_674 : decode (byt 208) 674 = .ok (.aload_n 0, 1) := by decide +kernel
theorem D208_675 : decode (byt 208) 675 = .ok (.iload_n 3, 1) := by decide +kernel
theorem D208_676 : decode (byt 208) 676 = .ok (.iconst 1, 1) := by decide +kernel
theorem D208_677 : decode (byt 208) 677 = .ok (.iadd, 1) := by decide +kernel
theorem D208_678 : decode (byt 208) 678 = .ok (.iaload, 1) := by decide +kernel
theorem D208_679 : decode (byt 208) 679 = .ok (.aload_n 0, 1) := by decide +kernel
theorem D208_680 : decode (byt 208) 680 = .ok (.iload_n 3, 1) := by decide +kernel
theorem D208_681 : decode (byt 208) 681 = .ok (.iconst 2, 1) := by decide +kernel
theorem D208_682 : decode (byt 208) 682 = .ok (.iadd, 1) := by decide +kernel
theorem D208_683 : decode (byt 208) 683 = .ok (.iaload, 1) := by decide +kernel
theorem D208_684 : decode (byt 208) 684 = .ok (.aload_n 0, 1) := by decide +kernel
theorem D208_685 : decode (byt 208) 685 = .ok (.iload_n 3, 1) := by decide +kernel
theorem D208_686 : decode (byt 208) 686 = .ok (.iconst 3, 1) := by decide +kernel
theorem D208_687 : decode (byt 208) 687 = .ok (.iadd, 1) := by decide +kernel
theorem D208_688 : decode (byt 208) 688 = .ok (.iaload, 1) := by decide +kernel
theorem D208_689 : decode (byt 208) 689 = .ok (.aload_n 0, 1) := by decide +kernel
theorem D208_690 : decode (byt 208) 690 = .ok (.iload_n 3, 1) := by decide +kernel
theorem D208_691 : decode (byt 208) 691 = .ok (.iconst 4, 1) := by decide +kernel
theorem D208_692 : decode (byt 208) 692 = .ok (.iadd, 1) := by decide +kernel
theorem D208_693 : decode (byt 208) 693 = .ok (.iaload, 1) := by decide +kernel
theorem D208_694 : decode (byt 208) 694 = .ok (.invokevirtual 70, 3) := by decide +kernel
theorem D208_697 : decode (byt 208) 697 = .ok (.aload_n 2, 1) := by decide +kernel
theorem D208_698 : decode (byt 208) 698 = .ok (.aload_n 0, 1) := by decide +kernel
theorem D208_699 : decode (byt 208) 699 = .ok (.iload_n 3, 1) := by decide +kernel
theorem D208_700 : decode (byt 208) 700 = .ok (.iconst 1, 1) := by decide +kernel
theorem D208_701 : decode (byt 208) 701 = .ok (.iadd, 1) := by decide +kernel
theorem D208_702 : decode (byt 208) 702 = .ok (.iaload, 1) := by decide +kernel
theorem D208_703 : decode (byt 208) 703 = .ok (.aload_n 0, 1) := by decide +kernel
theorem D208_704 : decode (byt 208) 704 = .ok (.iload_n 3, 1) := by decide +kernel
theorem D208_705 : decode (byt 208) 705 = .ok (.iconst 2, 1) := by decide +kernel
theorem D208_706 : decode (byt 208) 706 = .ok (.iadd, 1) := by decide +kernel
theorem D208_707 : decode (byt 208) 707 = .ok (.iaload, 1) := by decide +kernel
theorem D208_708 : decode (byt 208) 708 = .ok (.aload_n 0, 1) := by decide +kernel
theorem D208_709 : decode (byt 208) 709 = .ok (.iload_n 3, 1) := by decide +kernel
theorem D208_710 : decode (byt 208) 710 = .ok (.iconst 3, 1) := by decide +kernel
theorem D208_711 : decode (byt 208) 711 = .ok (.iadd, 1) := by decide +kernel
theorem D208_712 : decode (byt 208) 712 = .ok (.iaload, 1) := by decide +kernel
theorem D208_713 : decode (byt 208) 713 = .ok (.aload_n 0, 1) := by decide +kernel
theorem D208_714 : decode (byt 208) 714 = .ok (.iload_n 3, 1) := by decide +kernel
theorem D208_715 : decode (byt 208) 715 = .ok (.iconst 4, 1) := by decide +kernel
theorem D208_716 : decode (byt 208) 716 = .ok (.iadd, 1) := by decide +kernel
theorem D208_717 : decode (byt 208) 717 = .ok (.iaload, 1) := by decide +kernel
theorem D208_718 : decode (byt 208) 718 = .ok (.invokevirtual 74, 3) := by decide +kernel
theorem D208_721 : decode (byt 208) 721 = .ok (.if_icmp .eq 629, 3) := by decide +kernel
theorem D208_724 : decode (byt 208) 724 = .ok (.iconst 0, 1) := by decide +kernel
theorem D208_725 : decode (byt 208) 725 = .ok (.ireturn, 1) := by decide +kernel
theorem D208_726 : decode (byt 208) 726 = .ok (.aload_n 1, 1) := by decide +kernel
theorem D208_727 : decode (byt 208) 727 = .ok (.aload_n 0, 1) := by decide +kernel
theorem D208_728 : decode (byt 208) 728 = .ok (.iload_n 3, 1) := by decide +kernel
theorem D208_729 : decode (byt 208) 729 = .ok (.iconst 1, 1) := by decide +kernel
theorem D208_730 : decode (byt 208) 730 = .ok (.iadd, 1) := by decide +kernel
theorem D208_731 : decode (byt 208) 731 = .ok (.iaload, 1) := by decide +kernel
theorem D208_732 : decode (byt 208) 732 = .ok (.invokevirtual 75, 3) := by decide +kernel
theorem D208_735 : decode (byt 208) 735 = .ok (.aload_n 2, 1) := by decide +kernel
theorem D208_736 : decode (byt 208) 736 = .ok (.aload_n 0, 1) := by decide +kernel
theorem D208_737 : decode (byt 208) 737 = .ok (.iload_n 3, 1) := by decide +kernel
theorem D208_738 : decode (byt 208) 738 = .ok (.iconst 1, 1) := by decide +kernel
theorem D208_739 : decode (byt 208) 739 = .ok (.iadd, 1) := by decide +kernel
theorem D208_740 : decode (byt 208) 740 = .ok (.iaload, 1) := by decide +kernel
theorem D208_741 : decode (byt 208) 741 = .ok (.invokevirtual 78, 3) := by decide +kernel
theorem D208_744 : decode (byt 208) 744 = .ok (.if_icmp .eq 606, 3) := by decide +kernel
theorem D208_747 : decode (byt 208) 747 = .ok (.iconst 0, 1) := by decide +kernel
theorem D208_748 : decode (byt 208) 748 = .ok (.ireturn, 1) := by decide +kernel
theorem D208_749 : decode (byt 208) 749 = .ok (.aload_n 1, 1) := by decide +kernel
theorem D208_750 : decode (byt 208) 750 = .ok (.invokevirtual 79, 3) := by decide +kernel
theorem D208_753 : decode (byt 208) 753 = .ok (.aload_n 2, 1) := by decide +kernel
theorem D208_754 : decode (byt 208) 754 = .ok (.invokevirtual 83, 3) := by decide +kernel
theorem D208_757 : decode (byt 208) 757 = .ok (.if_icmp .eq 593, 3) := by decide +kernel
theorem D208_760 : decode (byt 208) 760 = .ok (.iconst 0, 1) := by decide +kernel
theorem D208_761 : decode (byt 208) 761 = .ok (.ireturn, 1) := by decide +kernel
theorem D208_762 : decode (byt 208) 762 = .ok (.aload_n 1, 1) := by decide +kernel
theorem D208_763 : decode (byt 208) 763 = .ok (.aload_n 0, 1) := by decide +kernel
theorem D208_764 : decode (byt 208) 764 = .ok (.iload_n 3, 1) := by decide +kernel
theorem D208_765 : decode (byt 208) 765 = .ok (.iconst 1, 1) := by decide +kernel
theorem D208_766 : decode (byt 208) 766 = .ok (.iadd, 1) := by decide +kernel
theorem D208_767 : decode (byt 208) 767 = .ok (.iaload, 1) := by decide +kernel
theorem D208_768 : decode (byt 208) 768 = .ok (.invokevirtual 84, 3) := by decide +kernel
theorem D208_771 : decode (byt 208) 771 = .ok (.aload_n 2, 1) := by decide +kernel
theorem D208_772 : decode (byt 208) 772 = .ok (.aload_n 0, 1) := by decide +kernel
theorem D208_773 : decode (byt 208) 773 = .ok (.iload_n 3, 1) := by decide +kernel
theorem D208_774 : decode (byt 208) 774 = .ok (.iconst 1, 1) := by decide +kernel
theorem D208_775 : decode (byt 208) 775 = .ok (.iadd, 1) := by decide +kernel
theorem D208_776 : decode (byt 208) 776 = .ok (.iaload, 1) := by decide +kernel
theorem D208_777 : decode (byt 208) 777 = .ok (.invokevirtual 87, 3) := by decide +kernel
theorem D208_780 : decode (byt 208) 780 = .ok (.if_icmp .eq 570, 3) := by decide +kernel
theorem D208_783 : decode (byt 208) 783 = .ok (.iconst 0, 1) := by decide +kernel
theorem D208_784 : decode (byt 208) 784 = .ok (.ireturn, 1) := by decide +kernel
theorem D208_785 : decode (byt 208) 785 = .ok (.aload_n 1, 1) := by decide +kernel
theorem D208_786 : decode (byt 208) 786 = .ok (.aload_n 0, 1) := by decide +kernel
theorem D208_787 : decode (byt 208) 787 = .ok (.iload_n 3, 1) := by decide +kernel
theorem D208_788 : decode (byt 208) 788 = .ok (.iconst 1, 1) := by decide +kernel
theorem D208_789 : decode (byt 208) 789 = .ok (.iadd, 1) := by decide +kernel
theorem D208_790 : decode (byt 208) 790 = .ok (.iaload, 1) := by decide +kernel
theorem D208_791 : decode (byt 208) 791 = .ok (.aload_n 0, 1) := by decide +kernel
theorem D208_792 : decode (byt 208) 792 = .ok (.iload_n 3, 1) := by decide +kernel
theorem D208_793 : decode (byt 208) 793 = .ok (.iconst 2, 1) := by decide +kernel
theorem D208_794 : decode (byt 208) 794 = .ok (.iadd, 1) := by decide +kernel
theorem D208_795 : decode (byt 208) 795 = .ok (.iaload, 1) := by decide +kernel
theorem D208_796 : decode (byt 208) 796 = .ok (.invokevirtual 88, 3) := by decide +kernel
theorem D208_799 : decode (byt 208) 799 = .ok (.aload_n 2, 1) := by decide +kernel
theorem D208_800 : decode (byt 208) 800 = .ok (.aload_n 0, 1) := by decide +kernel
theorem D208_801 : decode (byt 208) 801 = .ok (.iload_n 3, 1) := by decide +kernel
theorem D208_802 : decode (byt 208) 802 = .ok (.iconst 1, 1) := by decide +kernel
theorem D208_803 : decode (byt 208) 803 = .ok (.iadd, 1) := by decide +kernel
theorem D208_804 : decode (byt 208) 804 = .ok (.iaload, 1) := by decide +kernel
theorem D208_805 : decode (byt 208) 805 = .ok (.aload_n 0, 1) := by decide +kernel
theorem D208_806 : decode (byt 208) 806 = .ok (.iload_n 3, 1) := by decide +kernel
theorem D208_807 : decode (byt 208) 807 = .ok (.iconst 2, 1) := by decide +kernel
theorem D208_808 : decode (byt 208) 808 = .ok (.iadd, 1) := by decide +kernel
theorem D208_809 : decode (byt 208) 809 = .ok (.iaload, 1) := by decide +kernel
theorem D208_810 : decode (byt 208) 810 = .ok (.invokevirtual 91, 3) := by decide +kernel
theorem D208_813 : decode (byt 208) 813 = .ok (.if_icmp .eq 537, 3) := by decide +kernel
theorem D208_816 : decode (byt 208) 816 = .ok (.iconst 0, 1) := by decide +kernel
theorem D208_817 : decode (byt 208) 817 = .ok (.ireturn, 1) := by decide +kernel
theorem D208_818 : decode (byt 208) 818 = .ok (.aload_n 1, 1) := by decide +kernel
theorem D208_819 : decode (byt 208) 819 = .ok (.aload_n 0, 1) := by decide +kernel
theorem D208_820 : decode (byt 208) 820 = .ok (.iload_n 3, 1) := by decide +kernel
theorem D208_821 : decode (byt 208) 821 = .ok (.iconst 1, 1) := by decide +kernel
theorem D208_822 : decode (byt 208) 822 = .ok (.iadd, 1) := by decide +kernel
theorem D208_823 : decode (byt 208) 823 = .ok (.iaload, 1) := by decide +kernel
theorem D208_824 : decode (byt 208) 824 = .ok (.invokevirtual 92, 3) := by decide +kernel
theorem D208_827 : decode (byt 208) 827 = .ok (.aload_n 2, 1) := by decide +kernel
theorem D208_828 : decode (byt 208) 828 = .ok (.aload_n 0, 1) := by decide +kernel
theorem D208_829 : decode (byt 208) 829 = .ok (.iload_n 3, 1) := by decide +kernel
theorem D208_830 : decode (byt 208) 830 = .ok (.iconst 1, 1) := by decide +kernel
theorem D208_831 : decode (byt 208) 831 = .ok (.iadd, 1) := by decide +kernel
theorem D208_832 : decode (byt 208) 832 = .ok (.iaload, 1) := by decide +kernel
theorem D208_833 : decode (byt 208) 833 = .ok (.invokevirtual 96, 3) := by decide +kernel
theorem D208_836 : decode (byt 208) 836 = .ok (.lcmp, 1) := by decide +kernel
theorem D208_837 : decode (byt 208) 837 = .ok (.ifCond .eq 513, 3) := by decide +kernel
theorem D208_840 : decode (byt 208) 840 = .ok (.iconst 0, 1) := by decide +kernel
theorem D208_841 : decode (byt 208) 841 = .ok (.ireturn, 1) := by decide +kernel
theorem D208_842 : decode (byt 208) 842 = .ok (.aload_n 1, 1) := by decide +kernel
theorem D208_843 : decode (byt 208) 843 = .ok (.aload_n 0, 1) := by decide +kernel
theorem D208_844 : decode (byt 208) 844 = .ok (.iload_n 3, 1) := by decide +kernel
theorem D208_845 : decode (byt 208) 845 = .ok (.iconst 1, 1) := by decide +kernel
theorem D208_846 : decode (byt 208) 846 = .ok (.iadd, 1) := by decide +kernel
theorem D208_847 : decode (byt 208) 847 = .ok (.iaload, 1) := by decide +kernel
theorem D208_848 : decode (byt 208) 848 = .ok (.aload_n 0, 1) := by decide +kernel
theorem D208_849 : decode (byt 208) 849 = .ok (.iload_n 3, 1) := by decide +kernel
theorem D208_850 : decode (byt 208) 850 = .ok (.iconst 2, 1) := by decide +kernel
theorem D208_851 : decode (byt 208) 851 = .ok (.iadd, 1) := by decide +kernel
theorem D208_852 : decode (byt 208) 852 = .ok (.iaload, 1) := by decide +kernel
theorem D208_853 : decode (byt 208) 853 = .ok (.aload_n 0, 1) := by decide +kernel
theorem D208_854 : decode (byt 208) 854 = .ok (.iload_n 3, 1) := by decide +kernel
theorem D208_855 : decode (byt 208) 855 = .ok (.iconst 3, 1) := by decide +kernel
theorem D208_856 : decode (byt 208) 856 = .ok (.iadd, 1) := by decide +kernel
theorem D208_857 : decode (byt 208) 857 = .ok (.iaload, 1) := by decide +kernel
theorem D208_858 : decode (byt 208) 858 = .ok (.ifCond .eq 7, 3) := by decide +kernel
theorem D208_861 : decode (byt 208) 861 = .ok (.iconst 1, 1) := by decide +kernel
theorem D208_862 : decode (byt 208) 862 = .ok (.goto 4, 3) := by decide +kernel
theorem D208_865 : decode (byt 208) 865 = .ok (.iconst 0, 1) := by decide +kernel
theorem D208_866 : decode (byt 208) 866 = .ok (.invokevirtual 97, 3) := by decide +kernel
theorem D208_869 : decode (byt 208) 869 = .ok (.aload_n 2, 1) := by decide +kernel
theorem D208_870 : decode (byt 208) 870 = .ok (.aload_n 0, 1) := by decide +kernel
theorem D208_871 : decode (byt 208) 871 = .ok (.iload_n 3, 1) := by decide +kernel
theorem D208_872 : decode (byt 208) 872 = .ok (.iconst 1, 1) := by decide +kernel
theorem D208_873 : decode (byt 208) 873 = .ok (.iadd, 1) := by decide +kernel
theorem D208_874 : decode (byt 208) 874 = .ok (.iaload, 1) := by decide +kernel
theorem D208_875 : decode (byt 208) 875 = .ok (.aload_n 0, 1) := by decide +kernel
theorem D208_876 : decode (byt 208) 876 = .ok (.iload_n 3, 1) := by decide +kernel
theorem D208_877 : decode (byt 208) 877 = .ok (.iconst 2, 1) := by decide +kernel
theorem D208_878 : decode (byt 208) 878 = .ok (.iadd, 1) := by decide +kernel
theorem D208_879 : decode (byt 208) 879 = .ok (.iaload, 1) := by decide +kernel
theorem D208_880 : decode (byt 208) 880 = .ok (.aload_n 0, 1) := by decide +kernel
theorem D208_881 : decode (byt 208) 881 = .ok (.iload_n 3, 1) := by decide +kernel
theorem D208_882 : decode (byt 208) 882 = .ok (.iconst 3, 1) := by decide +kernel
theorem D208_883 : decode (byt 208) 883 = .ok (.iadd, 1) := by decide +kernel
theorem D208_884 : decode (byt 208) 884 = .ok (.iaload, 1) := by decide +kernel
theorem D208_885 : decode (byt 208) 885 = .ok (.ifCond .eq 7, 3) := by decide +kernel
theorem D208_888 : decode (byt 208) 888 = .ok (.iconst 1, 1) := by decide +kernel
theorem D208_889 : decode (byt 208) 889 = .ok (.goto 4, 3) := by decide +kernel
theorem D208_892 : decode (byt 208) 892 = .ok (.iconst 0, 1) := by decide +kernel
theorem D208_893 : decode (byt 208) 893 = .ok (.invokevirtual 101, 3) := by decide +kernel
theorem D208_896 : decode (byt 208) 896 = .ok (.lcmp, 1) := by decide +kernel
theorem D208_897 : decode (byt 208) 897 = .ok (.ifCond .eq 453, 3) := by decide +kernel
theorem D208_900 : decode (byt 208) 900 = .ok (.iconst 0, 1) := by decide +kernel
theorem D208_901 : decode (byt 208) 901 = .ok (.ireturn, 1) := by decide +kernel
theorem D208_902 : decode (byt 208) 902 = .ok (.aload_n 1, 1) := by decide +kernel
theorem D208_903 : decode (byt 208) 903 = .ok (.aload_n 0, 1) := by decide +kernel
theorem D208_904 : decode (byt 208) 904 = .ok (.iload_n 3, 1) := by decide +kernel
theorem D208_905 : decode (byt 208) 905 = .ok (.iconst 1, 1) := by decide +kernel
theorem D208_906 : decode (byt 208) 906 = .ok (.iadd, 1) := by decide +kernel
theorem D208_907 : decode (byt 208) 907 = .ok (.iaload, 1) := by decide +kernel
theorem D208_908 : decode (byt 208) 908 = .ok (.aload_n 0, 1) := by decide +kernel
theorem D208_909 : decode (byt 208) 909 = .ok (.iload_n 3, 1) := by decide +kernel
theorem D208_910 : decode (byt 208) 910 = .ok (.iconst 2, 1) := by decide +kernel
theorem D208_911 : decode (byt 208) 911 = .ok (.iadd, 1) := by decide +kernel
theorem D208_912 : decode (byt 208) 912 = .ok (.iaload, 1) := by decide +kernel
theorem D208_913 : decode (byt 208) 913 = .ok (.invokevirtual 102, 3) := by decide +kernel
theorem D208_916 : decode (byt 208) 916 = .ok (.aload_n 2, 1) := by decide +kernel
theorem D208_917 : decode (byt 208) 917 = .ok (.aload_n 0, 1) := by decide +kernel
theorem D208_918 : decode (byt 208) 918 = .ok (.iload_n 3, 1) := by decide +kernel
theorem D208_919 : decode (byt 208) 919 = .ok (.iconst 1, 1) := by decide +kernel
theorem D208_920 : decode (byt 208) 920 = .ok (.iadd, 1) := by decide +kernel
theorem D208_921 : decode (byt 208) 921 = .ok (.iaload, 1) := by decide +kernel
theorem D208_922 : decode (byt 208) 922 = .ok (.aload_n 0, 1) := by decide +kernel
theorem D208_923 : decode (byt 208) 923 = .ok (.iload_n 3, 1) := by decide +kernel
theorem D208_924 : decode (byt 208) 924 = .ok (.iconst 2, 1) := by decide +kernel
theorem D208_925 : decode (byt 208) 925 = .ok (.iadd, 1) := by decide +kernel
theorem D208_926 : decode (byt 208) 926 = .ok (.iaload, 1) := by decide +kernel
theorem D208_927 : decode (byt 208) 927 = .ok (.invokevirtual 105, 3) := by decide +kernel
theorem D208_930 : decode (byt 208) 930 = .ok (.if_icmp .eq 420, 3) := by decide +kernel
theorem D208_933 : decode (byt 208) 933 = .ok (.iconst 0, 1) := by decide +kernel
theorem D208_934 : decode (byt 208) 934 = .ok (.ireturn, 1) := by decide +kernel
theorem D208_935 : decode (byt 208) 935 = .ok (.aload_n 1, 1) := by decide +kernel
theorem D208_936 : decode (byt 208) 936 = .ok (.aload_n 0, 1) := by decide +kernel
theorem D208_937 : decode (byt 208) 937 = .ok (.iload_n 3, 1) := by decide +kernel
theorem D208_938 : decode (byt 208) 938 = .ok (.iconst 1, 1) := by decide +kernel
theorem D208_939 : decode (byt 208) 939 = .ok (.iadd, 1) := by decide +kernel
theorem D208_940 : decode (byt 208) 940 = .ok (.iaload, 1) := by decide +kernel
theorem D208_941 : decode (byt 208) 941 = .ok (.aload_n 0, 1) := by decide +kernel
theorem D208_942 : decode (byt 208) 942 = .ok (.iload_n 3, 1) := by decide +kernel
theorem D208_943 : decode (byt 208) 943 = .ok (.iconst 2, 1) := by decide +kernel
theorem D208_944 : decode (byt 208) 944 = .ok (.iadd, 1) := by decide +kernel
theorem D208_945 : decode (byt 208) 945 = .ok (.iaload, 1) := by decide +kernel
theorem D208_946 : decode (byt 208) 946 = .ok (.invokevirtual 106, 3) := by decide +kernel
theorem D208_949 : decode (byt 208) 949 = .ok (.aload_n 2, 1) := by decide +kernel
theorem D208_950 : decode (byt 208) 950 = .ok (.aload_n 0, 1) := by decide +kernel
theorem D208_951 : decode (byt 208) 951 = .ok (.iload_n 3, 1) := by decide +kernel
theorem D208_952 : decode (byt 208) 952 = .ok (.iconst 1, 1) := by decide +kernel
theorem D208_953 : decode (byt 208) 953 = .ok (.iadd, 1) := by decide +kernel
theorem D208_954 : decode (byt 208) 954 = .ok (.iaload, 1) := by decide +kernel
theorem D208_955 : decode (byt 208) 955 = .ok (.aload_n 0, 1) := by decide +kernel
theorem D208_956 : decode (byt 208) 956 = .ok (.iload_n 3, 1) := by decide +kernel
theorem D208_957 : decode (byt 208) 957 = .ok (.iconst 2, 1) := by decide +kernel
theorem D208_958 : decode (byt 208) 958 = .ok (.iadd, 1) := by decide +kernel
theorem D208_959 : decode (byt 208) 959 = .ok (.iaload, 1) := by decide +kernel
theorem D208_960 : decode (byt 208) 960 = .ok (.invokevirtual 109, 3) := by decide +kernel
theorem D208_963 : decode (byt 208) 963 = .ok (.if_icmp .eq 387, 3) := by decide +kernel
theorem D208_966 : decode (byt 208) 966 = .ok (.iconst 0, 1) := by decide +kernel
theorem D208_967 : decode (byt 208) 967 = .ok (.ireturn, 1) := by decide +kernel
theorem D208_968 : decode (byt 208) 968 = .ok (.aload_n 1, 1) := by decide +kernel
theorem D208_969 : decode (byt 208) 969 = .ok (.aload_n 0, 1) := by decide +kernel
theorem D208_970 : decode (byt 208) 970 = .ok (.iload_n 3, 1) := by decide +kernel
theorem D208_971 : decode (byt 208) 971 = .ok (.iconst 1, 1) := by decide +kernel
theorem D208_972 : decode (byt 208) 972 = .ok (.iadd, 1) := by decide +kernel
theorem D208_973 : decode (byt 208) 973 = .ok (.iaload, 1) := by decide +kernel
theorem D208_974 : decode (byt 208) 974 = .ok (.aload_n 0, 1) := by decide +kernel
theorem D208_975 : decode (byt 208) 975 = .ok (.iload_n 3, 1) := by decide +kernel
theorem D208_976 : decode (byt 208) 976 = .ok (.iconst 2, 1) := by decide +kernel
theorem D208_977 : decode (byt 208) 977 = .ok (.iadd, 1) := by decide +kernel
theorem D208_978 : decode (byt 208) 978 = .ok (.iaload, 1) := by decide +kernel
theorem D208_979 : decode (byt 208) 979 = .ok (.invokevirtual 110, 3) := by decide +kernel
theorem D208_982 : decode (byt 208) 982 = .ok (.aload_n 2, 1) := by decide +kernel
theorem D208_983 : decode (byt 208) 983 = .ok (.aload_n 0, 1) := by decide +kernel
theorem D208_984 : decode (byt 208) 984 = .ok (.iload_n 3, 1) := by decide +kernel
theorem D208_985 : decode (byt 208) 985 = .ok (.iconst 1, 1) := by decide +kernel
theorem D208_986 : decode (byt 208) 986 = .ok (.iadd, 1) := by decide +kernel
theorem D208_987 : decode (byt 208) 987 = .ok (.iaload, 1) := by decide +kernel
theorem D208_988 : decode (byt 208) 988 = .ok (.aload_n 0, 1) := by decide +kernel
theorem D208_989 : decode (byt 208) 989 = .ok (.iload_n 3, 1) := by decide +kernel
theorem D208_990 : decode (byt 208) 990 = .ok (.iconst 2, 1) := by decide +kernel
theorem D208_991 : decode (byt 208) 991 = .ok (.iadd, 1) := by decide +kernel
theorem D208_992 : decode (byt 208) 992 = .ok (.iaload, 1) := by decide +kernel
theorem D208_993 : decode (byt 208) 993 = .ok (.invokevirtual 113, 3) := by decide +kernel
theorem D208_996 : decode (byt 208) 996 = .ok (.if_icmp .eq 354, 3) := by decide +kernel
theorem D208_999 : decode (byt 208) 999 = .ok (.iconst 0, 1) := by decide +kernel
theorem D208_1000 : decode (byt 208) 1000 = .ok (.ireturn, 1) := by decide +kernel
theorem D208_1001 : decode (byt 208) 1001 = .ok (.aload_n 1, 1) := by decide +kernel
theorem D208_1002 : decode (byt 208) 1002 = .ok (.aload_n 0, 1) := by decide +kernel
theorem D208_1003 : decode (byt 208) 1003 = .ok (.iload_n 3, 1) := by decide +kernel
theorem D208_1004 : decode (byt 208) 1004 = .ok (.iconst 1, 1) := by decide +kernel
theorem D208_1005 : decode (byt 208) 1005 = .ok (.iadd, 1) := by decide +kernel
theorem D208_1006 : decode (byt 208) 1006 = .ok (.iaload, 1) := by decide +kernel
theorem D208_1007 : decode (byt 208) 1007 = .ok (.aload_n 0, 1) := by decide +kernel
theorem D208_1008 : decode (byt 208) 1008 = .ok (.iload_n 3, 1) := by decide +kernel
theorem D208_1009 : decode (byt 208) 1009 = .ok (.iconst 2, 1) := by decide +kernel
theorem D208_1010 : decode (byt 208) 1010 = .ok (.iadd, 1) := by decide +kernel
theorem D208_1011 : decode (byt 208) 1011 = .ok (.iaload, 1) := by decide +kernel
theorem D208_1012 : decode (byt 208) 1012 = .ok (.invokevirtual 114, 3) := by decide +kernel
theorem D208_1015 : decode (byt 208) 1015 = .ok (.aload_n 2, 1) := by decide +kernel
theorem D208_1016 : decode (byt 208) 1016 = .ok (.aload_n 0, 1) := by decide +kernel
theorem D208_1017 : decode (byt 208) 1017 = .ok (.iload_n 3, 1) := by decide +kernel
theorem D208_1018 : decode (byt 208) 1018 = .ok (.iconst 1, 1) := by decide +kernel
theorem D208_1019 : decode (byt 208) 1019 = .ok (.iadd, 1) := by decide +kernel
theorem D208_1020 : decode (byt 208) 1020 = .ok (.iaload, 1) := by decide +kernel
theorem D208_1021 : decode (byt 208) 1021 = .ok (.aload_n 0, 1) := by decide +kernel
theorem D208_1022 : decode (byt 208) 1022 = .ok (.iload_n 3, 1) := by decide +kernel
theorem D208_1023 : decode (byt 208) 1023 = .ok (.iconst 2, 1) := by decide +kernel
theorem D208_1024 : decode (byt 208) 1024 = .ok (.iadd, 1) := by decide +kernel
theorem D208_1025 : decode (byt 208) 1025 = .ok (.iaload, 1) := by decide +kernel
theorem D208_1026 : decode (byt 208) 1026 = .ok (.invokevirtual 117, 3) := by decide +kernel
theorem D208_1029 : decode (byt 208) 1029 = .ok (.if_icmp .eq 321, 3) := by decide +kernel
theorem D208_1032 : decode (byt 208) 1032 = .ok (.iconst 0, 1) := by decide +kernel
theorem D208_1033 : decode (byt 208) 1033 = .ok (.ireturn, 1) := by decide +kernel
theorem D208_1034 : decode (byt 208) 1034 = .ok (.aload_n 1, 1) := by decide +kernel
theorem D208_1035 : decode (byt 208) 1035 = .ok (.aload_n 0, 1) := by decide +kernel
theorem D208_1036 : decode (byt 208) 1036 = .ok (.iload_n 3, 1) := by decide +kernel
theorem D208_1037 : decode (byt 208) 1037 = .ok (.iconst 1, 1) := by decide +kernel
theorem D208_1038 : decode (byt 208) 1038 = .ok (.iadd, 1) := by decide +kernel
theorem D208_1039 : decode (byt 208) 1039 = .ok (.iaload, 1) := by decide +kernel
theorem D208_1040 : decode (byt 208) 1040 = .ok (.aload_n 0, 1) := by decide +kernel
theorem D208_1041 : decode (byt 208) 1041 = .ok (.iload_n 3, 1) := by decide +kernel
theorem D208_1042 : decode (byt 208) 1042 = .ok (.iconst 2, 1) := by decide +kernel
theorem D208_1043 : decode (byt 208) 1043 = .ok (.iadd, 1) := by decide +kernel
theorem D208_1044 : decode (byt 208) 1044 = .ok (.iaload, 1) := by decide +kernel
theorem D208_1045 : decode (byt 208) 1045 = .ok (.ifCond .eq 7, 3) := by decide +kernel
theorem D208_1048 : decode (byt 208) 1048 = .ok (.iconst 1, 1) := by decide +kernel
theorem D208_1049 : decode (byt 208) 1049 = .ok (.goto 4, 3) := by decide +kernel
theorem D208_1052 : decode (byt 208) 1052 = .ok (.iconst 0, 1) := by decide +kernel
theorem D208_1053 : decode (byt 208) 1053 = .ok (.invokevirtual 118, 3) := by decide +kernel
theorem D208_1056 : decode (byt 208) 1056 = .ok (.aload_n 2, 1) := by decide +kernel
theorem D208_1057 : decode (byt 208) 1057 = .ok (.aload_n 0, 1) := by decide +kernel
theorem D208_1058 : decode (byt 208) 1058 = .ok (.iload_n 3, 1) := by decide +kernel
theorem D208_1059 : decode (byt 208) 1059 = .ok (.iconst 1, 1) := by decide +kernel
theorem D208_1060 : decode (byt 208) 1060 = .ok (.iadd, 1) := by decide +kernel
theorem D208_1061 : decode (byt 208) 1061 = .ok (.iaload, 1) := by decide +kernel
theorem D208_1062 : decode (byt 208) 1062 = .ok (.aload_n 0, 1) := by decide +kernel
theorem D208_1063 : decode (byt 208) 1063 = .ok (.iload_n 3, 1) := by decide +kernel
theorem D208_1064 : decode (byt 208) 1064 = .ok (.iconst 2, 1) := by decide +kernel
theorem D208_1065 : decode (byt 208) 1065 = .ok (.iadd, 1) := by decide +kernel
theorem D208_1066 : decode (byt 208) 1066 = .ok (.iaload, 1) := by decide +kernel
theorem D208_1067 : decode (byt 208) 1067 = .ok (.ifCond .eq 7, 3) := by decide +kernel
theorem D208_1070 : decode (byt 208) 1070 = .ok (.iconst 1, 1) := by decide +kernel
theorem D208_1071 : decode (byt 208) 1071 = .ok (.goto 4, 3) := by decide +kernel
theorem D208_1074 : decode (byt 208) 1074 = .ok (.iconst 0, 1) := by decide +kernel
theorem D208_1075 : decode (byt 208) 1075 = .ok (.invokevirtual 122, 3) := by decide +kernel
theorem D208_1078 : decode (byt 208) 1078 = .ok (.if_icmp .eq 272, 3) := by decide +kernel
theorem D208_1081 : decode (byt 208) 1081 = .ok (.iconst 0, 1) := by decide +kernel
theorem D208_1082 : decode (byt 208) 1082 = .ok (.ireturn, 1) := by decide +kernel
theorem D208_1083 : decode (byt 208) 1083 = .ok (.aload_n 1, 1) := by decide +kernel
theorem D208_1084 : decode (byt 208) 1084 = .ok (.aload_n 0, 1) := by decide +kernel
theorem D208_1085 : decode (byt 208) 1085 = .ok (.iload_n 3, 1) := by decide +kernel
theorem D208_1086 : decode (byt 208) 1086 = .ok (.iconst 1, 1) := by decide +kernel
theorem D208_1087 : decode (byt 208) 1087 = .ok (.iadd, 1) := by decide +kernel
theorem D208_1088 : decode (byt 208) 1088 = .ok (.iaload, 1) := by decide +kernel
theorem D208_1089 : decode (byt 208) 1089 = .ok (.aload_n 0, 1) := by decide +kernel
theorem D208_1090 : decode (byt 208) 1090 = .ok (.iload_n 3, 1) := by decide +kernel
theorem D208_1091 : decode (byt 208) 1091 = .ok (.iconst 2, 1) := by decide +kernel
theorem D208_1092 : decode (byt 208) 1092 = .ok (.iadd, 1) := by decide +kernel
theorem D208_1093 : decode (byt 208) 1093 = .ok (.iaload, 1) := by decide +kernel
theorem D208_1094 : decode (byt 208) 1094 = .ok (.invokevirtual 123, 3) := by decide +kernel
theorem D208_1097 : decode (byt 208) 1097 = .ok (.aload_n 2, 1) := by decide +kernel
theorem D208_1098 : decode (byt 208) 1098 = .ok (.aload_n 0, 1) := by decide +kernel
theorem D208_1099 : decode (byt 208) 1099 = .ok (.iload_n 3, 1) := by decide +kernel
theorem D208_1100 : decode (byt 208) 1100 = .ok (.iconst 1, 1) := by decide +kernel
theorem D208_1101 : decode (byt 208) 1101 = .ok (.iadd, 1) := by decide +kernel
theorem D208_1102 : decode (byt 208) 1102 = .ok (.iaload, 1) := by decide +kernel
theorem D208_1103 : decode (byt 208) 1103 = .ok (.aload_n 0, 1) := by decide +kernel
theorem D208_1104 : decode (byt 208) 1104 = .ok (.iload_n 3, 1) := by decide +kernel
theorem D208_1105 : decode (byt 208) 1105 = .ok (.iconst 2, 1) := by decide +kernel
theorem D208_1106 : decode (byt 208) 1106 = .ok (.iadd, 1) := by decide +kernel
theorem D208_1107 : decode (byt 208) 1107 = .ok (.iaload, 1) := by decide +kernel
theorem D208_1108 : decode (byt 208) 1108 = .ok (.invokevirtual 127, 3) := by decide +kernel
theorem D208_1111 : decode (byt 208) 1111 = .ok (.lcmp, 1) := by decide +kernel
theorem D208_1112 : decode (byt 208) 1112 = .ok (.ifCond .eq 238, 3) := by decide +kernel
theorem D208_1115 : decode (byt 208) 1115 = .ok (.iconst 0, 1) := by decide +kernel
theorem D208_1116 : decode (byt 208) 1116 = .ok (.ireturn, 1) := by decide +kernel
theorem D208_1117 : decode (byt 208) 1117 = .ok (.aload_n 1, 1) := by decide +kernel
theorem D208_1118 : decode (byt 208) 1118 = .ok (.aload_n 0, 1) := by decide +kernel
theorem D208_1119 : decode (byt 208) 1119 = .ok (.iload_n 3, 1) := by decide +kernel
theorem D208_1120 : decode (byt 208) 1120 = .ok (.iconst 1, 1) := by decide +kernel
theorem D208_1121 : decode (byt 208) 1121 = .ok (.iadd, 1) := by decide +kernel
theorem D208_1122 : decode (byt 208) 1122 = .ok (.iaload, 1) := by decide +kernel
theorem D208_1123 : decode (byt 208) 1123 = .ok (.invokevirtual 128, 3) := by decide +kernel
theorem D208_1126 : decode (byt 208) 1126 = .ok (.aload_n 2, 1) := by decide +kernel
theorem D208_1127 : decode (byt 208) 1127 = .ok (.aload_n 0, 1) := by decide +kernel
theorem D208_1128 : decode (byt 208) 1128 = .ok (.iload_n 3, 1) := by decide +kernel
theorem D208_1129 : decode (byt 208) 1129 = .ok (.iconst 1, 1) := by decide +kernel
theorem D208_1130 : decode (byt 208) 1130 = .ok (.iadd, 1) := by decide +kernel
theorem D208_1131 : decode (byt 208) 1131 = .ok (.iaload, 1) := by decide +kernel
theorem D208_1132 : decode (byt 208) 1132 = .ok (.invokevirtual 131, 3) := by decide +kernel
theorem D208_1135 : decode (byt 208) 1135 = .ok (.if_icmp .eq 215, 3) := by decide +kernel
theorem D208_1138 : decode (byt 208) 1138 = .ok (.iconst 0, 1) := by decide +kernel
theorem D208_1139 : decode (byt 208) 1139 = .ok (.ireturn, 1) := by decide +kernel
theorem D208_1140 : decode (byt 208) 1140 = .ok (.aload_n 1, 1) := by decide +kernel
theorem D208_1141 : decode (byt 208) 1141 = .ok (.aload_n 0, 1) := by decide +kernel
theorem D208_1142 : decode (byt 208) 1142 = .ok (.iload_n 3, 1) := by decide +kernel
theorem D208_1143 : decode (byt 208) 1143 = .ok (.iconst 1, 1) := by decide +kernel
theorem D208_1144 : decode (byt 208) 1144 = .ok (.iadd, 1) := by decide +kernel
theorem D208_1145 : decode (byt 208) 1145 = .ok (.iaload, 1) := by decide +kernel
theorem D208_1146 : decode (byt 208) 1146 = .ok (.ifCond .eq 7, 3) := by decide +kernel
theorem D208_1149 : decode (byt 208) 1149 = .ok (.iconst 1, 1) := by decide +kernel
theorem D208_1150 : decode (byt 208) 1150 = .ok (.goto 4, 3) := by decide +kernel
theorem D208_1153 : decode (byt 208) 1153 = .ok (.iconst 0, 1) := by decide +kernel
theorem D208_1154 : decode (byt 208) 1154 = .ok (.invokevirtual 132, 3) := by decide +kernel
theorem D208_1157 : decode (byt 208) 1157 = .ok (.aload_n 2, 1) := by decide +kernel
theorem D208_1158 : decode (byt 208) 1158 = .ok (.aload_n 0, 1) := by decide +kernel
theorem D208_1159 : decode (byt 208) 1159 = .ok (.iload_n 3, 1) := by decide +kernel
theorem D208_1160 : decode (byt 208) 1160 = .ok (.iconst 1, 1) := by decide +kernel
theorem D208_1161 : decode (byt 208) 1161 = .ok (.iadd, 1) := by decide +kernel
theorem D208_1162 : decode (byt 208) 1162 = .ok (.iaload, 1) := by decide +kernel
theorem D208_1163 : decode (byt 208) 1163 = .ok (.ifCond .eq 7, 3) := by decide +kernel
theorem D208_1166 : decode (byt 208) 1166 = .ok (.iconst 1, 1) := by decide +kernel
theorem D208_1167 : decode (byt 208) 1167 = .ok (.goto 4, 3) := by decide +kernel
theorem D208_1170 : decode (byt 208) 1170 = .ok (.iconst 0, 1) := by decide +kernel
theorem D208_1171 : decode (byt 208) 1171 = .ok (.invokevirtual 136, 3) := by decide +kernel
theorem D208_1174 : decode (byt 208) 1174 = .ok (.if_icmp .eq 176, 3) := by decide +kernel
theorem D208_1177 : decode (byt 208) 1177 = .ok (.iconst 0, 1) := by decide +kernel
theorem D208_1178 : decode (byt 208) 1178 = .ok (.ireturn, 1) := by decide +kernel
theorem D208_1179 : decode (byt 208) 1179 = .ok (.aload_n 1, 1) := by decide +kernel
theorem D208_1180 : decode (byt 208) 1180 = .ok (.invokevirtual 137, 3) := by decide +kernel
theorem D208_1183 : decode (byt 208) 1183 = .ok (.aload_n 2, 1) := by decide +kernel
theorem D208_1184 : decode (byt 208) 1184 = .ok (.invokevirtual 140, 3) := by decide +kernel
theorem D208_1187 : decode (byt 208) 1187 = .ok (.if_icmp .eq 163, 3) := by decide +kernel
theorem D208_1190 : decode (byt 208) 1190 = .ok (.iconst 0, 1) := by decide +kernel
theorem D208_1191 : decode (byt 208) 1191 = .ok (.ireturn, 1) := by decide +kernel
theorem D208_1192 : decode (byt 208) 1192 = .ok (.aload_n 1, 1) := by decide +kernel
theorem D208_1193 : decode (byt 208) 1193 = .ok (.aload_n 0, 1) := by decide +kernel
theorem D208_1194 : decode (byt 208) 1194 = .ok (.iload_n 3, 1) := by decide +kernel
theorem D208_1195 : decode (byt 208) 1195 = .ok (.iconst 1, 1) := by decide +kernel
theorem D208_1196 : decode (byt 208) 1196 = .ok (.iadd, 1) := by decide +kernel
theorem D208_1197 : decode (byt 208) 1197 = .ok (.iaload, 1) := by decide +kernel
theorem D208_1198 : decode (byt 208) 1198 = .ok (.aload_n 0, 1) := by decide +kernel
theorem D208_1199 : decode (byt 208) 1199 = .ok (.iload_n 3, 1) := by decide +kernel
theorem D208_1200 : decode (byt 208) 1200 = .ok (.iconst 2, 1) := by decide +kernel
theorem D208_1201 : decode (byt 208) 1201 = .ok (.iadd, 1) := by decide +kernel
theorem D208_1202 : decode (byt 208) 1202 = .ok (.iaload, 1) := by decide +kernel
theorem D208_1203 : decode (byt 208) 1203 = .ok (.invokevirtual 141, 3) := by decide +kernel
theorem D208_1206 : decode (byt 208) 1206 = .ok (.aload_n 2, 1) := by decide +kernel
theorem D208_1207 : decode (byt 208) 1207 = .ok (.aload_n 0, 1) := by decide +kernel
theorem D208_1208 : decode (byt 208) 1208 = .ok (.iload_n 3, 1) := by decide +kernel
theorem D208_1209 : decode (byt 208) 1209 = .ok (.iconst 1, 1) := by decide +kernel
theorem D208_1210 : decode (byt 208) 1210 = .ok (.iadd, 1) := by decide +kernel
theorem D208_1211 : decode (byt 208) 1211 = .ok (.iaload, 1) := by decide +kernel
theorem D208_1212 : decode (byt 208) 1212 = .ok (.aload_n 0, 1) := by decide +kernel
theorem D208_1213 : decode (byt 208) 1213 = .ok (.iload_n 3, 1) := by decide +kernel
theorem D208_1214 : decode (byt 208) 1214 = .ok (.iconst 2, 1) := by decide +kernel
theorem D208_1215 : decode (byt 208) 1215 = .ok (.iadd, 1) := by decide +kernel
theorem D208_1216 : decode (byt 208) 1216 = .ok (.iaload, 1) := by decide +kernel
theorem D208_1217 : decode (byt 208) 1217 = .ok (.invokevirtual 144, 3) := by decide +kernel
theorem D208_1220 : decode (byt 208) 1220 = .ok (.if_icmp .eq 130, 3) := by decide +kernel
theorem D208_1223 : decode (byt 208) 1223 = .ok (.iconst 0, 1) := by decide +kernel
theorem D208_1224 : decode (byt 208) 1224 = .ok (.ireturn, 1) := by decide +kernel
theorem D208_1225 : decode (byt 208) 1225 = .ok (.aload_n 1, 1) := by decide +kernel
theorem D208_1226 : decode (byt 208) 1226 = .ok (.invokevirtual 145, 3) := by decide +kernel
theorem D208_1229 : decode (byt 208) 1229 = .ok (.aload_n 2, 1) := by decide +kernel
theorem D208_1230 : decode (byt 208) 1230 = .ok (.invokevirtual 148, 3) := by decide +kernel
theorem D208_1233 : decode (byt 208) 1233 = .ok (.if_icmp .eq 117, 3) := by decide +kernel
theorem D208_1236 : decode (byt 208) 1236 = .ok (.iconst 0, 1) := by decide +kernel
theorem D208_1237 : decode (byt 208) 1237 = .ok (.ireturn, 1) := by decide +kernel
theorem D208_1238 : decode (byt 208) 1238 = .ok (.aload_n 1, 1) := by decide +kernel
theorem D208_1239 : decode (byt 208) 1239 = .ok (.aload_n 0, 1) := by decide +kernel
theorem D208_1240 : decode (byt 208) 1240 = .ok (.iload_n 3, 1) := by decide +kernel
theorem D208_1241 : decode (byt 208) 1241 = .ok (.iconst 1, 1) := by decide +kernel
theorem D208_1242 : decode (byt 208) 1242 = .ok (.iadd, 1) := by decide +kernel
theorem D208_1243 : decode (byt 208) 1243 = .ok (.iaload, 1) := by decide +kernel
theorem D208_1244 : decode (byt 208) 1244 = .ok (.invokevirtual 149, 3) := by decide +kernel
theorem D208_1247 : decode (byt 208) 1247 = .ok (.aload_n 2, 1) := by decide +kernel
theorem D208_1248 : decode (byt 208) 1248 = .ok (.aload_n 0, 1) := by decide +kernel
theorem D208_1249 : decode (byt 208) 1249 = .ok (.iload_n 3, 1) := by decide +kernel
theorem D208_1250 : decode (byt 208) 1250 = .ok (.iconst 1, 1) := by decide +kernel
theorem D208_1251 : decode (byt 208) 1251 = .ok (.iadd, 1) := by decide +kernel
theorem D208_1252 : decode (byt 208) 1252 = .ok (.iaload, 1) := by decide +kernel
theorem D208_1253 : decode (byt 208) 1253 = .ok (.invokevirtual 152, 3) := by decide +kernel
theorem D208_1256 : decode (byt 208) 1256 = .ok (.if_icmp .eq 94, 3) := by decide +kernel
theorem D208_1259 : decode (byt 208) 1259 = .ok (.iconst 0, 1) := by decide +kernel
theorem D208_1260 : decode (byt 208) 1260 = .ok (.ireturn, 1) := by decide +kernel
theorem D208_1261 : decode (byt 208) 1261 = .ok (.aload_n 1, 1) := by decide +kernel
theorem D208_1262 : decode (byt 208) 1262 = .ok (.aload_n 0, 1) := by decide +kernel
theorem D208_1263 : decode (byt 208) 1263 = .ok (.iload_n 3, 1) := by decide +kernel
theorem D208_1264 : decode (byt 208) 1264 = .ok (.iconst 1, 1) := by decide +kernel
theorem D208_1265 : decode (byt 208) 1265 = .ok (.iadd, 1) := by decide +kernel
theorem D208_1266 : decode (byt 208) 1266 = .ok (.iaload, 1) := by decide +kernel
theorem D208_1267 : decode (byt 208) 1267 = .ok (.aload_n 0, 1) := by decide +kernel
theorem D208_1268 : decode (byt 208) 1268 = .ok (.iload_n 3, 1) := by decide +kernel
theorem D208_1269 : decode (byt 208) 1269 = .ok (.iconst 2, 1) := by decide +kernel
theorem D208_1270 : decode (byt 208) 1270 = .ok (.iadd, 1) := by decide +kernel
theorem D208_1271 : decode (byt 208) 1271 = .ok (.iaload, 1) := by decide +kernel
theorem D208_1272 : decode (byt 208) 1272 = .ok (.aload_n 0, 1) := by decide +kernel
theorem D208_1273 : decode (byt 208) 1273 = .ok (.iload_n 3, 1) := by decide +kernel
theorem D208_1274 : decode (byt 208) 1274 = .ok (.iconst 3, 1) := by decide +kernel
theorem D208_1275 : decode (byt 208) 1275 = .ok (.iadd, 1) := by decide +kernel
theorem D208_1276 : decode (byt 208) 1276 = .ok (.iaload, 1) := by decide +kernel
theorem D208_1277 : decode (byt 208) 1277 = .ok (.invokevirtual 153, 3) := by decide +kernel
theorem D208_1280 : decode (byt 208) 1280 = .ok (.aload_n 2, 1) := by decide +kernel
theorem D208_1281 : decode (byt 208) 1281 = .ok (.aload_n 0, 1) := by decide +kernel
theorem D208_1282 : decode (byt 208) 1282 = .ok (.iload_n 3, 1) := by decide +kernel
theorem D208_1283 : decode (byt 208) 1283 = .ok (.iconst 1, 1) := by decide +kernel
theorem D208_1284 : decode (byt 208) 1284 = .ok (.iadd, 1) := by decide +kernel
theorem D208_1285 : decode (byt 208) 1285 = .ok (.iaload, 1) := by decide +kernel
theorem D208_1286 : decode (byt 208) 1286 = .ok (.aload_n 0, 1) := by decide +kernel
theorem D208_1287 : decode (byt 208) 1287 = .ok (.iload_n 3, 1) := by decide +kernel
theorem D208_1288 : decode (byt 208) 1288 = .ok (.iconst 2, 1) := by decide +kernel
theorem D208_1289 : decode (byt 208) 1289 = .ok (.iadd, 1) := by decide +kernel
theorem D208_1290 : decode (byt 208) 1290 = .ok (.iaload, 1) := by decide +kernel
theorem D208_1291 : decode (byt 208) 1291 = .ok (.aload_n 0, 1) := by decide +kernel
theorem D208_1292 : decode (byt 208) 1292 = .ok (.iload_n 3, 1) := by decide +kernel
theorem D208_1293 : decode (byt 208) 1293 = .ok (.iconst 3, 1) := by decide +kernel
theorem D208_1294 : decode (byt 208) 1294 = .ok (.iadd, 1) := by decide +kernel
theorem D208_1295 : decode (byt 208) 1295 = .ok (.iaload, 1) := by decide +kernel
theorem D208_1296 : decode (byt 208) 1296 = .ok (.invokevirtual 156, 3) := by decide +kernel
theorem D208_1299 : decode (byt 208) 1299 = .ok (.if_icmp .eq 51, 3) := by decide +kernel
theorem D208_1302 : decode (byt 208) 1302 = .ok (.iconst 0, 1) := by decide +kernel
theorem D208_1303 : decode (byt 208) 1303 = .ok (.ireturn, 1) := by decide +kernel
theorem D208_1304 : decode (byt 208) 1304 = .ok (.aload_n 1, 1) := by decide +kernel
theorem D208_1305 : decode (byt 208) 1305 = .ok (.aload_n 0, 1) := by decide +kernel
theorem D208_1306 : decode (byt 208) 1306 = .ok (.iload_n 3, 1) := by decide +kernel
theorem D208_1307 : decode (byt 208) 1307 = .ok (.iconst 1, 1) := by decide +kernel
theorem D208_1308 : decode (byt 208) 1308 = .ok (.iadd, 1) := by decide +kernel
theorem D208_1309 : decode (byt 208) 1309 = .ok (.iaload, 1) := by decide +kernel
theorem D208_1310 : decode (byt 208) 1310 = .ok (.invokevirtual 157, 3) := by decide +kernel
theorem D208_1313 : decode (byt 208) 1313 = .ok (.aload_n 2, 1) := by decide +kernel
theorem D208_1314 : decode (byt 208) 1314 = .ok (.aload_n 0, 1) := by decide +kernel
theorem D208_1315 : decode (byt 208) 1315 = .ok (.iload_n 3, 1) := by decide +kernel
theorem D208_1316 : decode (byt 208) 1316 = .ok (.iconst 1, 1) := by decide +kernel
theorem D208_1317 : decode (byt 208) 1317 = .ok (.iadd, 1) := by decide +kernel
theorem D208_1318 : decode (byt 208) 1318 = .ok (.iaload, 1) := by decide +kernel
theorem D208_1319 : decode (byt 208) 1319 = .ok (.invokevirtual 160, 3) := by decide +kernel
theorem D208_1322 : decode (byt 208) 1322 = .ok (.if_icmp .eq 28, 3) := by decide +kernel
theorem D208_1325 : decode (byt 208) 1325 = .ok (.iconst 0, 1) := by decide +kernel
theorem D208_1326 : decode (byt 208) 1326 = .ok (.ireturn, 1) := by decide +kernel
theorem D208_1327 : decode (byt 208) 1327 = .ok (.aload_n 1, 1) := by decide +kernel
theorem D208_1328 : decode (byt 208) 1328 = .ok (.aload_n 0, 1) := by decide +kernel
theorem D208_1329 : decode (byt 208) 1329 = .ok (.iload_n 3, 1) := by decide +kernel
theorem D208_1330 : decode (byt 208) 1330 = .ok (.iconst 1, 1) := by decide +kernel
theorem D208_1331 : decode (byt 208) 1331 = .ok (.iadd, 1) := by decide +kernel
theorem D208_1332 : decode (byt 208) 1332 = .ok (.iaload, 1) := by decide +kernel
theorem D208_1333 : decode (byt 208) 1333 = .ok (.invokevirtual 161, 3) := by decide +kernel
theorem D208_1336 : decode (byt 208) 1336 = .ok (.aload_n 2, 1) := by decide +kernel
theorem D208_1337 : decode (byt 208) 1337 = .ok (.aload_n 0, 1) := by decide +kernel
theorem D208_1338 : decode (byt 208) 1338 = .ok (.iload_n 3, 1) := by decide +kernel
theorem D208_1339 : decode (byt 208) 1339 = .ok (.iconst 1, 1) := by decide +kernel
theorem D208_1340 : decode (byt 208) 1340 = .ok (.iadd, 1) := by decide +kernel
theorem D208_1341 : decode (byt 208) 1341 = .ok (.iaload, 1) := by decide +kernel
theorem D208_1342 : decode (byt 208) 1342 = .ok (.invokevirtual 164, 3) := by decide +kernel
theorem D208_1345 : decode (byt 208) 1345 = .ok (.if_icmp .eq 5, 3) := by decide +kernel
theorem D208_1348 : decode (byt 208) 1348 = .ok (.iconst 0, 1) := by decide +kernel
theorem D208_1349 : decode (byt 208) 1349 = .ok (.ireturn, 1) := by decide +kernel
theorem D208_1350 : decode (byt 208) 1350 = .ok (.iinc 3 6, 3) := by decide +kernel
theorem D208_1353 : decode (byt 208) 1353 = .ok (.goto (-1335), 3) := by decide +kernel
theorem D208_1356 : decode (byt 208) 1356 = .ok (.iconst 1, 1) := by decide +kernel
theorem D208_1357 : decode (byt 208) 1357 = .ok (.ireturn, 1) := by decide +kernel
