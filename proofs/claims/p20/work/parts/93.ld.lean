def y_L_law : MethodName := ⟨"OneMournerLaw", "law", "([I)Z"⟩
abbrev b_L_law : ByteArray := code
theorem d_L_law_0 : decode b_L_law 0 = .ok (.new 7, 3) := by decide +kernel
theorem d_L_law_3 : decode b_L_law 3 = .ok (.dup, 1) := by decide +kernel
theorem d_L_law_4 : decode b_L_law 4 = .ok (.invokespecial 9, 3) := by decide +kernel
theorem d_L_law_7 : decode b_L_law 7 = .ok (.astore_n 1, 1) := by decide +kernel
theorem d_L_law_8 : decode b_L_law 8 = .ok (.new 10, 3) := by decide +kernel
theorem d_L_law_11 : decode b_L_law 11 = .ok (.dup, 1) := by decide +kernel
theorem d_L_law_12 : decode b_L_law 12 = .ok (.invokespecial 12, 3) := by decide +kernel
theorem d_L_law_15 : decode b_L_law 15 = .ok (.astore_n 2, 1) := by decide +kernel
theorem d_L_law_16 : decode b_L_law 16 = .ok (.iconst 0, 1) := by decide +kernel
theorem d_L_law_17 : decode b_L_law 17 = .ok (.istore_n 3, 1) := by decide +kernel
theorem d_L_law_18 : decode b_L_law 18 = .ok (.iload_n 3, 1) := by decide +kernel
theorem d_L_law_19 : decode b_L_law 19 = .ok (.aload_n 0, 1) := by decide +kernel
theorem d_L_law_20 : decode b_L_law 20 = .ok (.arraylength, 1) := by decide +kernel
theorem d_L_law_21 : decode b_L_law 21 = .ok (.bipush 6, 2) := by decide +kernel
theorem d_L_law_23 : decode b_L_law 23 = .ok (.isub, 1) := by decide +kernel
theorem d_L_law_24 : decode b_L_law 24 = .ok (.if_icmp .gt 1255, 3) := by decide +kernel
theorem d_L_law_27 : decode b_L_law 27 = .ok (.aload_n 0, 1) := by decide +kernel
theorem d_L_law_28 : decode b_L_law 28 = .ok (.iload_n 3, 1) := by decide +kernel
theorem d_L_law_29 : decode b_L_law 29 = .ok (.iaload, 1) := by decide +kernel
theorem d_L_law_30 : decode b_L_law 30 = .ok (.bipush 63, 2) := by decide +kernel
theorem d_L_law_32 : decode b_L_law 32 = .ok (.iand, 1) := by decide +kernel
theorem d_L_law_33 : decode b_L_law 33 = .ok (.tableswitch 1240 0 33 #[151, 194, 227, 270, 319, 342, 375, 418, 441, 454, 477, 500, 533, 556, 569, 602, 645, 688, 721, 745, 778, 801, 834, 847, 880, 893, 906, 949, 972, 1005, 1028, 1071, 1144, 1177], 151) := by decide +kernel
theorem d_L_law_184 : decode b_L_law 184 = .ok (.aload_n 1, 1) := by decide +kernel
theorem d_L_law_185 : decode b_L_law 185 = .ok (.aload_n 0, 1) := by decide +kernel
theorem d_L_law_186 : decode b_L_law 186 = .ok (.iload_n 3, 1) := by decide +kernel
theorem d_L_law_187 : decode b_L_law 187 = .ok (.iconst 1, 1) := by decide +kernel
theorem d_L_law_188 : decode b_L_law 188 = .ok (.iadd, 1) := by decide +kernel
theorem d_L_law_189 : decode b_L_law 189 = .ok (.iaload, 1) := by decide +kernel
theorem d_L_law_190 : decode b_L_law 190 = .ok (.aload_n 0, 1) := by decide +kernel
theorem d_L_law_191 : decode b_L_law 191 = .ok (.iload_n 3, 1) := by decide +kernel
theorem d_L_law_192 : decode b_L_law 192 = .ok (.iconst 2, 1) := by decide +kernel
theorem d_L_law_193 : decode b_L_law 193 = .ok (.iadd, 1) := by decide +kernel
theorem d_L_law_194 : decode b_L_law 194 = .ok (.iaload, 1) := by decide +kernel
theorem d_L_law_195 : decode b_L_law 195 = .ok (.aload_n 0, 1) := by decide +kernel
theorem d_L_law_196 : decode b_L_law 196 = .ok (.iload_n 3, 1) := by decide +kernel
theorem d_L_law_197 : decode b_L_law 197 = .ok (.iconst 3, 1) := by decide +kernel
theorem d_L_law_198 : decode b_L_law 198 = .ok (.iadd, 1) := by decide +kernel
theorem d_L_law_199 : decode b_L_law 199 = .ok (.iaload, 1) := by decide +kernel
theorem d_L_law_200 : decode b_L_law 200 = .ok (.invokevirtual 13, 3) := by decide +kernel
theorem d_L_law_203 : decode b_L_law 203 = .ok (.pop, 1) := by decide +kernel
theorem d_L_law_204 : decode b_L_law 204 = .ok (.aload_n 2, 1) := by decide +kernel
theorem d_L_law_205 : decode b_L_law 205 = .ok (.aload_n 0, 1) := by decide +kernel
theorem d_L_law_206 : decode b_L_law 206 = .ok (.iload_n 3, 1) := by decide +kernel
theorem d_L_law_207 : decode b_L_law 207 = .ok (.iconst 1, 1) := by decide +kernel
theorem d_L_law_208 : decode b_L_law 208 = .ok (.iadd, 1) := by decide +kernel
theorem d_L_law_209 : decode b_L_law 209 = .ok (.iaload, 1) := by decide +kernel
theorem d_L_law_210 : decode b_L_law 210 = .ok (.aload_n 0, 1) := by decide +kernel
theorem d_L_law_211 : decode b_L_law 211 = .ok (.iload_n 3, 1) := by decide +kernel
theorem d_L_law_212 : decode b_L_law 212 = .ok (.iconst 2, 1) := by decide +kernel
theorem d_L_law_213 : decode b_L_law 213 = .ok (.iadd, 1) := by decide +kernel
theorem d_L_law_214 : decode b_L_law 214 = .ok (.iaload, 1) := by decide +kernel
theorem d_L_law_215 : decode b_L_law 215 = .ok (.aload_n 0, 1) := by decide +kernel
theorem d_L_law_216 : decode b_L_law 216 = .ok (.iload_n 3, 1) := by decide +kernel
theorem d_L_law_217 : decode b_L_law 217 = .ok (.iconst 3, 1) := by decide +kernel
theorem d_L_law_218 : decode b_L_law 218 = .ok (.iadd, 1) := by decide +kernel
theorem d_L_law_219 : decode b_L_law 219 = .ok (.iaload, 1) := by decide +kernel
theorem d_L_law_220 : decode b_L_law 220 = .ok (.invokevirtual 17, 3) := by decide +kernel
theorem d_L_law_223 : decode b_L_law 223 = .ok (.pop, 1) := by decide +kernel
theorem d_L_law_224 : decode b_L_law 224 = .ok (.goto 1049, 3) := by decide +kernel
theorem d_L_law_227 : decode b_L_law 227 = .ok (.aload_n 1, 1) := by decide +kernel
theorem d_L_law_228 : decode b_L_law 228 = .ok (.aload_n 0, 1) := by decide +kernel
theorem d_L_law_229 : decode b_L_law 229 = .ok (.iload_n 3, 1) := by decide +kernel
theorem d_L_law_230 : decode b_L_law 230 = .ok (.iconst 1, 1) := by decide +kernel
theorem d_L_law_231 : decode b_L_law 231 = .ok (.iadd, 1) := by decide +kernel
theorem d_L_law_232 : decode b_L_law 232 = .ok (.iaload, 1) := by decide +kernel
theorem d_L_law_233 : decode b_L_law 233 = .ok (.aload_n 0, 1) := by decide +kernel
theorem d_L_law_234 : decode b_L_law 234 = .ok (.iload_n 3, 1) := by decide +kernel
theorem d_L_law_235 : decode b_L_law 235 = .ok (.iconst 2, 1) := by decide +kernel
theorem d_L_law_236 : decode b_L_law 236 = .ok (.iadd, 1) := by decide +kernel
theorem d_L_law_237 : decode b_L_law 237 = .ok (.iaload, 1) := by decide +kernel
theorem d_L_law_238 : decode b_L_law 238 = .ok (.invokevirtual 18, 3) := by decide +kernel
theorem d_L_law_241 : decode b_L_law 241 = .ok (.pop, 1) := by decide +kernel
theorem d_L_law_242 : decode b_L_law 242 = .ok (.aload_n 2, 1) := by decide +kernel
theorem d_L_law_243 : decode b_L_law 243 = .ok (.aload_n 0, 1) := by decide +kernel
theorem d_L_law_244 : decode b_L_law 244 = .ok (.iload_n 3, 1) := by decide +kernel
theorem d_L_law_245 : decode b_L_law 245 = .ok (.iconst 1, 1) := by decide +kernel
theorem d_L_law_246 : decode b_L_law 246 = .ok (.iadd, 1) := by decide +kernel
theorem d_L_law_247 : decode b_L_law 247 = .ok (.iaload, 1) := by decide +kernel
theorem d_L_law_248 : decode b_L_law 248 = .ok (.aload_n 0, 1) := by decide +kernel
theorem d_L_law_249 : decode b_L_law 249 = .ok (.iload_n 3, 1) := by decide +kernel
theorem d_L_law_250 : decode b_L_law 250 = .ok (.iconst 2, 1) := by decide +kernel
theorem d_L_law_251 : decode b_L_law 251 = .ok (.iadd, 1) := by decide +kernel
theorem d_L_law_252 : decode b_L_law 252 = .ok (.iaload, 1) := by decide +kernel
theorem d_L_law_253 : decode b_L_law 253 = .ok (.invokevirtual 22, 3) := by decide +kernel
theorem d_L_law_256 : decode b_L_law 256 = .ok (.pop, 1) := by decide +kernel
theorem d_L_law_257 : decode b_L_law 257 = .ok (.goto 1016, 3) := by decide +kernel
theorem d_L_law_260 : decode b_L_law 260 = .ok (.aload_n 1, 1) := by decide +kernel
theorem d_L_law_261 : decode b_L_law 261 = .ok (.aload_n 0, 1) := by decide +kernel
theorem d_L_law_262 : decode b_L_law 262 = .ok (.iload_n 3, 1) := by decide +kernel
theorem d_L_law_263 : decode b_L_law 263 = .ok (.iconst 1, 1) := by decide +kernel
theorem d_L_law_264 : decode b_L_law 264 = .ok (.iadd, 1) := by decide +kernel
theorem d_L_law_265 : decode b_L_law 265 = .ok (.iaload, 1) := by decide +kernel
theorem d_L_law_266 : decode b_L_law 266 = .ok (.aload_n 0, 1) := by decide +kernel
theorem d_L_law_267 : decode b_L_law 267 = .ok (.iload_n 3, 1) := by decide +kernel
theorem d_L_law_268 : decode b_L_law 268 = .ok (.iconst 2, 1) := by decide +kernel
theorem d_L_law_269 : decode b_L_law 269 = .ok (.iadd, 1) := by decide +kernel
theorem d_L_law_270 : decode b_L_law 270 = .ok (.iaload, 1) := by decide +kernel
theorem d_L_law_271 : decode b_L_law 271 = .ok (.aload_n 0, 1) := by decide +kernel
theorem d_L_law_272 : decode b_L_law 272 = .ok (.iload_n 3, 1) := by decide +kernel
theorem d_L_law_273 : decode b_L_law 273 = .ok (.iconst 3, 1) := by decide +kernel
theorem d_L_law_274 : decode b_L_law 274 = .ok (.iadd, 1) := by decide +kernel
theorem d_L_law_275 : decode b_L_law 275 = .ok (.iaload, 1) := by decide +kernel
theorem d_L_law_276 : decode b_L_law 276 = .ok (.invokevirtual 23, 3) := by decide +kernel
theorem d_L_law_279 : decode b_L_law 279 = .ok (.pop, 1) := by decide +kernel
theorem d_L_law_280 : decode b_L_law 280 = .ok (.aload_n 2, 1) := by decide +kernel
theorem d_L_law_281 : decode b_L_law 281 = .ok (.aload_n 0, 1) := by decide +kernel
theorem d_L_law_282 : decode b_L_law 282 = .ok (.iload_n 3, 1) := by decide +kernel
theorem d_L_law_283 : decode b_L_law 283 = .ok (.iconst 1, 1) := by decide +kernel
theorem d_L_law_284 : decode b_L_law 284 = .ok (.iadd, 1) := by decide +kernel
theorem d_L_law_285 : decode b_L_law 285 = .ok (.iaload, 1) := by decide +kernel
theorem d_L_law_286 : decode b_L_law 286 = .ok (.aload_n 0, 1) := by decide +kernel
theorem d_L_law_287 : decode b_L_law 287 = .ok (.iload_n 3, 1) := by decide +kernel
theorem d_L_law_288 : decode b_L_law 288 = .ok (.iconst 2, 1) := by decide +kernel
theorem d_L_law_289 : decode b_L_law 289 = .ok (.iadd, 1) := by decide +kernel
theorem d_L_law_290 : decode b_L_law 290 = .ok (.iaload, 1) := by decide +kernel
theorem d_L_law_291 : decode b_L_law 291 = .ok (.aload_n 0, 1) := by decide +kernel
theorem d_L_law_292 : decode b_L_law 292 = .ok (.iload_n 3, 1) := by decide +kernel
theorem d_L_law_293 : decode b_L_law 293 = .ok (.iconst 3, 1) := by decide +kernel
theorem d_L_law_294 : decode b_L_law 294 = .ok (.iadd, 1) := by decide +kernel
theorem d_L_law_295 : decode b_L_law 295 = .ok (.iaload, 1) := by decide +kernel
theorem d_L_law_296 : decode b_L_law 296 = .ok (.invokevirtual 26, 3) := by decide +kernel
theorem d_L_law_299 : decode b_L_law 299 = .ok (.pop, 1) := by decide +kernel
theorem d_L_law_300 : decode b_L_law 300 = .ok (.goto 973, 3) := by decide +kernel
theorem d_L_law_303 : decode b_L_law 303 = .ok (.aload_n 1, 1) := by decide +kernel
theorem d_L_law_304 : decode b_L_law 304 = .ok (.aload_n 0, 1) := by decide +kernel
theorem d_L_law_305 : decode b_L_law 305 = .ok (.iload_n 3, 1) := by decide +kernel
theorem d_L_law_306 : decode b_L_law 306 = .ok (.iconst 1, 1) := by decide +kernel
theorem d_L_law_307 : decode b_L_law 307 = .ok (.iadd, 1) := by decide +kernel
theorem d_L_law_308 : decode b_L_law 308 = .ok (.iaload, 1) := by decide +kernel
theorem d_L_law_309 : decode b_L_law 309 = .ok (.aload_n 0, 1) := by decide +kernel
theorem d_L_law_310 : decode b_L_law 310 = .ok (.iload_n 3, 1) := by decide +kernel
theorem d_L_law_311 : decode b_L_law 311 = .ok (.iconst 2, 1) := by decide +kernel
theorem d_L_law_312 : decode b_L_law 312 = .ok (.iadd, 1) := by decide +kernel
theorem d_L_law_313 : decode b_L_law 313 = .ok (.iaload, 1) := by decide +kernel
theorem d_L_law_314 : decode b_L_law 314 = .ok (.ifCond .eq 7, 3) := by decide +kernel
theorem d_L_law_317 : decode b_L_law 317 = .ok (.iconst 1, 1) := by decide +kernel
theorem d_L_law_318 : decode b_L_law 318 = .ok (.goto 4, 3) := by decide +kernel
theorem d_L_law_321 : decode b_L_law 321 = .ok (.iconst 0, 1) := by decide +kernel
theorem d_L_law_322 : decode b_L_law 322 = .ok (.invokevirtual 27, 3) := by decide +kernel
theorem d_L_law_325 : decode b_L_law 325 = .ok (.pop, 1) := by decide +kernel
theorem d_L_law_326 : decode b_L_law 326 = .ok (.aload_n 2, 1) := by decide +kernel
theorem d_L_law_327 : decode b_L_law 327 = .ok (.aload_n 0, 1) := by decide +kernel
theorem d_L_law_328 : decode b_L_law 328 = .ok (.iload_n 3, 1) := by decide +kernel
theorem d_L_law_329 : decode b_L_law 329 = .ok (.iconst 1, 1) := by decide +kernel
theorem d_L_law_330 : decode b_L_law 330 = .ok (.iadd, 1) := by decide +kernel
theorem d_L_law_331 : decode b_L_law 331 = .ok (.iaload, 1) := by decide +kernel
theorem d_L_law_332 : decode b_L_law 332 = .ok (.aload_n 0, 1) := by decide +kernel
theorem d_L_law_333 : decode b_L_law 333 = .ok (.iload_n 3, 1) := by decide +kernel
theorem d_L_law_334 : decode b_L_law 334 = .ok (.iconst 2, 1) := by decide +kernel
theorem d_L_law_335 : decode b_L_law 335 = .ok (.iadd, 1) := by decide +kernel
theorem d_L_law_336 : decode b_L_law 336 = .ok (.iaload, 1) := by decide +kernel
theorem d_L_law_337 : decode b_L_law 337 = .ok (.ifCond .eq 7, 3) := by decide +kernel
theorem d_L_law_340 : decode b_L_law 340 = .ok (.iconst 1, 1) := by decide +kernel
theorem d_L_law_341 : decode b_L_law 341 = .ok (.goto 4, 3) := by decide +kernel
theorem d_L_law_344 : decode b_L_law 344 = .ok (.iconst 0, 1) := by decide +kernel
theorem d_L_law_345 : decode b_L_law 345 = .ok (.invokevirtual 31, 3) := by decide +kernel
theorem d_L_law_348 : decode b_L_law 348 = .ok (.pop, 1) := by decide +kernel
theorem d_L_law_349 : decode b_L_law 349 = .ok (.goto 924, 3) := by decide +kernel
theorem d_L_law_352 : decode b_L_law 352 = .ok (.aload_n 1, 1) := by decide +kernel
theorem d_L_law_353 : decode b_L_law 353 = .ok (.aload_n 0, 1) := by decide +kernel
theorem d_L_law_354 : decode b_L_law 354 = .ok (.iload_n 3, 1) := by decide +kernel
theorem d_L_law_355 : decode b_L_law 355 = .ok (.iconst 1, 1) := by decide +kernel
theorem d_L_law_356 : decode b_L_law 356 = .ok (.iadd, 1) := by decide +kernel
theorem d_L_law_357 : decode b_L_law 357 = .ok (.iaload, 1) := by decide +kernel
theorem d_L_law_358 : decode b_L_law 358 = .ok (.invokevirtual 32, 3) := by decide +kernel
theorem d_L_law_361 : decode b_L_law 361 = .ok (.pop, 1) := by decide +kernel
theorem d_L_law_362 : decode b_L_law 362 = .ok (.aload_n 2, 1) := by decide +kernel
theorem d_L_law_363 : decode b_L_law 363 = .ok (.aload_n 0, 1) := by decide +kernel
theorem d_L_law_364 : decode b_L_law 364 = .ok (.iload_n 3, 1) := by decide +kernel
theorem d_L_law_365 : decode b_L_law 365 = .ok (.iconst 1, 1) := by decide +kernel
theorem d_L_law_366 : decode b_L_law 366 = .ok (.iadd, 1) := by decide +kernel
theorem d_L_law_367 : decode b_L_law 367 = .ok (.iaload, 1) := by decide +kernel
theorem d_L_law_368 : decode b_L_law 368 = .ok (.invokevirtual 36, 3) := by decide +kernel
theorem d_L_law_371 : decode b_L_law 371 = .ok (.pop, 1) := by decide +kernel
theorem d_L_law_372 : decode b_L_law 372 = .ok (.goto 901, 3) := by decide +kernel
theorem d_L_law_375 : decode b_L_law 375 = .ok (.aload_n 1, 1) := by decide +kernel
theorem d_L_law_376 : decode b_L_law 376 = .ok (.aload_n 0, 1) := by decide +kernel
theorem d_L_law_377 : decode b_L_law 377 = .ok (.iload_n 3, 1) := by decide +kernel
theorem d_L_law_378 : decode b_L_law 378 = .ok (.iconst 1, 1) := by decide +kernel
theorem d_L_law_379 : decode b_L_law 379 = .ok (.iadd, 1) := by decide +kernel
theorem d_L_law_380 : decode b_L_law 380 = .ok (.iaload, 1) := by decide +kernel
theorem d_L_law_381 : decode b_L_law 381 = .ok (.aload_n 0, 1) := by decide +kernel
theorem d_L_law_382 : decode b_L_law 382 = .ok (.iload_n 3, 1) := by decide +kernel
theorem d_L_law_383 : decode b_L_law 383 = .ok (.iconst 2, 1) := by decide +kernel
theorem d_L_law_384 : decode b_L_law 384 = .ok (.iadd, 1) := by decide +kernel
theorem d_L_law_385 : decode b_L_law 385 = .ok (.iaload, 1) := by decide +kernel
theorem d_L_law_386 : decode b_L_law 386 = .ok (.invokevirtual 37, 3) := by decide +kernel
theorem d_L_law_389 : decode b_L_law 389 = .ok (.pop, 1) := by decide +kernel
theorem d_L_law_390 : decode b_L_law 390 = .ok (.aload_n 2, 1) := by decide +kernel
theorem d_L_law_391 : decode b_L_law 391 = .ok (.aload_n 0, 1) := by decide +kernel
theorem d_L_law_392 : decode b_L_law 392 = .ok (.iload_n 3, 1) := by decide +kernel
theorem d_L_law_393 : decode b_L_law 393 = .ok (.iconst 1, 1) := by decide +kernel
theorem d_L_law_394 : decode b_L_law 394 = .ok (.iadd, 1) := by decide +kernel
theorem d_L_law_395 : decode b_L_law 395 = .ok (.iaload, 1) := by decide +kernel
theorem d_L_law_396 : decode b_L_law 396 = .ok (.aload_n 0, 1) := by decide +kernel
theorem d_L_law_397 : decode b_L_law 397 = .ok (.iload_n 3, 1) := by decide +kernel
theorem d_L_law_398 : decode b_L_law 398 = .ok (.iconst 2, 1) := by decide +kernel
theorem d_L_law_399 : decode b_L_law 399 = .ok (.iadd, 1) := by decide +kernel
theorem d_L_law_400 : decode b_L_law 400 = .ok (.iaload, 1) := by decide +kernel
theorem d_L_law_401 : decode b_L_law 401 = .ok (.invokevirtual 40, 3) := by decide +kernel
theorem d_L_law_404 : decode b_L_law 404 = .ok (.pop, 1) := by decide +kernel
theorem d_L_law_405 : decode b_L_law 405 = .ok (.goto 868, 3) := by decide +kernel
theorem d_L_law_408 : decode b_L_law 408 = .ok (.aload_n 1, 1) := by decide +kernel
theorem d_L_law_409 : decode b_L_law 409 = .ok (.aload_n 0, 1) := by decide +kernel
theorem d_L_law_410 : decode b_L_law 410 = .ok (.iload_n 3, 1) := by decide +kernel
theorem d_L_law_411 : decode b_L_law 411 = .ok (.iconst 1, 1) := by decide +kernel
theorem d_L_law_412 : decode b_L_law 412 = .ok (.iadd, 1) := by decide +kernel
theorem d_L_law_413 : decode b_L_law 413 = .ok (.iaload, 1) := by decide +kernel
theorem d_L_law_414 : decode b_L_law 414 = .ok (.aload_n 0, 1) := by decide +kernel
theorem d_L_law_415 : decode b_L_law 415 = .ok (.iload_n 3, 1) := by decide +kernel
theorem d_L_law_416 : decode b_L_law 416 = .ok (.iconst 2, 1) := by decide +kernel
theorem d_L_law_417 : decode b_L_law 417 = .ok (.iadd, 1) := by decide +kernel
theorem d_L_law_418 : decode b_L_law 418 = .ok (.iaload, 1) := by decide +kernel
theorem d_L_law_419 : decode b_L_law 419 = .ok (.aload_n 0, 1) := by decide +kernel
theorem d_L_law_420 : decode b_L_law 420 = .ok (.iload_n 3, 1) := by decide +kernel
theorem d_L_law_421 : decode b_L_law 421 = .ok (.iconst 3, 1) := by decide +kernel
theorem d_L_law_422 : decode b_L_law 422 = .ok (.iadd, 1) := by decide +kernel
theorem d_L_law_423 : decode b_L_law 423 = .ok (.iaload, 1) := by decide +kernel
theorem d_L_law_424 : decode b_L_law 424 = .ok (.invokevirtual 41, 3) := by decide +kernel
theorem d_L_law_427 : decode b_L_law 427 = .ok (.pop, 1) := by decide +kernel
theorem d_L_law_428 : decode b_L_law 428 = .ok (.aload_n 2, 1) := by decide +kernel
theorem d_L_law_429 : decode b_L_law 429 = .ok (.aload_n 0, 1) := by decide +kernel
theorem d_L_law_430 : decode b_L_law 430 = .ok (.iload_n 3, 1) := by decide +kernel
theorem d_L_law_431 : decode b_L_law 431 = .ok (.iconst 1, 1) := by decide +kernel
theorem d_L_law_432 : decode b_L_law 432 = .ok (.iadd, 1) := by decide +kernel
theorem d_L_law_433 : decode b_L_law 433 = .ok (.iaload, 1) := by decide +kernel
theorem d_L_law_434 : decode b_L_law 434 = .ok (.aload_n 0, 1) := by decide +kernel
theorem d_L_law_435 : decode b_L_law 435 = .ok (.iload_n 3, 1) := by decide +kernel
theorem d_L_law_436 : decode b_L_law 436 = .ok (.iconst 2, 1) := by decide +kernel
theorem d_L_law_437 : decode b_L_law 437 = .ok (.iadd, 1) := by decide +kernel
theorem d_L_law_438 : decode b_L_law 438 = .ok (.iaload, 1) := by decide +kernel
theorem d_L_law_439 : decode b_L_law 439 = .ok (.aload_n 0, 1) := by decide +kernel
theorem d_L_law_440 : decode b_L_law 440 = .ok (.iload_n 3, 1) := by decide +kernel
theorem d_L_law_441 : decode b_L_law 441 = .ok (.iconst 3, 1) := by decide +kernel
theorem d_L_law_442 : decode b_L_law 442 = .ok (.iadd, 1) := by decide +kernel
theorem d_L_law_443 : decode b_L_law 443 = .ok (.iaload, 1) := by decide +kernel
theorem d_L_law_444 : decode b_L_law 444 = .ok (.invokevirtual 44, 3) := by decide +kernel
theorem d_L_law_447 : decode b_L_law 447 = .ok (.pop, 1) := by decide +kernel
theorem d_L_law_448 : decode b_L_law 448 = .ok (.goto 825, 3) := by decide +kernel
theorem d_L_law_451 : decode b_L_law 451 = .ok (.aload_n 1, 1) := by decide +kernel
theorem d_L_law_452 : decode b_L_law 452 = .ok (.aload_n 0, 1) := by decide +kernel
theorem d_L_law_453 : decode b_L_law 453 = .ok (.iload_n 3, 1) := by decide +kernel
theorem d_L_law_454 : decode b_L_law 454 = .ok (.iconst 1, 1) := by decide +kernel
theorem d_L_law_455 : decode b_L_law 455 = .ok (.iadd, 1) := by decide +kernel
theorem d_L_law_456 : decode b_L_law 456 = .ok (.iaload, 1) := by decide +kernel
theorem d_L_law_457 : decode b_L_law 457 = .ok (.invokevirtual 45, 3) := by decide +kernel
theorem d_L_law_460 : decode b_L_law 460 = .ok (.pop, 1) := by decide +kernel
theorem d_L_law_461 : decode b_L_law 461 = .ok (.aload_n 2, 1) := by decide +kernel
theorem d_L_law_462 : decode b_L_law 462 = .ok (.aload_n 0, 1) := by decide +kernel
theorem d_L_law_463 : decode b_L_law 463 = .ok (.iload_n 3, 1) := by decide +kernel
theorem d_L_law_464 : decode b_L_law 464 = .ok (.iconst 1, 1) := by decide +kernel
theorem d_L_law_465 : decode b_L_law 465 = .ok (.iadd, 1) := by decide +kernel
theorem d_L_law_466 : decode b_L_law 466 = .ok (.iaload, 1) := by decide +kernel
theorem d_L_law_467 : decode b_L_law 467 = .ok (.invokevirtual 48, 3) := by decide +kernel
theorem d_L_law_470 : decode b_L_law 470 = .ok (.pop, 1) := by decide +kernel
theorem d_L_law_471 : decode b_L_law 471 = .ok (.goto 802, 3) := by decide +kernel
theorem d_L_law_474 : decode b_L_law 474 = .ok (.aload_n 1, 1) := by decide +kernel
theorem d_L_law_475 : decode b_L_law 475 = .ok (.invokevirtual 49, 3) := by decide +kernel
theorem d_L_law_478 : decode b_L_law 478 = .ok (.pop, 1) := by decide +kernel
theorem d_L_law_479 : decode b_L_law 479 = .ok (.aload_n 2, 1) := by decide +kernel
theorem d_L_law_480 : decode b_L_law 480 = .ok (.invokevirtual 53, 3) := by decide +kernel
theorem d_L_law_483 : decode b_L_law 483 = .ok (.pop, 1) := by decide +kernel
theorem d_L_law_484 : decode b_L_law 484 = .ok (.goto 789, 3) := by decide +kernel
theorem d_L_law_487 : decode b_L_law 487 = .ok (.aload_n 1, 1) := by decide +kernel
theorem d_L_law_488 : decode b_L_law 488 = .ok (.aload_n 0, 1) := by decide +kernel
theorem d_L_law_489 : decode b_L_law 489 = .ok (.iload_n 3, 1) := by decide +kernel
theorem d_L_law_490 : decode b_L_law 490 = .ok (.iconst 1, 1) := by decide +kernel
theorem d_L_law_491 : decode b_L_law 491 = .ok (.iadd, 1) := by decide +kernel
theorem d_L_law_492 : decode b_L_law 492 = .ok (.iaload, 1) := by decide +kernel
theorem d_L_law_493 : decode b_L_law 493 = .ok (.invokevirtual 54, 3) := by decide +kernel
theorem d_L_law_496 : decode b_L_law 496 = .ok (.pop, 1) := by decide +kernel
theorem d_L_law_497 : decode b_L_law 497 = .ok (.aload_n 2, 1) := by decide +kernel
theorem d_L_law_498 : decode b_L_law 498 = .ok (.aload_n 0, 1) := by decide +kernel
theorem d_L_law_499 : decode b_L_law 499 = .ok (.iload_n 3, 1) := by decide +kernel
theorem d_L_law_500 : decode b_L_law 500 = .ok (.iconst 1, 1) := by decide +kernel
theorem d_L_law_501 : decode b_L_law 501 = .ok (.iadd, 1) := by decide +kernel
theorem d_L_law_502 : decode b_L_law 502 = .ok (.iaload, 1) := by decide +kernel
theorem d_L_law_503 : decode b_L_law 503 = .ok (.invokevirtual 57, 3) := by decide +kernel
theorem d_L_law_506 : decode b_L_law 506 = .ok (.pop, 1) := by decide +kernel
theorem d_L_law_507 : decode b_L_law 507 = .ok (.goto 766, 3) := by decide +kernel
theorem d_L_law_510 : decode b_L_law 510 = .ok (.aload_n 1, 1) := by decide +kernel
theorem d_L_law_511 : decode b_L_law 511 = .ok (.aload_n 0, 1) := by decide +kernel
theorem d_L_law_512 : decode b_L_law 512 = .ok (.iload_n 3, 1) := by decide +kernel
theorem d_L_law_513 : decode b_L_law 513 = .ok (.iconst 1, 1) := by decide +kernel
theorem d_L_law_514 : decode b_L_law 514 = .ok (.iadd, 1) := by decide +kernel
theorem d_L_law_515 : decode b_L_law 515 = .ok (.iaload, 1) := by decide +kernel
theorem d_L_law_516 : decode b_L_law 516 = .ok (.invokevirtual 58, 3) := by decide +kernel
theorem d_L_law_519 : decode b_L_law 519 = .ok (.pop, 1) := by decide +kernel
theorem d_L_law_520 : decode b_L_law 520 = .ok (.aload_n 2, 1) := by decide +kernel
theorem d_L_law_521 : decode b_L_law 521 = .ok (.aload_n 0, 1) := by decide +kernel
theorem d_L_law_522 : decode b_L_law 522 = .ok (.iload_n 3, 1) := by decide +kernel
theorem d_L_law_523 : decode b_L_law 523 = .ok (.iconst 1, 1) := by decide +kernel
theorem d_L_law_524 : decode b_L_law 524 = .ok (.iadd, 1) := by decide +kernel
theorem d_L_law_525 : decode b_L_law 525 = .ok (.iaload, 1) := by decide +kernel
theorem d_L_law_526 : decode b_L_law 526 = .ok (.invokevirtual 61, 3) := by decide +kernel
theorem d_L_law_529 : decode b_L_law 529 = .ok (.pop, 1) := by decide +kernel
theorem d_L_law_530 : decode b_L_law 530 = .ok (.goto 743, 3) := by decide +kernel
theorem d_L_law_533 : decode b_L_law 533 = .ok (.aload_n 1, 1) := by decide +kernel
theorem d_L_law_534 : decode b_L_law 534 = .ok (.aload_n 0, 1) := by decide +kernel
theorem d_L_law_535 : decode b_L_law 535 = .ok (.iload_n 3, 1) := by decide +kernel
theorem d_L_law_536 : decode b_L_law 536 = .ok (.iconst 1, 1) := by decide +kernel
theorem d_L_law_537 : decode b_L_law 537 = .ok (.iadd, 1) := by decide +kernel
theorem d_L_law_538 : decode b_L_law 538 = .ok (.iaload, 1) := by decide +kernel
theorem d_L_law_539 : decode b_L_law 539 = .ok (.aload_n 0, 1) := by decide +kernel
theorem d_L_law_540 : decode b_L_law 540 = .ok (.iload_n 3, 1) := by decide +kernel
theorem d_L_law_541 : decode b_L_law 541 = .ok (.iconst 2, 1) := by decide +kernel
theorem d_L_law_542 : decode b_L_law 542 = .ok (.iadd, 1) := by decide +kernel
theorem d_L_law_543 : decode b_L_law 543 = .ok (.iaload, 1) := by decide +kernel
theorem d_L_law_544 : decode b_L_law 544 = .ok (.invokevirtual 62, 3) := by decide +kernel
theorem d_L_law_547 : decode b_L_law 547 = .ok (.pop, 1) := by decide +kernel
theorem d_L_law_548 : decode b_L_law 548 = .ok (.aload_n 2, 1) := by decide +kernel
theorem d_L_law_549 : decode b_L_law 549 = .ok (.aload_n 0, 1) := by decide +kernel
theorem d_L_law_550 : decode b_L_law 550 = .ok (.iload_n 3, 1) := by decide +kernel
theorem d_L_law_551 : decode b_L_law 551 = .ok (.iconst 1, 1) := by decide +kernel
theorem d_L_law_552 : decode b_L_law 552 = .ok (.iadd, 1) := by decide +kernel
theorem d_L_law_553 : decode b_L_law 553 = .ok (.iaload, 1) := by decide +kernel
theorem d_L_law_554 : decode b_L_law 554 = .ok (.aload_n 0, 1) := by decide +kernel
theorem d_L_law_555 : decode b_L_law 555 = .ok (.iload_n 3, 1) := by decide +kernel
theorem d_L_law_556 : decode b_L_law 556 = .ok (.iconst 2, 1) := by decide +kernel
theorem d_L_law_557 : decode b_L_law 557 = .ok (.iadd, 1) := by decide +kernel
theorem d_L_law_558 : decode b_L_law 558 = .ok (.iaload, 1) := by decide +kernel
theorem d_L_law_559 : decode b_L_law 559 = .ok (.invokevirtual 65, 3) := by decide +kernel
theorem d_L_law_562 : decode b_L_law 562 = .ok (.pop, 1) := by decide +kernel
theorem d_L_law_563 : decode b_L_law 563 = .ok (.goto 710, 3) := by decide +kernel
theorem d_L_law_566 : decode b_L_law 566 = .ok (.aload_n 1, 1) := by decide +kernel
theorem d_L_law_567 : decode b_L_law 567 = .ok (.aload_n 0, 1) := by decide +kernel
theorem d_L_law_568 : decode b_L_law 568 = .ok (.iload_n 3, 1) := by decide +kernel
theorem d_L_law_569 : decode b_L_law 569 = .ok (.iconst 1, 1) := by decide +kernel
theorem d_L_law_570 : decode b_L_law 570 = .ok (.iadd, 1) := by decide +kernel
theorem d_L_law_571 : decode b_L_law 571 = .ok (.iaload, 1) := by decide +kernel
theorem d_L_law_572 : decode b_L_law 572 = .ok (.invokevirtual 66, 3) := by decide +kernel
theorem d_L_law_575 : decode b_L_law 575 = .ok (.pop, 1) := by decide +kernel
theorem d_L_law_576 : decode b_L_law 576 = .ok (.aload_n 2, 1) := by decide +kernel
theorem d_L_law_577 : decode b_L_law 577 = .ok (.aload_n 0, 1) := by decide +kernel
theorem d_L_law_578 : decode b_L_law 578 = .ok (.iload_n 3, 1) := by decide +kernel
theorem d_L_law_579 : decode b_L_law 579 = .ok (.iconst 1, 1) := by decide +kernel
theorem d_L_law_580 : decode b_L_law 580 = .ok (.iadd, 1) := by decide +kernel
theorem d_L_law_581 : decode b_L_law 581 = .ok (.iaload, 1) := by decide +kernel
theorem d_L_law_582 : decode b_L_law 582 = .ok (.invokevirtual 69, 3) := by decide +kernel
theorem d_L_law_585 : decode b_L_law 585 = .ok (.pop, 1) := by decide +kernel
theorem d_L_law_586 : decode b_L_law 586 = .ok (.goto 687, 3) := by decide +kernel
theorem d_L_law_589 : decode b_L_law 589 = .ok (.aload_n 1, 1) := by decide +kernel
theorem d_L_law_590 : decode b_L_law 590 = .ok (.invokevirtual 70, 3) := by decide +kernel
theorem d_L_law_593 : decode b_L_law 593 = .ok (.pop, 1) := by decide +kernel
theorem d_L_law_594 : decode b_L_law 594 = .ok (.aload_n 2, 1) := by decide +kernel
theorem d_L_law_595 : decode b_L_law 595 = .ok (.invokevirtual 73, 3) := by decide +kernel
theorem d_L_law_598 : decode b_L_law 598 = .ok (.pop, 1) := by decide +kernel
theorem d_L_law_599 : decode b_L_law 599 = .ok (.goto 674, 3) := by decide +kernel
theorem d_L_law_602 : decode b_L_law 602 = .ok (.aload_n 1, 1) := by decide +kernel
theorem d_L_law_603 : decode b_L_law 603 = .ok (.aload_n 0, 1) := by decide +kernel
theorem d_L_law_604 : decode b_L_law 604 = .ok (.iload_n 3, 1) := by decide +kernel
theorem d_L_law_605 : decode b_L_law 605 = .ok (.iconst 1, 1) := by decide +kernel
theorem d_L_law_606 : decode b_L_law 606 = .ok (.iadd, 1) := by decide +kernel
theorem d_L_law_607 : decode b_L_law 607 = .ok (.iaload, 1) := by decide +kernel
theorem d_L_law_608 : decode b_L_law 608 = .ok (.aload_n 0, 1) := by decide +kernel
theorem d_L_law_609 : decode b_L_law 609 = .ok (.iload_n 3, 1) := by decide +kernel
theorem d_L_law_610 : decode b_L_law 610 = .ok (.iconst 2, 1) := by decide +kernel
theorem d_L_law_611 : decode b_L_law 611 = .ok (.iadd, 1) := by decide +kernel
theorem d_L_law_612 : decode b_L_law 612 = .ok (.iaload, 1) := by decide +kernel
theorem d_L_law_613 : decode b_L_law 613 = .ok (.invokevirtual 74, 3) := by decide +kernel
theorem d_L_law_616 : decode b_L_law 616 = .ok (.pop, 1) := by decide +kernel
theorem d_L_law_617 : decode b_L_law 617 = .ok (.aload_n 2, 1) := by decide +kernel
theorem d_L_law_618 : decode b_L_law 618 = .ok (.aload_n 0, 1) := by decide +kernel
theorem d_L_law_619 : decode b_L_law 619 = .ok (.iload_n 3, 1) := by decide +kernel
theorem d_L_law_620 : decode b_L_law 620 = .ok (.iconst 1, 1) := by decide +kernel
theorem d_L_law_621 : decode b_L_law 621 = .ok (.iadd, 1) := by decide +kernel
theorem d_L_law_622 : decode b_L_law 622 = .ok (.iaload, 1) := by decide +kernel
theorem d_L_law_623 : decode b_L_law 623 = .ok (.aload_n 0, 1) := by decide +kernel
theorem d_L_law_624 : decode b_L_law 624 = .ok (.iload_n 3, 1) := by decide +kernel
theorem d_L_law_625 : decode b_L_law 625 = .ok (.iconst 2, 1) := by decide +kernel
theorem d_L_law_626 : decode b_L_law 626 = .ok (.iadd, 1) := by decide +kernel
theorem d_L_law_627 : decode b_L_law 627 = .ok (.iaload, 1) := by decide +kernel
theorem d_L_law_628 : decode b_L_law 628 = .ok (.invokevirtual 77, 3) := by decide +kernel
theorem d_L_law_631 : decode b_L_law 631 = .ok (.pop, 1) := by decide +kernel
theorem d_L_law_632 : decode b_L_law 632 = .ok (.goto 641, 3) := by decide +kernel
theorem d_L_law_635 : decode b_L_law 635 = .ok (.aload_n 1, 1) := by decide +kernel
theorem d_L_law_636 : decode b_L_law 636 = .ok (.aload_n 0, 1) := by decide +kernel
theorem d_L_law_637 : decode b_L_law 637 = .ok (.iload_n 3, 1) := by decide +kernel
theorem d_L_law_638 : decode b_L_law 638 = .ok (.iconst 1, 1) := by decide +kernel
theorem d_L_law_639 : decode b_L_law 639 = .ok (.iadd, 1) := by decide +kernel
theorem d_L_law_640 : decode b_L_law 640 = .ok (.iaload, 1) := by decide +kernel
theorem d_L_law_641 : decode b_L_law 641 = .ok (.aload_n 0, 1) := by decide +kernel
theorem d_L_law_642 : decode b_L_law 642 = .ok (.iload_n 3, 1) := by decide +kernel
theorem d_L_law_643 : decode b_L_law 643 = .ok (.iconst 2, 1) := by decide +kernel
theorem d_L_law_644 : decode b_L_law 644 = .ok (.iadd, 1) := by decide +kernel
theorem d_L_law_645 : decode b_L_law 645 = .ok (.iaload, 1) := by decide +kernel
theorem d_L_law_646 : decode b_L_law 646 = .ok (.aload_n 0, 1) := by decide +kernel
theorem d_L_law_647 : decode b_L_law 647 = .ok (.iload_n 3, 1) := by decide +kernel
theorem d_L_law_648 : decode b_L_law 648 = .ok (.iconst 3, 1) := by decide +kernel
theorem d_L_law_649 : decode b_L_law 649 = .ok (.iadd, 1) := by decide +kernel
theorem d_L_law_650 : decode b_L_law 650 = .ok (.iaload, 1) := by decide +kernel
theorem d_L_law_651 : decode b_L_law 651 = .ok (.invokevirtual 78, 3) := by decide +kernel
theorem d_L_law_654 : decode b_L_law 654 = .ok (.pop, 1) := by decide +kernel
theorem d_L_law_655 : decode b_L_law 655 = .ok (.aload_n 2, 1) := by decide +kernel
theorem d_L_law_656 : decode b_L_law 656 = .ok (.aload_n 0, 1) := by decide +kernel
theorem d_L_law_657 : decode b_L_law 657 = .ok (.iload_n 3, 1) := by decide +kernel
theorem d_L_law_658 : decode b_L_law 658 = .ok (.iconst 1, 1) := by decide +kernel
theorem d_L_law_659 : decode b_L_law 659 = .ok (.iadd, 1) := by decide +kernel
theorem d_L_law_660 : decode b_L_law 660 = .ok (.iaload, 1) := by decide +kernel
theorem d_L_law_661 : decode b_L_law 661 = .ok (.aload_n 0, 1) := by decide +kernel
theorem d_L_law_662 : decode b_L_law 662 = .ok (.iload_n 3, 1) := by decide +kernel
theorem d_L_law_663 : decode b_L_law 663 = .ok (.iconst 2, 1) := by decide +kernel
theorem d_L_law_664 : decode b_L_law 664 = .ok (.iadd, 1) := by decide +kernel
theorem d_L_law_665 : decode b_L_law 665 = .ok (.iaload, 1) := by decide +kernel
theorem d_L_law_666 : decode b_L_law 666 = .ok (.aload_n 0, 1) := by decide +kernel
theorem d_L_law_667 : decode b_L_law 667 = .ok (.iload_n 3, 1) := by decide +kernel
theorem d_L_law_668 : decode b_L_law 668 = .ok (.iconst 3, 1) := by decide +kernel
theorem d_L_law_669 : decode b_L_law 669 = .ok (.iadd, 1) := by decide +kernel
theorem d_L_law_670 : decode b_L_law 670 = .ok (.iaload, 1) := by decide +kernel
theorem d_L_law_671 : decode b_L_law 671 = .ok (.invokevirtual 81, 3) := by decide +kernel
theorem d_L_law_674 : decode b_L_law 674 = .ok (.pop, 1) := by decide +kernel
theorem d_L_law_675 : decode b_L_law 675 = .ok (.goto 598, 3) := by decide +kernel
theorem d_L_law_678 : decode b_L_law 678 = .ok (.aload_n 1, 1) := by decide +kernel
theorem d_L_law_679 : decode b_L_law 679 = .ok (.aload_n 0, 1) := by decide +kernel
theorem d_L_law_680 : decode b_L_law 680 = .ok (.iload_n 3, 1) := by decide +kernel
theorem d_L_law_681 : decode b_L_law 681 = .ok (.iconst 1, 1) := by decide +kernel
theorem d_L_law_682 : decode b_L_law 682 = .ok (.iadd, 1) := by decide +kernel
theorem d_L_law_683 : decode b_L_law 683 = .ok (.iaload, 1) := by decide +kernel
theorem d_L_law_684 : decode b_L_law 684 = .ok (.aload_n 0, 1) := by decide +kernel
theorem d_L_law_685 : decode b_L_law 685 = .ok (.iload_n 3, 1) := by decide +kernel
theorem d_L_law_686 : decode b_L_law 686 = .ok (.iconst 2, 1) := by decide +kernel
theorem d_L_law_687 : decode b_L_law 687 = .ok (.iadd, 1) := by decide +kernel
theorem d_L_law_688 : decode b_L_law 688 = .ok (.iaload, 1) := by decide +kernel
theorem d_L_law_689 : decode b_L_law 689 = .ok (.aload_n 0, 1) := by decide +kernel
theorem d_L_law_690 : decode b_L_law 690 = .ok (.iload_n 3, 1) := by decide +kernel
theorem d_L_law_691 : decode b_L_law 691 = .ok (.iconst 3, 1) := by decide +kernel
theorem d_L_law_692 : decode b_L_law 692 = .ok (.iadd, 1) := by decide +kernel
theorem d_L_law_693 : decode b_L_law 693 = .ok (.iaload, 1) := by decide +kernel
theorem d_L_law_694 : decode b_L_law 694 = .ok (.invokevirtual 82, 3) := by decide +kernel
theorem d_L_law_697 : decode b_L_law 697 = .ok (.pop, 1) := by decide +kernel
theorem d_L_law_698 : decode b_L_law 698 = .ok (.aload_n 2, 1) := by decide +kernel
theorem d_L_law_699 : decode b_L_law 699 = .ok (.aload_n 0, 1) := by decide +kernel
theorem d_L_law_700 : decode b_L_law 700 = .ok (.iload_n 3, 1) := by decide +kernel
theorem d_L_law_701 : decode b_L_law 701 = .ok (.iconst 1, 1) := by decide +kernel
theorem d_L_law_702 : decode b_L_law 702 = .ok (.iadd, 1) := by decide +kernel
theorem d_L_law_703 : decode b_L_law 703 = .ok (.iaload, 1) := by decide +kernel
theorem d_L_law_704 : decode b_L_law 704 = .ok (.aload_n 0, 1) := by decide +kernel
theorem d_L_law_705 : decode b_L_law 705 = .ok (.iload_n 3, 1) := by decide +kernel
theorem d_L_law_706 : decode b_L_law 706 = .ok (.iconst 2, 1) := by decide +kernel
theorem d_L_law_707 : decode b_L_law 707 = .ok (.iadd, 1) := by decide +kernel
theorem d_L_law_708 : decode b_L_law 708 = .ok (.iaload, 1) := by decide +kernel
theorem d_L_law_709 : decode b_L_law 709 = .ok (.aload_n 0, 1) := by decide +kernel
theorem d_L_law_710 : decode b_L_law 710 = .ok (.iload_n 3, 1) := by decide +kernel
theorem d_L_law_711 : decode b_L_law 711 = .ok (.iconst 3, 1) := by decide +kernel
theorem d_L_law_712 : decode b_L_law 712 = .ok (.iadd, 1) := by decide +kernel
theorem d_L_law_713 : decode b_L_law 713 = .ok (.iaload, 1) := by decide +kernel
theorem d_L_law_714 : decode b_L_law 714 = .ok (.invokevirtual 85, 3) := by decide +kernel
theorem d_L_law_717 : decode b_L_law 717 = .ok (.pop, 1) := by decide +kernel
theorem d_L_law_718 : decode b_L_law 718 = .ok (.goto 555, 3) := by decide +kernel
theorem d_L_law_721 : decode b_L_law 721 = .ok (.aload_n 1, 1) := by decide +kernel
theorem d_L_law_722 : decode b_L_law 722 = .ok (.aload_n 0, 1) := by decide +kernel
theorem d_L_law_723 : decode b_L_law 723 = .ok (.iload_n 3, 1) := by decide +kernel
theorem d_L_law_724 : decode b_L_law 724 = .ok (.iconst 1, 1) := by decide +kernel
theorem d_L_law_725 : decode b_L_law 725 = .ok (.iadd, 1) := by decide +kernel
theorem d_L_law_726 : decode b_L_law 726 = .ok (.iaload, 1) := by decide +kernel
theorem d_L_law_727 : decode b_L_law 727 = .ok (.aload_n 0, 1) := by decide +kernel
theorem d_L_law_728 : decode b_L_law 728 = .ok (.iload_n 3, 1) := by decide +kernel
theorem d_L_law_729 : decode b_L_law 729 = .ok (.iconst 2, 1) := by decide +kernel
theorem d_L_law_730 : decode b_L_law 730 = .ok (.iadd, 1) := by decide +kernel
theorem d_L_law_731 : decode b_L_law 731 = .ok (.iaload, 1) := by decide +kernel
theorem d_L_law_732 : decode b_L_law 732 = .ok (.invokevirtual 86, 3) := by decide +kernel
theorem d_L_law_735 : decode b_L_law 735 = .ok (.pop2, 1) := by decide +kernel
theorem d_L_law_736 : decode b_L_law 736 = .ok (.aload_n 2, 1) := by decide +kernel
theorem d_L_law_737 : decode b_L_law 737 = .ok (.aload_n 0, 1) := by decide +kernel
theorem d_L_law_738 : decode b_L_law 738 = .ok (.iload_n 3, 1) := by decide +kernel
theorem d_L_law_739 : decode b_L_law 739 = .ok (.iconst 1, 1) := by decide +kernel
theorem d_L_law_740 : decode b_L_law 740 = .ok (.iadd, 1) := by decide +kernel
theorem d_L_law_741 : decode b_L_law 741 = .ok (.iaload, 1) := by decide +kernel
theorem d_L_law_742 : decode b_L_law 742 = .ok (.aload_n 0, 1) := by decide +kernel
theorem d_L_law_743 : decode b_L_law 743 = .ok (.iload_n 3, 1) := by decide +kernel
theorem d_L_law_744 : decode b_L_law 744 = .ok (.iconst 2, 1) := by decide +kernel
theorem d_L_law_745 : decode b_L_law 745 = .ok (.iadd, 1) := by decide +kernel
theorem d_L_law_746 : decode b_L_law 746 = .ok (.iaload, 1) := by decide +kernel
theorem d_L_law_747 : decode b_L_law 747 = .ok (.invokevirtual 90, 3) := by decide +kernel
theorem d_L_law_750 : decode b_L_law 750 = .ok (.pop2, 1) := by decide +kernel
theorem d_L_law_751 : decode b_L_law 751 = .ok (.goto 522, 3) := by decide +kernel
theorem d_L_law_754 : decode b_L_law 754 = .ok (.aload_n 1, 1) := by decide +kernel
theorem d_L_law_755 : decode b_L_law 755 = .ok (.aload_n 0, 1) := by decide +kernel
theorem d_L_law_756 : decode b_L_law 756 = .ok (.iload_n 3, 1) := by decide +kernel
theorem d_L_law_757 : decode b_L_law 757 = .ok (.iconst 1, 1) := by decide +kernel
theorem d_L_law_758 : decode b_L_law 758 = .ok (.iadd, 1) := by decide +kernel
theorem d_L_law_759 : decode b_L_law 759 = .ok (.iaload, 1) := by decide +kernel
theorem d_L_law_760 : decode b_L_law 760 = .ok (.invokevirtual 91, 3) := by decide +kernel
theorem d_L_law_763 : decode b_L_law 763 = .ok (.aload_n 2, 1) := by decide +kernel
theorem d_L_law_764 : decode b_L_law 764 = .ok (.aload_n 0, 1) := by decide +kernel
theorem d_L_law_765 : decode b_L_law 765 = .ok (.iload_n 3, 1) := by decide +kernel
theorem d_L_law_766 : decode b_L_law 766 = .ok (.iconst 1, 1) := by decide +kernel
theorem d_L_law_767 : decode b_L_law 767 = .ok (.iadd, 1) := by decide +kernel
theorem d_L_law_768 : decode b_L_law 768 = .ok (.iaload, 1) := by decide +kernel
theorem d_L_law_769 : decode b_L_law 769 = .ok (.invokevirtual 95, 3) := by decide +kernel
theorem d_L_law_772 : decode b_L_law 772 = .ok (.lcmp, 1) := by decide +kernel
theorem d_L_law_773 : decode b_L_law 773 = .ok (.ifCond .eq 500, 3) := by decide +kernel
theorem d_L_law_776 : decode b_L_law 776 = .ok (.iconst 0, 1) := by decide +kernel
theorem d_L_law_777 : decode b_L_law 777 = .ok (.ireturn, 1) := by decide +kernel
theorem d_L_law_778 : decode b_L_law 778 = .ok (.aload_n 1, 1) := by decide +kernel
theorem d_L_law_779 : decode b_L_law 779 = .ok (.aload_n 0, 1) := by decide +kernel
theorem d_L_law_780 : decode b_L_law 780 = .ok (.iload_n 3, 1) := by decide +kernel
theorem d_L_law_781 : decode b_L_law 781 = .ok (.iconst 1, 1) := by decide +kernel
theorem d_L_law_782 : decode b_L_law 782 = .ok (.iadd, 1) := by decide +kernel
theorem d_L_law_783 : decode b_L_law 783 = .ok (.iaload, 1) := by decide +kernel
theorem d_L_law_784 : decode b_L_law 784 = .ok (.aload_n 0, 1) := by decide +kernel
theorem d_L_law_785 : decode b_L_law 785 = .ok (.iload_n 3, 1) := by decide +kernel
theorem d_L_law_786 : decode b_L_law 786 = .ok (.iconst 2, 1) := by decide +kernel
theorem d_L_law_787 : decode b_L_law 787 = .ok (.iadd, 1) := by decide +kernel
theorem d_L_law_788 : decode b_L_law 788 = .ok (.iaload, 1) := by decide +kernel
theorem d_L_law_789 : decode b_L_law 789 = .ok (.invokevirtual 96, 3) := by decide +kernel
theorem d_L_law_792 : decode b_L_law 792 = .ok (.pop, 1) := by decide +kernel
theorem d_L_law_793 : decode b_L_law 793 = .ok (.aload_n 2, 1) := by decide +kernel
theorem d_L_law_794 : decode b_L_law 794 = .ok (.aload_n 0, 1) := by decide +kernel
theorem d_L_law_795 : decode b_L_law 795 = .ok (.iload_n 3, 1) := by decide +kernel
theorem d_L_law_796 : decode b_L_law 796 = .ok (.iconst 1, 1) := by decide +kernel
theorem d_L_law_797 : decode b_L_law 797 = .ok (.iadd, 1) := by decide +kernel
theorem d_L_law_798 : decode b_L_law 798 = .ok (.iaload, 1) := by decide +kernel
theorem d_L_law_799 : decode b_L_law 799 = .ok (.aload_n 0, 1) := by decide +kernel
theorem d_L_law_800 : decode b_L_law 800 = .ok (.iload_n 3, 1) := by decide +kernel
theorem d_L_law_801 : decode b_L_law 801 = .ok (.iconst 2, 1) := by decide +kernel
theorem d_L_law_802 : decode b_L_law 802 = .ok (.iadd, 1) := by decide +kernel
theorem d_L_law_803 : decode b_L_law 803 = .ok (.iaload, 1) := by decide +kernel
theorem d_L_law_804 : decode b_L_law 804 = .ok (.invokevirtual 99, 3) := by decide +kernel
theorem d_L_law_807 : decode b_L_law 807 = .ok (.pop, 1) := by decide +kernel
theorem d_L_law_808 : decode b_L_law 808 = .ok (.goto 465, 3) := by decide +kernel
theorem d_L_law_811 : decode b_L_law 811 = .ok (.aload_n 1, 1) := by decide +kernel
theorem d_L_law_812 : decode b_L_law 812 = .ok (.aload_n 0, 1) := by decide +kernel
theorem d_L_law_813 : decode b_L_law 813 = .ok (.iload_n 3, 1) := by decide +kernel
theorem d_L_law_814 : decode b_L_law 814 = .ok (.iconst 1, 1) := by decide +kernel
theorem d_L_law_815 : decode b_L_law 815 = .ok (.iadd, 1) := by decide +kernel
theorem d_L_law_816 : decode b_L_law 816 = .ok (.iaload, 1) := by decide +kernel
theorem d_L_law_817 : decode b_L_law 817 = .ok (.invokevirtual 100, 3) := by decide +kernel
theorem d_L_law_820 : decode b_L_law 820 = .ok (.pop, 1) := by decide +kernel
theorem d_L_law_821 : decode b_L_law 821 = .ok (.aload_n 2, 1) := by decide +kernel
theorem d_L_law_822 : decode b_L_law 822 = .ok (.aload_n 0, 1) := by decide +kernel
theorem d_L_law_823 : decode b_L_law 823 = .ok (.iload_n 3, 1) := by decide +kernel
theorem d_L_law_824 : decode b_L_law 824 = .ok (.iconst 1, 1) := by decide +kernel
theorem d_L_law_825 : decode b_L_law 825 = .ok (.iadd, 1) := by decide +kernel
theorem d_L_law_826 : decode b_L_law 826 = .ok (.iaload, 1) := by decide +kernel
theorem d_L_law_827 : decode b_L_law 827 = .ok (.invokevirtual 103, 3) := by decide +kernel
theorem d_L_law_830 : decode b_L_law 830 = .ok (.pop, 1) := by decide +kernel
theorem d_L_law_831 : decode b_L_law 831 = .ok (.goto 442, 3) := by decide +kernel
theorem d_L_law_834 : decode b_L_law 834 = .ok (.aload_n 1, 1) := by decide +kernel
theorem d_L_law_835 : decode b_L_law 835 = .ok (.aload_n 0, 1) := by decide +kernel
theorem d_L_law_836 : decode b_L_law 836 = .ok (.iload_n 3, 1) := by decide +kernel
theorem d_L_law_837 : decode b_L_law 837 = .ok (.iconst 1, 1) := by decide +kernel
theorem d_L_law_838 : decode b_L_law 838 = .ok (.iadd, 1) := by decide +kernel
theorem d_L_law_839 : decode b_L_law 839 = .ok (.iaload, 1) := by decide +kernel
theorem d_L_law_840 : decode b_L_law 840 = .ok (.aload_n 0, 1) := by decide +kernel
theorem d_L_law_841 : decode b_L_law 841 = .ok (.iload_n 3, 1) := by decide +kernel
theorem d_L_law_842 : decode b_L_law 842 = .ok (.iconst 2, 1) := by decide +kernel
theorem d_L_law_843 : decode b_L_law 843 = .ok (.iadd, 1) := by decide +kernel
theorem d_L_law_844 : decode b_L_law 844 = .ok (.iaload, 1) := by decide +kernel
theorem d_L_law_845 : decode b_L_law 845 = .ok (.invokevirtual 104, 3) := by decide +kernel
theorem d_L_law_848 : decode b_L_law 848 = .ok (.pop, 1) := by decide +kernel
theorem d_L_law_849 : decode b_L_law 849 = .ok (.aload_n 2, 1) := by decide +kernel
theorem d_L_law_850 : decode b_L_law 850 = .ok (.aload_n 0, 1) := by decide +kernel
theorem d_L_law_851 : decode b_L_law 851 = .ok (.iload_n 3, 1) := by decide +kernel
theorem d_L_law_852 : decode b_L_law 852 = .ok (.iconst 1, 1) := by decide +kernel
theorem d_L_law_853 : decode b_L_law 853 = .ok (.iadd, 1) := by decide +kernel
theorem d_L_law_854 : decode b_L_law 854 = .ok (.iaload, 1) := by decide +kernel
theorem d_L_law_855 : decode b_L_law 855 = .ok (.aload_n 0, 1) := by decide +kernel
theorem d_L_law_856 : decode b_L_law 856 = .ok (.iload_n 3, 1) := by decide +kernel
theorem d_L_law_857 : decode b_L_law 857 = .ok (.iconst 2, 1) := by decide +kernel
theorem d_L_law_858 : decode b_L_law 858 = .ok (.iadd, 1) := by decide +kernel
theorem d_L_law_859 : decode b_L_law 859 = .ok (.iaload, 1) := by decide +kernel
theorem d_L_law_860 : decode b_L_law 860 = .ok (.invokevirtual 107, 3) := by decide +kernel
theorem d_L_law_863 : decode b_L_law 863 = .ok (.pop, 1) := by decide +kernel
theorem d_L_law_864 : decode b_L_law 864 = .ok (.goto 409, 3) := by decide +kernel
theorem d_L_law_867 : decode b_L_law 867 = .ok (.aload_n 1, 1) := by decide +kernel
theorem d_L_law_868 : decode b_L_law 868 = .ok (.invokevirtual 108, 3) := by decide +kernel
theorem d_L_law_871 : decode b_L_law 871 = .ok (.pop, 1) := by decide +kernel
theorem d_L_law_872 : decode b_L_law 872 = .ok (.aload_n 2, 1) := by decide +kernel
theorem d_L_law_873 : decode b_L_law 873 = .ok (.invokevirtual 111, 3) := by decide +kernel
theorem d_L_law_876 : decode b_L_law 876 = .ok (.pop, 1) := by decide +kernel
theorem d_L_law_877 : decode b_L_law 877 = .ok (.goto 396, 3) := by decide +kernel
theorem d_L_law_880 : decode b_L_law 880 = .ok (.aload_n 1, 1) := by decide +kernel
theorem d_L_law_881 : decode b_L_law 881 = .ok (.aload_n 0, 1) := by decide +kernel
theorem d_L_law_882 : decode b_L_law 882 = .ok (.iload_n 3, 1) := by decide +kernel
theorem d_L_law_883 : decode b_L_law 883 = .ok (.iconst 1, 1) := by decide +kernel
theorem d_L_law_884 : decode b_L_law 884 = .ok (.iadd, 1) := by decide +kernel
theorem d_L_law_885 : decode b_L_law 885 = .ok (.iaload, 1) := by decide +kernel
theorem d_L_law_886 : decode b_L_law 886 = .ok (.aload_n 0, 1) := by decide +kernel
theorem d_L_law_887 : decode b_L_law 887 = .ok (.iload_n 3, 1) := by decide +kernel
theorem d_L_law_888 : decode b_L_law 888 = .ok (.iconst 2, 1) := by decide +kernel
theorem d_L_law_889 : decode b_L_law 889 = .ok (.iadd, 1) := by decide +kernel
theorem d_L_law_890 : decode b_L_law 890 = .ok (.iaload, 1) := by decide +kernel
theorem d_L_law_891 : decode b_L_law 891 = .ok (.invokevirtual 112, 3) := by decide +kernel
theorem d_L_law_894 : decode b_L_law 894 = .ok (.pop, 1) := by decide +kernel
theorem d_L_law_895 : decode b_L_law 895 = .ok (.aload_n 2, 1) := by decide +kernel
theorem d_L_law_896 : decode b_L_law 896 = .ok (.aload_n 0, 1) := by decide +kernel
theorem d_L_law_897 : decode b_L_law 897 = .ok (.iload_n 3, 1) := by decide +kernel
theorem d_L_law_898 : decode b_L_law 898 = .ok (.iconst 1, 1) := by decide +kernel
theorem d_L_law_899 : decode b_L_law 899 = .ok (.iadd, 1) := by decide +kernel
theorem d_L_law_900 : decode b_L_law 900 = .ok (.iaload, 1) := by decide +kernel
theorem d_L_law_901 : decode b_L_law 901 = .ok (.aload_n 0, 1) := by decide +kernel
theorem d_L_law_902 : decode b_L_law 902 = .ok (.iload_n 3, 1) := by decide +kernel
theorem d_L_law_903 : decode b_L_law 903 = .ok (.iconst 2, 1) := by decide +kernel
theorem d_L_law_904 : decode b_L_law 904 = .ok (.iadd, 1) := by decide +kernel
theorem d_L_law_905 : decode b_L_law 905 = .ok (.iaload, 1) := by decide +kernel
theorem d_L_law_906 : decode b_L_law 906 = .ok (.invokevirtual 115, 3) := by decide +kernel
theorem d_L_law_909 : decode b_L_law 909 = .ok (.pop, 1) := by decide +kernel
theorem d_L_law_910 : decode b_L_law 910 = .ok (.goto 363, 3) := by decide +kernel
theorem d_L_law_913 : decode b_L_law 913 = .ok (.aload_n 1, 1) := by decide +kernel
theorem d_L_law_914 : decode b_L_law 914 = .ok (.invokevirtual 116, 3) := by decide +kernel
theorem d_L_law_917 : decode b_L_law 917 = .ok (.pop, 1) := by decide +kernel
theorem d_L_law_918 : decode b_L_law 918 = .ok (.aload_n 2, 1) := by decide +kernel
theorem d_L_law_919 : decode b_L_law 919 = .ok (.invokevirtual 119, 3) := by decide +kernel
theorem d_L_law_922 : decode b_L_law 922 = .ok (.pop, 1) := by decide +kernel
theorem d_L_law_923 : decode b_L_law 923 = .ok (.goto 350, 3) := by decide +kernel
theorem d_L_law_926 : decode b_L_law 926 = .ok (.aload_n 1, 1) := by decide +kernel
theorem d_L_law_927 : decode b_L_law 927 = .ok (.invokevirtual 120, 3) := by decide +kernel
theorem d_L_law_930 : decode b_L_law 930 = .ok (.pop, 1) := by decide +kernel
theorem d_L_law_931 : decode b_L_law 931 = .ok (.aload_n 2, 1) := by decide +kernel
theorem d_L_law_932 : decode b_L_law 932 = .ok (.invokevirtual 123, 3) := by decide +kernel
theorem d_L_law_935 : decode b_L_law 935 = .ok (.pop, 1) := by decide +kernel
theorem d_L_law_936 : decode b_L_law 936 = .ok (.goto 337, 3) := by decide +kernel
theorem d_L_law_939 : decode b_L_law 939 = .ok (.aload_n 1, 1) := by decide +kernel
theorem d_L_law_940 : decode b_L_law 940 = .ok (.aload_n 0, 1) := by decide +kernel
theorem d_L_law_941 : decode b_L_law 941 = .ok (.iload_n 3, 1) := by decide +kernel
theorem d_L_law_942 : decode b_L_law 942 = .ok (.iconst 1, 1) := by decide +kernel
theorem d_L_law_943 : decode b_L_law 943 = .ok (.iadd, 1) := by decide +kernel
theorem d_L_law_944 : decode b_L_law 944 = .ok (.iaload, 1) := by decide +kernel
theorem d_L_law_945 : decode b_L_law 945 = .ok (.aload_n 0, 1) := by decide +kernel
theorem d_L_law_946 : decode b_L_law 946 = .ok (.iload_n 3, 1) := by decide +kernel
theorem d_L_law_947 : decode b_L_law 947 = .ok (.iconst 2, 1) := by decide +kernel
theorem d_L_law_948 : decode b_L_law 948 = .ok (.iadd, 1) := by decide +kernel
theorem d_L_law_949 : decode b_L_law 949 = .ok (.iaload, 1) := by decide +kernel
theorem d_L_law_950 : decode b_L_law 950 = .ok (.aload_n 0, 1) := by decide +kernel
theorem d_L_law_951 : decode b_L_law 951 = .ok (.iload_n 3, 1) := by decide +kernel
theorem d_L_law_952 : decode b_L_law 952 = .ok (.iconst 3, 1) := by decide +kernel
theorem d_L_law_953 : decode b_L_law 953 = .ok (.iadd, 1) := by decide +kernel
theorem d_L_law_954 : decode b_L_law 954 = .ok (.iaload, 1) := by decide +kernel
theorem d_L_law_955 : decode b_L_law 955 = .ok (.invokevirtual 124, 3) := by decide +kernel
theorem d_L_law_958 : decode b_L_law 958 = .ok (.pop, 1) := by decide +kernel
theorem d_L_law_959 : decode b_L_law 959 = .ok (.aload_n 2, 1) := by decide +kernel
theorem d_L_law_960 : decode b_L_law 960 = .ok (.aload_n 0, 1) := by decide +kernel
theorem d_L_law_961 : decode b_L_law 961 = .ok (.iload_n 3, 1) := by decide +kernel
theorem d_L_law_962 : decode b_L_law 962 = .ok (.iconst 1, 1) := by decide +kernel
theorem d_L_law_963 : decode b_L_law 963 = .ok (.iadd, 1) := by decide +kernel
theorem d_L_law_964 : decode b_L_law 964 = .ok (.iaload, 1) := by decide +kernel
theorem d_L_law_965 : decode b_L_law 965 = .ok (.aload_n 0, 1) := by decide +kernel
theorem d_L_law_966 : decode b_L_law 966 = .ok (.iload_n 3, 1) := by decide +kernel
theorem d_L_law_967 : decode b_L_law 967 = .ok (.iconst 2, 1) := by decide +kernel
theorem d_L_law_968 : decode b_L_law 968 = .ok (.iadd, 1) := by decide +kernel
theorem d_L_law_969 : decode b_L_law 969 = .ok (.iaload, 1) := by decide +kernel
theorem d_L_law_970 : decode b_L_law 970 = .ok (.aload_n 0, 1) := by decide +kernel
theorem d_L_law_971 : decode b_L_law 971 = .ok (.iload_n 3, 1) := by decide +kernel
theorem d_L_law_972 : decode b_L_law 972 = .ok (.iconst 3, 1) := by decide +kernel
theorem d_L_law_973 : decode b_L_law 973 = .ok (.iadd, 1) := by decide +kernel
theorem d_L_law_974 : decode b_L_law 974 = .ok (.iaload, 1) := by decide +kernel
theorem d_L_law_975 : decode b_L_law 975 = .ok (.invokevirtual 127, 3) := by decide +kernel
theorem d_L_law_978 : decode b_L_law 978 = .ok (.pop, 1) := by decide +kernel
theorem d_L_law_979 : decode b_L_law 979 = .ok (.goto 294, 3) := by decide +kernel
theorem d_L_law_982 : decode b_L_law 982 = .ok (.aload_n 1, 1) := by decide +kernel
theorem d_L_law_983 : decode b_L_law 983 = .ok (.aload_n 0, 1) := by decide +kernel
theorem d_L_law_984 : decode b_L_law 984 = .ok (.iload_n 3, 1) := by decide +kernel
theorem d_L_law_985 : decode b_L_law 985 = .ok (.iconst 1, 1) := by decide +kernel
theorem d_L_law_986 : decode b_L_law 986 = .ok (.iadd, 1) := by decide +kernel
theorem d_L_law_987 : decode b_L_law 987 = .ok (.iaload, 1) := by decide +kernel
theorem d_L_law_988 : decode b_L_law 988 = .ok (.invokevirtual 128, 3) := by decide +kernel
theorem d_L_law_991 : decode b_L_law 991 = .ok (.pop, 1) := by decide +kernel
theorem d_L_law_992 : decode b_L_law 992 = .ok (.aload_n 2, 1) := by decide +kernel
theorem d_L_law_993 : decode b_L_law 993 = .ok (.aload_n 0, 1) := by decide +kernel
theorem d_L_law_994 : decode b_L_law 994 = .ok (.iload_n 3, 1) := by decide +kernel
theorem d_L_law_995 : decode b_L_law 995 = .ok (.iconst 1, 1) := by decide +kernel
theorem d_L_law_996 : decode b_L_law 996 = .ok (.iadd, 1) := by decide +kernel
theorem d_L_law_997 : decode b_L_law 997 = .ok (.iaload, 1) := by decide +kernel
theorem d_L_law_998 : decode b_L_law 998 = .ok (.invokevirtual 131, 3) := by decide +kernel
theorem d_L_law_1001 : decode b_L_law 1001 = .ok (.pop, 1) := by decide +kernel
theorem d_L_law_1002 : decode b_L_law 1002 = .ok (.goto 271, 3) := by decide +kernel
theorem d_L_law_1005 : decode b_L_law 1005 = .ok (.aload_n 1, 1) := by decide +kernel
theorem d_L_law_1006 : decode b_L_law 1006 = .ok (.aload_n 0, 1) := by decide +kernel
theorem d_L_law_1007 : decode b_L_law 1007 = .ok (.iload_n 3, 1) := by decide +kernel
theorem d_L_law_1008 : decode b_L_law 1008 = .ok (.iconst 1, 1) := by decide +kernel
theorem d_L_law_1009 : decode b_L_law 1009 = .ok (.iadd, 1) := by decide +kernel
theorem d_L_law_1010 : decode b_L_law 1010 = .ok (.iaload, 1) := by decide +kernel
theorem d_L_law_1011 : decode b_L_law 1011 = .ok (.aload_n 0, 1) := by decide +kernel
theorem d_L_law_1012 : decode b_L_law 1012 = .ok (.iload_n 3, 1) := by decide +kernel
theorem d_L_law_1013 : decode b_L_law 1013 = .ok (.iconst 2, 1) := by decide +kernel
theorem d_L_law_1014 : decode b_L_law 1014 = .ok (.iadd, 1) := by decide +kernel
theorem d_L_law_1015 : decode b_L_law 1015 = .ok (.iaload, 1) := by decide +kernel
theorem d_L_law_1016 : decode b_L_law 1016 = .ok (.invokevirtual 132, 3) := by decide +kernel
theorem d_L_law_1019 : decode b_L_law 1019 = .ok (.pop, 1) := by decide +kernel
theorem d_L_law_1020 : decode b_L_law 1020 = .ok (.aload_n 2, 1) := by decide +kernel
theorem d_L_law_1021 : decode b_L_law 1021 = .ok (.aload_n 0, 1) := by decide +kernel
theorem d_L_law_1022 : decode b_L_law 1022 = .ok (.iload_n 3, 1) := by decide +kernel
theorem d_L_law_1023 : decode b_L_law 1023 = .ok (.iconst 1, 1) := by decide +kernel
theorem d_L_law_1024 : decode b_L_law 1024 = .ok (.iadd, 1) := by decide +kernel
theorem d_L_law_1025 : decode b_L_law 1025 = .ok (.iaload, 1) := by decide +kernel
theorem d_L_law_1026 : decode b_L_law 1026 = .ok (.aload_n 0, 1) := by decide +kernel
theorem d_L_law_1027 : decode b_L_law 1027 = .ok (.iload_n 3, 1) := by decide +kernel
theorem d_L_law_1028 : decode b_L_law 1028 = .ok (.iconst 2, 1) := by decide +kernel
theorem d_L_law_1029 : decode b_L_law 1029 = .ok (.iadd, 1) := by decide +kernel
theorem d_L_law_1030 : decode b_L_law 1030 = .ok (.iaload, 1) := by decide +kernel
theorem d_L_law_1031 : decode b_L_law 1031 = .ok (.invokevirtual 135, 3) := by decide +kernel
theorem d_L_law_1034 : decode b_L_law 1034 = .ok (.pop, 1) := by decide +kernel
theorem d_L_law_1035 : decode b_L_law 1035 = .ok (.goto 238, 3) := by decide +kernel
theorem d_L_law_1038 : decode b_L_law 1038 = .ok (.aload_n 1, 1) := by decide +kernel
theorem d_L_law_1039 : decode b_L_law 1039 = .ok (.aload_n 0, 1) := by decide +kernel
theorem d_L_law_1040 : decode b_L_law 1040 = .ok (.iload_n 3, 1) := by decide +kernel
theorem d_L_law_1041 : decode b_L_law 1041 = .ok (.iconst 1, 1) := by decide +kernel
theorem d_L_law_1042 : decode b_L_law 1042 = .ok (.iadd, 1) := by decide +kernel
theorem d_L_law_1043 : decode b_L_law 1043 = .ok (.iaload, 1) := by decide +kernel
theorem d_L_law_1044 : decode b_L_law 1044 = .ok (.invokevirtual 136, 3) := by decide +kernel
theorem d_L_law_1047 : decode b_L_law 1047 = .ok (.pop, 1) := by decide +kernel
theorem d_L_law_1048 : decode b_L_law 1048 = .ok (.aload_n 2, 1) := by decide +kernel
theorem d_L_law_1049 : decode b_L_law 1049 = .ok (.aload_n 0, 1) := by decide +kernel
theorem d_L_law_1050 : decode b_L_law 1050 = .ok (.iload_n 3, 1) := by decide +kernel
theorem d_L_law_1051 : decode b_L_law 1051 = .ok (.iconst 1, 1) := by decide +kernel
theorem d_L_law_1052 : decode b_L_law 1052 = .ok (.iadd, 1) := by decide +kernel
theorem d_L_law_1053 : decode b_L_law 1053 = .ok (.iaload, 1) := by decide +kernel
theorem d_L_law_1054 : decode b_L_law 1054 = .ok (.invokevirtual 139, 3) := by decide +kernel
theorem d_L_law_1057 : decode b_L_law 1057 = .ok (.pop, 1) := by decide +kernel
theorem d_L_law_1058 : decode b_L_law 1058 = .ok (.goto 215, 3) := by decide +kernel
theorem d_L_law_1061 : decode b_L_law 1061 = .ok (.aload_n 1, 1) := by decide +kernel
theorem d_L_law_1062 : decode b_L_law 1062 = .ok (.aload_n 0, 1) := by decide +kernel
theorem d_L_law_1063 : decode b_L_law 1063 = .ok (.iload_n 3, 1) := by decide +kernel
theorem d_L_law_1064 : decode b_L_law 1064 = .ok (.iconst 1, 1) := by decide +kernel
theorem d_L_law_1065 : decode b_L_law 1065 = .ok (.iadd, 1) := by decide +kernel
theorem d_L_law_1066 : decode b_L_law 1066 = .ok (.iaload, 1) := by decide +kernel
theorem d_L_law_1067 : decode b_L_law 1067 = .ok (.aload_n 0, 1) := by decide +kernel
theorem d_L_law_1068 : decode b_L_law 1068 = .ok (.iload_n 3, 1) := by decide +kernel
theorem d_L_law_1069 : decode b_L_law 1069 = .ok (.iconst 2, 1) := by decide +kernel
theorem d_L_law_1070 : decode b_L_law 1070 = .ok (.iadd, 1) := by decide +kernel
theorem d_L_law_1071 : decode b_L_law 1071 = .ok (.iaload, 1) := by decide +kernel
theorem d_L_law_1072 : decode b_L_law 1072 = .ok (.aload_n 0, 1) := by decide +kernel
theorem d_L_law_1073 : decode b_L_law 1073 = .ok (.iload_n 3, 1) := by decide +kernel
theorem d_L_law_1074 : decode b_L_law 1074 = .ok (.iconst 3, 1) := by decide +kernel
theorem d_L_law_1075 : decode b_L_law 1075 = .ok (.iadd, 1) := by decide +kernel
theorem d_L_law_1076 : decode b_L_law 1076 = .ok (.iaload, 1) := by decide +kernel
theorem d_L_law_1077 : decode b_L_law 1077 = .ok (.invokevirtual 140, 3) := by decide +kernel
theorem d_L_law_1080 : decode b_L_law 1080 = .ok (.pop, 1) := by decide +kernel
theorem d_L_law_1081 : decode b_L_law 1081 = .ok (.aload_n 2, 1) := by decide +kernel
theorem d_L_law_1082 : decode b_L_law 1082 = .ok (.aload_n 0, 1) := by decide +kernel
theorem d_L_law_1083 : decode b_L_law 1083 = .ok (.iload_n 3, 1) := by decide +kernel
theorem d_L_law_1084 : decode b_L_law 1084 = .ok (.iconst 1, 1) := by decide +kernel
theorem d_L_law_1085 : decode b_L_law 1085 = .ok (.iadd, 1) := by decide +kernel
theorem d_L_law_1086 : decode b_L_law 1086 = .ok (.iaload, 1) := by decide +kernel
theorem d_L_law_1087 : decode b_L_law 1087 = .ok (.aload_n 0, 1) := by decide +kernel
theorem d_L_law_1088 : decode b_L_law 1088 = .ok (.iload_n 3, 1) := by decide +kernel
theorem d_L_law_1089 : decode b_L_law 1089 = .ok (.iconst 2, 1) := by decide +kernel
theorem d_L_law_1090 : decode b_L_law 1090 = .ok (.iadd, 1) := by decide +kernel
theorem d_L_law_1091 : decode b_L_law 1091 = .ok (.iaload, 1) := by decide +kernel
theorem d_L_law_1092 : decode b_L_law 1092 = .ok (.aload_n 0, 1) := by decide +kernel
theorem d_L_law_1093 : decode b_L_law 1093 = .ok (.iload_n 3, 1) := by decide +kernel
theorem d_L_law_1094 : decode b_L_law 1094 = .ok (.iconst 3, 1) := by decide +kernel
theorem d_L_law_1095 : decode b_L_law 1095 = .ok (.iadd, 1) := by decide +kernel
theorem d_L_law_1096 : decode b_L_law 1096 = .ok (.iaload, 1) := by decide +kernel
theorem d_L_law_1097 : decode b_L_law 1097 = .ok (.invokevirtual 143, 3) := by decide +kernel
theorem d_L_law_1100 : decode b_L_law 1100 = .ok (.pop, 1) := by decide +kernel
theorem d_L_law_1101 : decode b_L_law 1101 = .ok (.goto 172, 3) := by decide +kernel
theorem d_L_law_1104 : decode b_L_law 1104 = .ok (.aload_n 1, 1) := by decide +kernel
theorem d_L_law_1105 : decode b_L_law 1105 = .ok (.aload_n 0, 1) := by decide +kernel
theorem d_L_law_1106 : decode b_L_law 1106 = .ok (.iload_n 3, 1) := by decide +kernel
theorem d_L_law_1107 : decode b_L_law 1107 = .ok (.iconst 1, 1) := by decide +kernel
theorem d_L_law_1108 : decode b_L_law 1108 = .ok (.iadd, 1) := by decide +kernel
theorem d_L_law_1109 : decode b_L_law 1109 = .ok (.iaload, 1) := by decide +kernel
theorem d_L_law_1110 : decode b_L_law 1110 = .ok (.aload_n 0, 1) := by decide +kernel
theorem d_L_law_1111 : decode b_L_law 1111 = .ok (.iload_n 3, 1) := by decide +kernel
theorem d_L_law_1112 : decode b_L_law 1112 = .ok (.iconst 2, 1) := by decide +kernel
theorem d_L_law_1113 : decode b_L_law 1113 = .ok (.iadd, 1) := by decide +kernel
theorem d_L_law_1114 : decode b_L_law 1114 = .ok (.iaload, 1) := by decide +kernel
theorem d_L_law_1115 : decode b_L_law 1115 = .ok (.aload_n 0, 1) := by decide +kernel
theorem d_L_law_1116 : decode b_L_law 1116 = .ok (.iload_n 3, 1) := by decide +kernel
theorem d_L_law_1117 : decode b_L_law 1117 = .ok (.iconst 3, 1) := by decide +kernel
theorem d_L_law_1118 : decode b_L_law 1118 = .ok (.iadd, 1) := by decide +kernel
theorem d_L_law_1119 : decode b_L_law 1119 = .ok (.iaload, 1) := by decide +kernel
theorem d_L_law_1120 : decode b_L_law 1120 = .ok (.i2l, 1) := by decide +kernel
theorem d_L_law_1121 : decode b_L_law 1121 = .ok (.bipush 32, 2) := by decide +kernel
theorem d_L_law_1123 : decode b_L_law 1123 = .ok (.lshl, 1) := by decide +kernel
theorem d_L_law_1124 : decode b_L_law 1124 = .ok (.aload_n 0, 1) := by decide +kernel
theorem d_L_law_1125 : decode b_L_law 1125 = .ok (.iload_n 3, 1) := by decide +kernel
theorem d_L_law_1126 : decode b_L_law 1126 = .ok (.iconst 4, 1) := by decide +kernel
theorem d_L_law_1127 : decode b_L_law 1127 = .ok (.iadd, 1) := by decide +kernel
theorem d_L_law_1128 : decode b_L_law 1128 = .ok (.iaload, 1) := by decide +kernel
theorem d_L_law_1129 : decode b_L_law 1129 = .ok (.i2l, 1) := by decide +kernel
theorem d_L_law_1130 : decode b_L_law 1130 = .ok (.ldc2_w 144, 3) := by decide +kernel
theorem d_L_law_1133 : decode b_L_law 1133 = .ok (.land, 1) := by decide +kernel
theorem d_L_law_1134 : decode b_L_law 1134 = .ok (.lor, 1) := by decide +kernel
theorem d_L_law_1135 : decode b_L_law 1135 = .ok (.invokevirtual 146, 3) := by decide +kernel
theorem d_L_law_1138 : decode b_L_law 1138 = .ok (.pop, 1) := by decide +kernel
theorem d_L_law_1139 : decode b_L_law 1139 = .ok (.aload_n 2, 1) := by decide +kernel
theorem d_L_law_1140 : decode b_L_law 1140 = .ok (.aload_n 0, 1) := by decide +kernel
theorem d_L_law_1141 : decode b_L_law 1141 = .ok (.iload_n 3, 1) := by decide +kernel
theorem d_L_law_1142 : decode b_L_law 1142 = .ok (.iconst 1, 1) := by decide +kernel
theorem d_L_law_1143 : decode b_L_law 1143 = .ok (.iadd, 1) := by decide +kernel
theorem d_L_law_1144 : decode b_L_law 1144 = .ok (.iaload, 1) := by decide +kernel
theorem d_L_law_1145 : decode b_L_law 1145 = .ok (.aload_n 0, 1) := by decide +kernel
theorem d_L_law_1146 : decode b_L_law 1146 = .ok (.iload_n 3, 1) := by decide +kernel
theorem d_L_law_1147 : decode b_L_law 1147 = .ok (.iconst 2, 1) := by decide +kernel
theorem d_L_law_1148 : decode b_L_law 1148 = .ok (.iadd, 1) := by decide +kernel
theorem d_L_law_1149 : decode b_L_law 1149 = .ok (.iaload, 1) := by decide +kernel
theorem d_L_law_1150 : decode b_L_law 1150 = .ok (.aload_n 0, 1) := by decide +kernel
theorem d_L_law_1151 : decode b_L_law 1151 = .ok (.iload_n 3, 1) := by decide +kernel
theorem d_L_law_1152 : decode b_L_law 1152 = .ok (.iconst 3, 1) := by decide +kernel
theorem d_L_law_1153 : decode b_L_law 1153 = .ok (.iadd, 1) := by decide +kernel
theorem d_L_law_1154 : decode b_L_law 1154 = .ok (.iaload, 1) := by decide +kernel
theorem d_L_law_1155 : decode b_L_law 1155 = .ok (.i2l, 1) := by decide +kernel
theorem d_L_law_1156 : decode b_L_law 1156 = .ok (.bipush 32, 2) := by decide +kernel
theorem d_L_law_1158 : decode b_L_law 1158 = .ok (.lshl, 1) := by decide +kernel
theorem d_L_law_1159 : decode b_L_law 1159 = .ok (.aload_n 0, 1) := by decide +kernel
theorem d_L_law_1160 : decode b_L_law 1160 = .ok (.iload_n 3, 1) := by decide +kernel
theorem d_L_law_1161 : decode b_L_law 1161 = .ok (.iconst 4, 1) := by decide +kernel
theorem d_L_law_1162 : decode b_L_law 1162 = .ok (.iadd, 1) := by decide +kernel
theorem d_L_law_1163 : decode b_L_law 1163 = .ok (.iaload, 1) := by decide +kernel
theorem d_L_law_1164 : decode b_L_law 1164 = .ok (.i2l, 1) := by decide +kernel
theorem d_L_law_1165 : decode b_L_law 1165 = .ok (.ldc2_w 144, 3) := by decide +kernel
theorem d_L_law_1168 : decode b_L_law 1168 = .ok (.land, 1) := by decide +kernel
theorem d_L_law_1169 : decode b_L_law 1169 = .ok (.lor, 1) := by decide +kernel
theorem d_L_law_1170 : decode b_L_law 1170 = .ok (.invokevirtual 150, 3) := by decide +kernel
theorem d_L_law_1173 : decode b_L_law 1173 = .ok (.pop, 1) := by decide +kernel
theorem d_L_law_1174 : decode b_L_law 1174 = .ok (.goto 99, 3) := by decide +kernel
theorem d_L_law_1177 : decode b_L_law 1177 = .ok (.aload_n 1, 1) := by decide +kernel
theorem d_L_law_1178 : decode b_L_law 1178 = .ok (.aload_n 0, 1) := by decide +kernel
theorem d_L_law_1179 : decode b_L_law 1179 = .ok (.iload_n 3, 1) := by decide +kernel
theorem d_L_law_1180 : decode b_L_law 1180 = .ok (.iconst 1, 1) := by decide +kernel
theorem d_L_law_1181 : decode b_L_law 1181 = .ok (.iadd, 1) := by decide +kernel
theorem d_L_law_1182 : decode b_L_law 1182 = .ok (.iaload, 1) := by decide +kernel
theorem d_L_law_1183 : decode b_L_law 1183 = .ok (.aload_n 0, 1) := by decide +kernel
theorem d_L_law_1184 : decode b_L_law 1184 = .ok (.iload_n 3, 1) := by decide +kernel
theorem d_L_law_1185 : decode b_L_law 1185 = .ok (.iconst 2, 1) := by decide +kernel
theorem d_L_law_1186 : decode b_L_law 1186 = .ok (.iadd, 1) := by decide +kernel
theorem d_L_law_1187 : decode b_L_law 1187 = .ok (.iaload, 1) := by decide +kernel
theorem d_L_law_1188 : decode b_L_law 1188 = .ok (.invokevirtual 151, 3) := by decide +kernel
theorem d_L_law_1191 : decode b_L_law 1191 = .ok (.pop2, 1) := by decide +kernel
theorem d_L_law_1192 : decode b_L_law 1192 = .ok (.aload_n 2, 1) := by decide +kernel
theorem d_L_law_1193 : decode b_L_law 1193 = .ok (.aload_n 0, 1) := by decide +kernel
theorem d_L_law_1194 : decode b_L_law 1194 = .ok (.iload_n 3, 1) := by decide +kernel
theorem d_L_law_1195 : decode b_L_law 1195 = .ok (.iconst 1, 1) := by decide +kernel
theorem d_L_law_1196 : decode b_L_law 1196 = .ok (.iadd, 1) := by decide +kernel
theorem d_L_law_1197 : decode b_L_law 1197 = .ok (.iaload, 1) := by decide +kernel
theorem d_L_law_1198 : decode b_L_law 1198 = .ok (.aload_n 0, 1) := by decide +kernel
theorem d_L_law_1199 : decode b_L_law 1199 = .ok (.iload_n 3, 1) := by decide +kernel
theorem d_L_law_1200 : decode b_L_law 1200 = .ok (.iconst 2, 1) := by decide +kernel
theorem d_L_law_1201 : decode b_L_law 1201 = .ok (.iadd, 1) := by decide +kernel
theorem d_L_law_1202 : decode b_L_law 1202 = .ok (.iaload, 1) := by decide +kernel
theorem d_L_law_1203 : decode b_L_law 1203 = .ok (.invokevirtual 154, 3) := by decide +kernel
theorem d_L_law_1206 : decode b_L_law 1206 = .ok (.pop2, 1) := by decide +kernel
theorem d_L_law_1207 : decode b_L_law 1207 = .ok (.goto 66, 3) := by decide +kernel
theorem d_L_law_1210 : decode b_L_law 1210 = .ok (.aload_n 1, 1) := by decide +kernel
theorem d_L_law_1211 : decode b_L_law 1211 = .ok (.aload_n 0, 1) := by decide +kernel
theorem d_L_law_1212 : decode b_L_law 1212 = .ok (.iload_n 3, 1) := by decide +kernel
theorem d_L_law_1213 : decode b_L_law 1213 = .ok (.iconst 1, 1) := by decide +kernel
theorem d_L_law_1214 : decode b_L_law 1214 = .ok (.iadd, 1) := by decide +kernel
theorem d_L_law_1215 : decode b_L_law 1215 = .ok (.iaload, 1) := by decide +kernel
theorem d_L_law_1216 : decode b_L_law 1216 = .ok (.aload_n 0, 1) := by decide +kernel
theorem d_L_law_1217 : decode b_L_law 1217 = .ok (.iload_n 3, 1) := by decide +kernel
theorem d_L_law_1218 : decode b_L_law 1218 = .ok (.iconst 2, 1) := by decide +kernel
theorem d_L_law_1219 : decode b_L_law 1219 = .ok (.iadd, 1) := by decide +kernel
theorem d_L_law_1220 : decode b_L_law 1220 = .ok (.iaload, 1) := by decide +kernel
theorem d_L_law_1221 : decode b_L_law 1221 = .ok (.aload_n 0, 1) := by decide +kernel
theorem d_L_law_1222 : decode b_L_law 1222 = .ok (.iload_n 3, 1) := by decide +kernel
theorem d_L_law_1223 : decode b_L_law 1223 = .ok (.iconst 3, 1) := by decide +kernel
theorem d_L_law_1224 : decode b_L_law 1224 = .ok (.iadd, 1) := by decide +kernel
theorem d_L_law_1225 : decode b_L_law 1225 = .ok (.iaload, 1) := by decide +kernel
theorem d_L_law_1226 : decode b_L_law 1226 = .ok (.aload_n 0, 1) := by decide +kernel
theorem d_L_law_1227 : decode b_L_law 1227 = .ok (.iload_n 3, 1) := by decide +kernel
theorem d_L_law_1228 : decode b_L_law 1228 = .ok (.iconst 4, 1) := by decide +kernel
theorem d_L_law_1229 : decode b_L_law 1229 = .ok (.iadd, 1) := by decide +kernel
theorem d_L_law_1230 : decode b_L_law 1230 = .ok (.iaload, 1) := by decide +kernel
theorem d_L_law_1231 : decode b_L_law 1231 = .ok (.aload_n 0, 1) := by decide +kernel
theorem d_L_law_1232 : decode b_L_law 1232 = .ok (.iload_n 3, 1) := by decide +kernel
theorem d_L_law_1233 : decode b_L_law 1233 = .ok (.iconst 5, 1) := by decide +kernel
theorem d_L_law_1234 : decode b_L_law 1234 = .ok (.iadd, 1) := by decide +kernel
theorem d_L_law_1235 : decode b_L_law 1235 = .ok (.iaload, 1) := by decide +kernel
theorem d_L_law_1236 : decode b_L_law 1236 = .ok (.invokevirtual 155, 3) := by decide +kernel
theorem d_L_law_1239 : decode b_L_law 1239 = .ok (.pop, 1) := by decide +kernel
theorem d_L_law_1240 : decode b_L_law 1240 = .ok (.aload_n 2, 1) := by decide +kernel
theorem d_L_law_1241 : decode b_L_law 1241 = .ok (.aload_n 0, 1) := by decide +kernel
theorem d_L_law_1242 : decode b_L_law 1242 = .ok (.iload_n 3, 1) := by decide +kernel
theorem d_L_law_1243 : decode b_L_law 1243 = .ok (.iconst 1, 1) := by decide +kernel
theorem d_L_law_1244 : decode b_L_law 1244 = .ok (.iadd, 1) := by decide +kernel
theorem d_L_law_1245 : decode b_L_law 1245 = .ok (.iaload, 1) := by decide +kernel
theorem d_L_law_1246 : decode b_L_law 1246 = .ok (.aload_n 0, 1) := by decide +kernel
theorem d_L_law_1247 : decode b_L_law 1247 = .ok (.iload_n 3, 1) := by decide +kernel
theorem d_L_law_1248 : decode b_L_law 1248 = .ok (.iconst 2, 1) := by decide +kernel
theorem d_L_law_1249 : decode b_L_law 1249 = .ok (.iadd, 1) := by decide +kernel
theorem d_L_law_1250 : decode b_L_law 1250 = .ok (.iaload, 1) := by decide +kernel
theorem d_L_law_1251 : decode b_L_law 1251 = .ok (.aload_n 0, 1) := by decide +kernel
theorem d_L_law_1252 : decode b_L_law 1252 = .ok (.iload_n 3, 1) := by decide +kernel
theorem d_L_law_1253 : decode b_L_law 1253 = .ok (.iconst 3, 1) := by decide +kernel
theorem d_L_law_1254 : decode b_L_law 1254 = .ok (.iadd, 1) := by decide +kernel
theorem d_L_law_1255 : decode b_L_law 1255 = .ok (.iaload, 1) := by decide +kernel
theorem d_L_law_1256 : decode b_L_law 1256 = .ok (.aload_n 0, 1) := by decide +kernel
theorem d_L_law_1257 : decode b_L_law 1257 = .ok (.iload_n 3, 1) := by decide +kernel
theorem d_L_law_1258 : decode b_L_law 1258 = .ok (.iconst 4, 1) := by decide +kernel
theorem d_L_law_1259 : decode b_L_law 1259 = .ok (.iadd, 1) := by decide +kernel
theorem d_L_law_1260 : decode b_L_law 1260 = .ok (.iaload, 1) := by decide +kernel
theorem d_L_law_1261 : decode b_L_law 1261 = .ok (.aload_n 0, 1) := by decide +kernel
theorem d_L_law_1262 : decode b_L_law 1262 = .ok (.iload_n 3, 1) := by decide +kernel
theorem d_L_law_1263 : decode b_L_law 1263 = .ok (.iconst 5, 1) := by decide +kernel
theorem d_L_law_1264 : decode b_L_law 1264 = .ok (.iadd, 1) := by decide +kernel
theorem d_L_law_1265 : decode b_L_law 1265 = .ok (.iaload, 1) := by decide +kernel
theorem d_L_law_1266 : decode b_L_law 1266 = .ok (.invokevirtual 159, 3) := by decide +kernel
theorem d_L_law_1269 : decode b_L_law 1269 = .ok (.pop, 1) := by decide +kernel
theorem d_L_law_1270 : decode b_L_law 1270 = .ok (.goto 3, 3) := by decide +kernel
theorem d_L_law_1273 : decode b_L_law 1273 = .ok (.iinc 3 6, 3) := by decide +kernel
theorem d_L_law_1276 : decode b_L_law 1276 = .ok (.goto (-1258), 3) := by decide +kernel
theorem d_L_law_1279 : decode b_L_law 1279 = .ok (.iconst 1, 1) := by decide +kernel
theorem d_L_law_1280 : decode b_L_law 1280 = .ok (.ireturn, 1) := by decide +kernel
