/-! 61.case0.lean.txt -/
theorem dL_law_184 : decode cL_law 184 = .ok (.aload_n 1, 1) := dk_o43 (by decide +kernel)
theorem dL_law_185 : decode cL_law 185 = .ok (.aload_n 0, 1) := dk_o42 (by decide +kernel)
theorem dL_law_186 : decode cL_law 186 = .ok (.iload_n 3, 1) := dk_o29 (by decide +kernel)
theorem dL_law_187 : decode cL_law 187 = .ok (.iconst 1, 1) := dk_o4 (by decide +kernel)
theorem dL_law_188 : decode cL_law 188 = .ok (.iadd, 1) := dk_o96 (by decide +kernel)
theorem dL_law_189 : decode cL_law 189 = .ok (.iaload, 1) := dk_o46 (by decide +kernel)
theorem dL_law_190 : decode cL_law 190 = .ok (.aload_n 0, 1) := dk_o42 (by decide +kernel)
theorem dL_law_191 : decode cL_law 191 = .ok (.iload_n 3, 1) := dk_o29 (by decide +kernel)
theorem dL_law_192 : decode cL_law 192 = .ok (.iconst 2, 1) := dk_o5 (by decide +kernel)
theorem dL_law_193 : decode cL_law 193 = .ok (.iadd, 1) := dk_o96 (by decide +kernel)
theorem dL_law_194 : decode cL_law 194 = .ok (.iaload, 1) := dk_o46 (by decide +kernel)
theorem dL_law_195 : decode cL_law 195 = .ok (.aload_n 0, 1) := dk_o42 (by decide +kernel)
theorem dL_law_196 : decode cL_law 196 = .ok (.iload_n 3, 1) := dk_o29 (by decide +kernel)
theorem dL_law_197 : decode cL_law 197 = .ok (.iconst 3, 1) := dk_o6 (by decide +kernel)
theorem dL_law_198 : decode cL_law 198 = .ok (.iadd, 1) := dk_o96 (by decide +kernel)
theorem dL_law_199 : decode cL_law 199 = .ok (.iaload, 1) := dk_o46 (by decide +kernel)
theorem dL_law_200 : decode cL_law 200 = .ok (.aload_n 0, 1) := dk_o42 (by decide +kernel)
theorem dL_law_201 : decode cL_law 201 = .ok (.iload_n 3, 1) := dk_o29 (by decide +kernel)
theorem dL_law_202 : decode cL_law 202 = .ok (.iconst 4, 1) := dk_o7 (by decide +kernel)
theorem dL_law_203 : decode cL_law 203 = .ok (.iadd, 1) := dk_o96 (by decide +kernel)
theorem dL_law_204 : decode cL_law 204 = .ok (.iaload, 1) := dk_o46 (by decide +kernel)
theorem dL_law_205 : decode cL_law 205 = .ok (.aload_n 0, 1) := dk_o42 (by decide +kernel)
theorem dL_law_206 : decode cL_law 206 = .ok (.iload_n 3, 1) := dk_o29 (by decide +kernel)
theorem dL_law_207 : decode cL_law 207 = .ok (.iconst 5, 1) := dk_o8 (by decide +kernel)
theorem dL_law_208 : decode cL_law 208 = .ok (.iadd, 1) := dk_o96 (by decide +kernel)
theorem dL_law_209 : decode cL_law 209 = .ok (.iaload, 1) := dk_o46 (by decide +kernel)
theorem dL_law_210 : decode cL_law 210 = .ok (.invokevirtual 13, 3) := dk_o182 (by decide +kernel)
theorem dL_law_213 : decode cL_law 213 = .ok (.pop, 1) := dk_o87 (by decide +kernel)
theorem dL_law_214 : decode cL_law 214 = .ok (.aload_n 2, 1) := dk_o44 (by decide +kernel)
theorem dL_law_215 : decode cL_law 215 = .ok (.aload_n 0, 1) := dk_o42 (by decide +kernel)
theorem dL_law_216 : decode cL_law 216 = .ok (.iload_n 3, 1) := dk_o29 (by decide +kernel)
theorem dL_law_217 : decode cL_law 217 = .ok (.iconst 1, 1) := dk_o4 (by decide +kernel)
theorem dL_law_218 : decode cL_law 218 = .ok (.iadd, 1) := dk_o96 (by decide +kernel)
theorem dL_law_219 : decode cL_law 219 = .ok (.iaload, 1) := dk_o46 (by decide +kernel)
theorem dL_law_220 : decode cL_law 220 = .ok (.aload_n 0, 1) := dk_o42 (by decide +kernel)
theorem dL_law_221 : decode cL_law 221 = .ok (.iload_n 3, 1) := dk_o29 (by decide +kernel)
theorem dL_law_222 : decode cL_law 222 = .ok (.iconst 2, 1) := dk_o5 (by decide +kernel)
theorem dL_law_223 : decode cL_law 223 = .ok (.iadd, 1) := dk_o96 (by decide +kernel)
theorem dL_law_224 : decode cL_law 224 = .ok (.iaload, 1) := dk_o46 (by decide +kernel)
theorem dL_law_225 : decode cL_law 225 = .ok (.aload_n 0, 1) := dk_o42 (by decide +kernel)
theorem dL_law_226 : decode cL_law 226 = .ok (.iload_n 3, 1) := dk_o29 (by decide +kernel)
theorem dL_law_227 : decode cL_law 227 = .ok (.iconst 3, 1) := dk_o6 (by decide +kernel)
theorem dL_law_228 : decode cL_law 228 = .ok (.iadd, 1) := dk_o96 (by decide +kernel)
theorem dL_law_229 : decode cL_law 229 = .ok (.iaload, 1) := dk_o46 (by decide +kernel)
theorem dL_law_230 : decode cL_law 230 = .ok (.aload_n 0, 1) := dk_o42 (by decide +kernel)
theorem dL_law_231 : decode cL_law 231 = .ok (.iload_n 3, 1) := dk_o29 (by decide +kernel)
theorem dL_law_232 : decode cL_law 232 = .ok (.iconst 4, 1) := dk_o7 (by decide +kernel)
theorem dL_law_233 : decode cL_law 233 = .ok (.iadd, 1) := dk_o96 (by decide +kernel)
theorem dL_law_234 : decode cL_law 234 = .ok (.iaload, 1) := dk_o46 (by decide +kernel)
theorem dL_law_235 : decode cL_law 235 = .ok (.aload_n 0, 1) := dk_o42 (by decide +kernel)
theorem dL_law_236 : decode cL_law 236 = .ok (.iload_n 3, 1) := dk_o29 (by decide +kernel)
theorem dL_law_237 : decode cL_law 237 = .ok (.iconst 5, 1) := dk_o8 (by decide +kernel)
theorem dL_law_238 : decode cL_law 238 = .ok (.iadd, 1) := dk_o96 (by decide +kernel)
theorem dL_law_239 : decode cL_law 239 = .ok (.iaload, 1) := dk_o46 (by decide +kernel)
theorem dL_law_240 : decode cL_law 240 = .ok (.invokevirtual 17, 3) := dk_o182 (by decide +kernel)
theorem dL_law_243 : decode cL_law 243 = .ok (.pop, 1) := dk_o87 (by decide +kernel)
theorem dL_law_244 : decode cL_law 244 = .ok (.goto 882, 3) := dk_o167 (by decide +kernel)
theorem dL_law_247 : decode cL_law 247 = .ok (.aload_n 1, 1) := dk_o43 (by decide +kernel)
theorem dL_law_248 : decode cL_law 248 = .ok (.aload_n 0, 1) := dk_o42 (by decide +kernel)
theorem dL_law_249 : decode cL_law 249 = .ok (.iload_n 3, 1) := dk_o29 (by decide +kernel)
theorem dL_law_250 : decode cL_law 250 = .ok (.iconst 1, 1) := dk_o4 (by decide +kernel)
theorem dL_law_251 : decode cL_law 251 = .ok (.iadd, 1) := dk_o96 (by decide +kernel)
theorem dL_law_252 : decode cL_law 252 = .ok (.iaload, 1) := dk_o46 (by decide +kernel)
theorem dL_law_253 : decode cL_law 253 = .ok (.invokevirtual 18, 3) := dk_o182 (by decide +kernel)
theorem dL_law_256 : decode cL_law 256 = .ok (.pop, 1) := dk_o87 (by decide +kernel)
theorem dL_law_257 : decode cL_law 257 = .ok (.aload_n 2, 1) := dk_o44 (by decide +kernel)
theorem dL_law_258 : decode cL_law 258 = .ok (.aload_n 0, 1) := dk_o42 (by decide +kernel)
theorem dL_law_259 : decode cL_law 259 = .ok (.iload_n 3, 1) := dk_o29 (by decide +kernel)
theorem dL_law_260 : decode cL_law 260 = .ok (.iconst 1, 1) := dk_o4 (by decide +kernel)
theorem dL_law_261 : decode cL_law 261 = .ok (.iadd, 1) := dk_o96 (by decide +kernel)
theorem dL_law_262 : decode cL_law 262 = .ok (.iaload, 1) := dk_o46 (by decide +kernel)
theorem dL_law_263 : decode cL_law 263 = .ok (.invokevirtual 22, 3) := dk_o182 (by decide +kernel)
theorem dL_law_266 : decode cL_law 266 = .ok (.pop, 1) := dk_o87 (by decide +kernel)
theorem dL_law_267 : decode cL_law 267 = .ok (.goto 859, 3) := dk_o167 (by decide +kernel)
theorem dL_law_270 : decode cL_law 270 = .ok (.aload_n 1, 1) := dk_o43 (by decide +kernel)
theorem dL_law_271 : decode cL_law 271 = .ok (.invokevirtual 23, 3) := dk_o182 (by decide +kernel)
theorem dL_law_274 : decode cL_law 274 = .ok (.pop, 1) := dk_o87 (by decide +kernel)
theorem dL_law_275 : decode cL_law 275 = .ok (.aload_n 2, 1) := dk_o44 (by decide +kernel)
theorem dL_law_276 : decode cL_law 276 = .ok (.invokevirtual 27, 3) := dk_o182 (by decide +kernel)
theorem dL_law_279 : decode cL_law 279 = .ok (.pop, 1) := dk_o87 (by decide +kernel)
theorem dL_law_280 : decode cL_law 280 = .ok (.goto 846, 3) := dk_o167 (by decide +kernel)
theorem dL_law_283 : decode cL_law 283 = .ok (.aload_n 1, 1) := dk_o43 (by decide +kernel)
theorem dL_law_284 : decode cL_law 284 = .ok (.aload_n 0, 1) := dk_o42 (by decide +kernel)
theorem dL_law_285 : decode cL_law 285 = .ok (.iload_n 3, 1) := dk_o29 (by decide +kernel)
theorem dL_law_286 : decode cL_law 286 = .ok (.iconst 1, 1) := dk_o4 (by decide +kernel)
theorem dL_law_287 : decode cL_law 287 = .ok (.iadd, 1) := dk_o96 (by decide +kernel)
theorem dL_law_288 : decode cL_law 288 = .ok (.iaload, 1) := dk_o46 (by decide +kernel)
theorem dL_law_289 : decode cL_law 289 = .ok (.invokevirtual 28, 3) := dk_o182 (by decide +kernel)
theorem dL_law_292 : decode cL_law 292 = .ok (.pop, 1) := dk_o87 (by decide +kernel)
theorem dL_law_293 : decode cL_law 293 = .ok (.aload_n 2, 1) := dk_o44 (by decide +kernel)
theorem dL_law_294 : decode cL_law 294 = .ok (.aload_n 0, 1) := dk_o42 (by decide +kernel)
theorem dL_law_295 : decode cL_law 295 = .ok (.iload_n 3, 1) := dk_o29 (by decide +kernel)
theorem dL_law_296 : decode cL_law 296 = .ok (.iconst 1, 1) := dk_o4 (by decide +kernel)
theorem dL_law_297 : decode cL_law 297 = .ok (.iadd, 1) := dk_o96 (by decide +kernel)
theorem dL_law_298 : decode cL_law 298 = .ok (.iaload, 1) := dk_o46 (by decide +kernel)
theorem dL_law_299 : decode cL_law 299 = .ok (.invokevirtual 32, 3) := dk_o182 (by decide +kernel)
theorem dL_law_302 : decode cL_law 302 = .ok (.pop, 1) := dk_o87 (by decide +kernel)
theorem dL_law_303 : decode cL_law 303 = .ok (.goto 823, 3) := dk_o167 (by decide +kernel)
theorem dL_law_306 : decode cL_law 306 = .ok (.aload_n 1, 1) := dk_o43 (by decide +kernel)
theorem dL_law_307 : decode cL_law 307 = .ok (.aload_n 0, 1) := dk_o42 (by decide +kernel)
theorem dL_law_308 : decode cL_law 308 = .ok (.iload_n 3, 1) := dk_o29 (by decide +kernel)
theorem dL_law_309 : decode cL_law 309 = .ok (.iconst 1, 1) := dk_o4 (by decide +kernel)
theorem dL_law_310 : decode cL_law 310 = .ok (.iadd, 1) := dk_o96 (by decide +kernel)
theorem dL_law_311 : decode cL_law 311 = .ok (.iaload, 1) := dk_o46 (by decide +kernel)
theorem dL_law_312 : decode cL_law 312 = .ok (.invokevirtual 33, 3) := dk_o182 (by decide +kernel)
theorem dL_law_315 : decode cL_law 315 = .ok (.pop, 1) := dk_o87 (by decide +kernel)
theorem dL_law_316 : decode cL_law 316 = .ok (.aload_n 2, 1) := dk_o44 (by decide +kernel)
theorem dL_law_317 : decode cL_law 317 = .ok (.aload_n 0, 1) := dk_o42 (by decide +kernel)
theorem dL_law_318 : decode cL_law 318 = .ok (.iload_n 3, 1) := dk_o29 (by decide +kernel)
theorem dL_law_319 : decode cL_law 319 = .ok (.iconst 1, 1) := dk_o4 (by decide +kernel)
theorem dL_law_320 : decode cL_law 320 = .ok (.iadd, 1) := dk_o96 (by decide +kernel)
theorem dL_law_321 : decode cL_law 321 = .ok (.iaload, 1) := dk_o46 (by decide +kernel)
theorem dL_law_322 : decode cL_law 322 = .ok (.invokevirtual 36, 3) := dk_o182 (by decide +kernel)
theorem dL_law_325 : decode cL_law 325 = .ok (.pop, 1) := dk_o87 (by decide +kernel)
theorem dL_law_326 : decode cL_law 326 = .ok (.goto 800, 3) := dk_o167 (by decide +kernel)
theorem dL_law_329 : decode cL_law 329 = .ok (.aload_n 1, 1) := dk_o43 (by decide +kernel)
theorem dL_law_330 : decode cL_law 330 = .ok (.aload_n 0, 1) := dk_o42 (by decide +kernel)
theorem dL_law_331 : decode cL_law 331 = .ok (.iload_n 3, 1) := dk_o29 (by decide +kernel)
theorem dL_law_332 : decode cL_law 332 = .ok (.iconst 1, 1) := dk_o4 (by decide +kernel)
theorem dL_law_333 : decode cL_law 333 = .ok (.iadd, 1) := dk_o96 (by decide +kernel)
theorem dL_law_334 : decode cL_law 334 = .ok (.iaload, 1) := dk_o46 (by decide +kernel)
theorem dL_law_335 : decode cL_law 335 = .ok (.aload_n 0, 1) := dk_o42 (by decide +kernel)
theorem dL_law_336 : decode cL_law 336 = .ok (.iload_n 3, 1) := dk_o29 (by decide +kernel)
theorem dL_law_337 : decode cL_law 337 = .ok (.iconst 2, 1) := dk_o5 (by decide +kernel)
theorem dL_law_338 : decode cL_law 338 = .ok (.iadd, 1) := dk_o96 (by decide +kernel)
theorem dL_law_339 : decode cL_law 339 = .ok (.iaload, 1) := dk_o46 (by decide +kernel)
theorem dL_law_340 : decode cL_law 340 = .ok (.aload_n 0, 1) := dk_o42 (by decide +kernel)
theorem dL_law_341 : decode cL_law 341 = .ok (.iload_n 3, 1) := dk_o29 (by decide +kernel)
theorem dL_law_342 : decode cL_law 342 = .ok (.iconst 3, 1) := dk_o6 (by decide +kernel)
theorem dL_law_343 : decode cL_law 343 = .ok (.iadd, 1) := dk_o96 (by decide +kernel)
theorem dL_law_344 : decode cL_law 344 = .ok (.iaload, 1) := dk_o46 (by decide +kernel)
theorem dL_law_345 : decode cL_law 345 = .ok (.invokevirtual 37, 3) := dk_o182 (by decide +kernel)
theorem dL_law_348 : decode cL_law 348 = .ok (.pop, 1) := dk_o87 (by decide +kernel)
theorem dL_law_349 : decode cL_law 349 = .ok (.aload_n 2, 1) := dk_o44 (by decide +kernel)
theorem dL_law_350 : decode cL_law 350 = .ok (.aload_n 0, 1) := dk_o42 (by decide +kernel)
theorem dL_law_351 : decode cL_law 351 = .ok (.iload_n 3, 1) := dk_o29 (by decide +kernel)
theorem dL_law_352 : decode cL_law 352 = .ok (.iconst 1, 1) := dk_o4 (by decide +kernel)
theorem dL_law_353 : decode cL_law 353 = .ok (.iadd, 1) := dk_o96 (by decide +kernel)
theorem dL_law_354 : decode cL_law 354 = .ok (.iaload, 1) := dk_o46 (by decide +kernel)
theorem dL_law_355 : decode cL_law 355 = .ok (.aload_n 0, 1) := dk_o42 (by decide +kernel)
theorem dL_law_356 : decode cL_law 356 = .ok (.iload_n 3, 1) := dk_o29 (by decide +kernel)
theorem dL_law_357 : decode cL_law 357 = .ok (.iconst 2, 1) := dk_o5 (by decide +kernel)
theorem dL_law_358 : decode cL_law 358 = .ok (.iadd, 1) := dk_o96 (by decide +kernel)
theorem dL_law_359 : decode cL_law 359 = .ok (.iaload, 1) := dk_o46 (by decide +kernel)
theorem dL_law_360 : decode cL_law 360 = .ok (.aload_n 0, 1) := dk_o42 (by decide +kernel)
theorem dL_law_361 : decode cL_law 361 = .ok (.iload_n 3, 1) := dk_o29 (by decide +kernel)
theorem dL_law_362 : decode cL_law 362 = .ok (.iconst 3, 1) := dk_o6 (by decide +kernel)
theorem dL_law_363 : decode cL_law 363 = .ok (.iadd, 1) := dk_o96 (by decide +kernel)
theorem dL_law_364 : decode cL_law 364 = .ok (.iaload, 1) := dk_o46 (by decide +kernel)
theorem dL_law_365 : decode cL_law 365 = .ok (.invokevirtual 41, 3) := dk_o182 (by decide +kernel)
theorem dL_law_368 : decode cL_law 368 = .ok (.pop, 1) := dk_o87 (by decide +kernel)
theorem dL_law_369 : decode cL_law 369 = .ok (.goto 757, 3) := dk_o167 (by decide +kernel)
theorem dL_law_372 : decode cL_law 372 = .ok (.aload_n 1, 1) := dk_o43 (by decide +kernel)
theorem dL_law_373 : decode cL_law 373 = .ok (.aload_n 0, 1) := dk_o42 (by decide +kernel)
theorem dL_law_374 : decode cL_law 374 = .ok (.iload_n 3, 1) := dk_o29 (by decide +kernel)
theorem dL_law_375 : decode cL_law 375 = .ok (.iconst 1, 1) := dk_o4 (by decide +kernel)
theorem dL_law_376 : decode cL_law 376 = .ok (.iadd, 1) := dk_o96 (by decide +kernel)
theorem dL_law_377 : decode cL_law 377 = .ok (.iaload, 1) := dk_o46 (by decide +kernel)
theorem dL_law_378 : decode cL_law 378 = .ok (.aload_n 0, 1) := dk_o42 (by decide +kernel)
theorem dL_law_379 : decode cL_law 379 = .ok (.iload_n 3, 1) := dk_o29 (by decide +kernel)
theorem dL_law_380 : decode cL_law 380 = .ok (.iconst 2, 1) := dk_o5 (by decide +kernel)
theorem dL_law_381 : decode cL_law 381 = .ok (.iadd, 1) := dk_o96 (by decide +kernel)
theorem dL_law_382 : decode cL_law 382 = .ok (.iaload, 1) := dk_o46 (by decide +kernel)
theorem dL_law_383 : decode cL_law 383 = .ok (.aload_n 0, 1) := dk_o42 (by decide +kernel)
theorem dL_law_384 : decode cL_law 384 = .ok (.iload_n 3, 1) := dk_o29 (by decide +kernel)
theorem dL_law_385 : decode cL_law 385 = .ok (.iconst 3, 1) := dk_o6 (by decide +kernel)
theorem dL_law_386 : decode cL_law 386 = .ok (.iadd, 1) := dk_o96 (by decide +kernel)
theorem dL_law_387 : decode cL_law 387 = .ok (.iaload, 1) := dk_o46 (by decide +kernel)
theorem dL_law_388 : decode cL_law 388 = .ok (.invokevirtual 42, 3) := dk_o182 (by decide +kernel)
theorem dL_law_391 : decode cL_law 391 = .ok (.pop, 1) := dk_o87 (by decide +kernel)
theorem dL_law_392 : decode cL_law 392 = .ok (.aload_n 2, 1) := dk_o44 (by decide +kernel)
theorem dL_law_393 : decode cL_law 393 = .ok (.aload_n 0, 1) := dk_o42 (by decide +kernel)
theorem dL_law_394 : decode cL_law 394 = .ok (.iload_n 3, 1) := dk_o29 (by decide +kernel)
theorem dL_law_395 : decode cL_law 395 = .ok (.iconst 1, 1) := dk_o4 (by decide +kernel)
theorem dL_law_396 : decode cL_law 396 = .ok (.iadd, 1) := dk_o96 (by decide +kernel)
theorem dL_law_397 : decode cL_law 397 = .ok (.iaload, 1) := dk_o46 (by decide +kernel)
theorem dL_law_398 : decode cL_law 398 = .ok (.aload_n 0, 1) := dk_o42 (by decide +kernel)
theorem dL_law_399 : decode cL_law 399 = .ok (.iload_n 3, 1) := dk_o29 (by decide +kernel)
theorem dL_law_400 : decode cL_law 400 = .ok (.iconst 2, 1) := dk_o5 (by decide +kernel)
theorem dL_law_401 : decode cL_law 401 = .ok (.iadd, 1) := dk_o96 (by decide +kernel)
theorem dL_law_402 : decode cL_law 402 = .ok (.iaload, 1) := dk_o46 (by decide +kernel)
theorem dL_law_403 : decode cL_law 403 = .ok (.aload_n 0, 1) := dk_o42 (by decide +kernel)
theorem dL_law_404 : decode cL_law 404 = .ok (.iload_n 3, 1) := dk_o29 (by decide +kernel)
theorem dL_law_405 : decode cL_law 405 = .ok (.iconst 3, 1) := dk_o6 (by decide +kernel)
theorem dL_law_406 : decode cL_law 406 = .ok (.iadd, 1) := dk_o96 (by decide +kernel)
theorem dL_law_407 : decode cL_law 407 = .ok (.iaload, 1) := dk_o46 (by decide +kernel)
theorem dL_law_408 : decode cL_law 408 = .ok (.invokevirtual 45, 3) := dk_o182 (by decide +kernel)
theorem dL_law_411 : decode cL_law 411 = .ok (.pop, 1) := dk_o87 (by decide +kernel)
theorem dL_law_412 : decode cL_law 412 = .ok (.goto 714, 3) := dk_o167 (by decide +kernel)
theorem dL_law_415 : decode cL_law 415 = .ok (.aload_n 1, 1) := dk_o43 (by decide +kernel)
theorem dL_law_416 : decode cL_law 416 = .ok (.aload_n 0, 1) := dk_o42 (by decide +kernel)
theorem dL_law_417 : decode cL_law 417 = .ok (.iload_n 3, 1) := dk_o29 (by decide +kernel)
theorem dL_law_418 : decode cL_law 418 = .ok (.iconst 1, 1) := dk_o4 (by decide +kernel)
theorem dL_law_419 : decode cL_law 419 = .ok (.iadd, 1) := dk_o96 (by decide +kernel)
theorem dL_law_420 : decode cL_law 420 = .ok (.iaload, 1) := dk_o46 (by decide +kernel)
theorem dL_law_421 : decode cL_law 421 = .ok (.invokevirtual 46, 3) := dk_o182 (by decide +kernel)
theorem dL_law_424 : decode cL_law 424 = .ok (.pop, 1) := dk_o87 (by decide +kernel)
theorem dL_law_425 : decode cL_law 425 = .ok (.aload_n 2, 1) := dk_o44 (by decide +kernel)
theorem dL_law_426 : decode cL_law 426 = .ok (.aload_n 0, 1) := dk_o42 (by decide +kernel)
theorem dL_law_427 : decode cL_law 427 = .ok (.iload_n 3, 1) := dk_o29 (by decide +kernel)
theorem dL_law_428 : decode cL_law 428 = .ok (.iconst 1, 1) := dk_o4 (by decide +kernel)
theorem dL_law_429 : decode cL_law 429 = .ok (.iadd, 1) := dk_o96 (by decide +kernel)
theorem dL_law_430 : decode cL_law 430 = .ok (.iaload, 1) := dk_o46 (by decide +kernel)
theorem dL_law_431 : decode cL_law 431 = .ok (.invokevirtual 49, 3) := dk_o182 (by decide +kernel)
theorem dL_law_434 : decode cL_law 434 = .ok (.pop, 1) := dk_o87 (by decide +kernel)
theorem dL_law_435 : decode cL_law 435 = .ok (.goto 691, 3) := dk_o167 (by decide +kernel)
theorem dL_law_438 : decode cL_law 438 = .ok (.aload_n 1, 1) := dk_o43 (by decide +kernel)
theorem dL_law_439 : decode cL_law 439 = .ok (.aload_n 0, 1) := dk_o42 (by decide +kernel)
theorem dL_law_440 : decode cL_law 440 = .ok (.iload_n 3, 1) := dk_o29 (by decide +kernel)
theorem dL_law_441 : decode cL_law 441 = .ok (.iconst 1, 1) := dk_o4 (by decide +kernel)
theorem dL_law_442 : decode cL_law 442 = .ok (.iadd, 1) := dk_o96 (by decide +kernel)
theorem dL_law_443 : decode cL_law 443 = .ok (.iaload, 1) := dk_o46 (by decide +kernel)
theorem dL_law_444 : decode cL_law 444 = .ok (.aload_n 0, 1) := dk_o42 (by decide +kernel)
theorem dL_law_445 : decode cL_law 445 = .ok (.iload_n 3, 1) := dk_o29 (by decide +kernel)
theorem dL_law_446 : decode cL_law 446 = .ok (.iconst 2, 1) := dk_o5 (by decide +kernel)
theorem dL_law_447 : decode cL_law 447 = .ok (.iadd, 1) := dk_o96 (by decide +kernel)
theorem dL_law_448 : decode cL_law 448 = .ok (.iaload, 1) := dk_o46 (by decide +kernel)
theorem dL_law_449 : decode cL_law 449 = .ok (.invokevirtual 50, 3) := dk_o182 (by decide +kernel)
theorem dL_law_452 : decode cL_law 452 = .ok (.pop, 1) := dk_o87 (by decide +kernel)
theorem dL_law_453 : decode cL_law 453 = .ok (.aload_n 2, 1) := dk_o44 (by decide +kernel)
theorem dL_law_454 : decode cL_law 454 = .ok (.aload_n 0, 1) := dk_o42 (by decide +kernel)
theorem dL_law_455 : decode cL_law 455 = .ok (.iload_n 3, 1) := dk_o29 (by decide +kernel)
theorem dL_law_456 : decode cL_law 456 = .ok (.iconst 1, 1) := dk_o4 (by decide +kernel)
theorem dL_law_457 : decode cL_law 457 = .ok (.iadd, 1) := dk_o96 (by decide +kernel)
theorem dL_law_458 : decode cL_law 458 = .ok (.iaload, 1) := dk_o46 (by decide +kernel)
theorem dL_law_459 : decode cL_law 459 = .ok (.aload_n 0, 1) := dk_o42 (by decide +kernel)
theorem dL_law_460 : decode cL_law 460 = .ok (.iload_n 3, 1) := dk_o29 (by decide +kernel)
theorem dL_law_461 : decode cL_law 461 = .ok (.iconst 2, 1) := dk_o5 (by decide +kernel)
theorem dL_law_462 : decode cL_law 462 = .ok (.iadd, 1) := dk_o96 (by decide +kernel)
theorem dL_law_463 : decode cL_law 463 = .ok (.iaload, 1) := dk_o46 (by decide +kernel)
theorem dL_law_464 : decode cL_law 464 = .ok (.invokevirtual 54, 3) := dk_o182 (by decide +kernel)
theorem dL_law_467 : decode cL_law 467 = .ok (.pop, 1) := dk_o87 (by decide +kernel)
theorem dL_law_468 : decode cL_law 468 = .ok (.goto 658, 3) := dk_o167 (by decide +kernel)
theorem wB_1402 : Cond.code yX11_feed cX11_feed 6 (some .int) ∈ dgB := List.mem_filter.mpr ⟨tbl_3 _ (List.mem_of_getElem? (i := 91) rfl), rfl⟩
theorem wB_1403 : Cond.methodLink RL 13 yX11_feed ∈ dgB := List.mem_filter.mpr ⟨tbl_3 _ (List.mem_of_getElem? (i := 88) (by decide +kernel)), by decide +kernel⟩
theorem wB_1404 : Cond.instanceMethod yX11_feed ∈ dgB := List.mem_filter.mpr ⟨tbl_3 _ (List.mem_of_getElem? (i := 89) (by decide +kernel)), by decide +kernel⟩
theorem wB_1405 : Cond.selects RX11 yX11_feed yX11_feed ∈ dgB := List.mem_filter.mpr ⟨tbl_3 _ (List.mem_of_getElem? (i := 90) (by decide +kernel)), by decide +kernel⟩
theorem wB_1406 : Cond.code yX12_feed cX12_feed 6 (some .int) ∈ dgB := List.mem_filter.mpr ⟨tbl_7 _ (List.mem_of_getElem? (i := 160) rfl), rfl⟩
theorem wB_1407 : Cond.methodLink RL 17 yX12_feed ∈ dgB := List.mem_filter.mpr ⟨tbl_7 _ (List.mem_of_getElem? (i := 157) (by decide +kernel)), by decide +kernel⟩
theorem wB_1408 : Cond.instanceMethod yX12_feed ∈ dgB := List.mem_filter.mpr ⟨tbl_7 _ (List.mem_of_getElem? (i := 158) (by decide +kernel)), by decide +kernel⟩
theorem wB_1409 : Cond.selects RX12 yX12_feed yX12_feed ∈ dgB := List.mem_filter.mpr ⟨tbl_7 _ (List.mem_of_getElem? (i := 159) (by decide +kernel)), by decide +kernel⟩
theorem wB_1410 : Cond.code yX11_end cX11_end 2 (some .boolean) ∈ dgB := List.mem_filter.mpr ⟨tbl_3 _ (List.mem_of_getElem? (i := 103) rfl), rfl⟩
theorem wB_1411 : Cond.methodLink RL 18 yX11_end ∈ dgB := List.mem_filter.mpr ⟨tbl_3 _ (List.mem_of_getElem? (i := 100) (by decide +kernel)), by decide +kernel⟩
theorem wB_1412 : Cond.instanceMethod yX11_end ∈ dgB := List.mem_filter.mpr ⟨tbl_3 _ (List.mem_of_getElem? (i := 101) (by decide +kernel)), by decide +kernel⟩
theorem wB_1413 : Cond.selects RX11 yX11_end yX11_end ∈ dgB := List.mem_filter.mpr ⟨tbl_3 _ (List.mem_of_getElem? (i := 102) (by decide +kernel)), by decide +kernel⟩
theorem wB_1414 : Cond.code yX12_end cX12_end 2 (some .boolean) ∈ dgB := List.mem_filter.mpr ⟨tbl_7 _ (List.mem_of_getElem? (i := 172) rfl), rfl⟩
theorem wB_1415 : Cond.methodLink RL 22 yX12_end ∈ dgB := List.mem_filter.mpr ⟨tbl_7 _ (List.mem_of_getElem? (i := 169) (by decide +kernel)), by decide +kernel⟩
theorem wB_1416 : Cond.instanceMethod yX12_end ∈ dgB := List.mem_filter.mpr ⟨tbl_7 _ (List.mem_of_getElem? (i := 170) (by decide +kernel)), by decide +kernel⟩
theorem wB_1417 : Cond.selects RX12 yX12_end yX12_end ∈ dgB := List.mem_filter.mpr ⟨tbl_7 _ (List.mem_of_getElem? (i := 171) (by decide +kernel)), by decide +kernel⟩
theorem wB_1418 : Cond.code yX11_mine cX11_mine 3 (some .int) ∈ dgB := List.mem_filter.mpr ⟨tbl_3 _ (List.mem_of_getElem? (i := 111) rfl), rfl⟩
theorem wB_1419 : Cond.methodLink RL 23 yX11_mine ∈ dgB := List.mem_filter.mpr ⟨tbl_3 _ (List.mem_of_getElem? (i := 108) (by decide +kernel)), by decide +kernel⟩
theorem wB_1420 : Cond.instanceMethod yX11_mine ∈ dgB := List.mem_filter.mpr ⟨tbl_3 _ (List.mem_of_getElem? (i := 109) (by decide +kernel)), by decide +kernel⟩
theorem wB_1421 : Cond.selects RX11 yX11_mine yX11_mine ∈ dgB := List.mem_filter.mpr ⟨tbl_3 _ (List.mem_of_getElem? (i := 110) (by decide +kernel)), by decide +kernel⟩
theorem wB_1422 : Cond.code yX12_mine cX12_mine 2 (some .int) ∈ dgB := List.mem_filter.mpr ⟨tbl_7 _ (List.mem_of_getElem? (i := 176) rfl), rfl⟩
theorem wB_1423 : Cond.methodLink RL 27 yX12_mine ∈ dgB := List.mem_filter.mpr ⟨tbl_7 _ (List.mem_of_getElem? (i := 173) (by decide +kernel)), by decide +kernel⟩
theorem wB_1424 : Cond.instanceMethod yX12_mine ∈ dgB := List.mem_filter.mpr ⟨tbl_7 _ (List.mem_of_getElem? (i := 174) (by decide +kernel)), by decide +kernel⟩
theorem wB_1425 : Cond.selects RX12 yX12_mine yX12_mine ∈ dgB := List.mem_filter.mpr ⟨tbl_7 _ (List.mem_of_getElem? (i := 175) (by decide +kernel)), by decide +kernel⟩
theorem wB_1426 : Cond.code yX11_fault cX11_fault 2 (some .int) ∈ dgB := List.mem_filter.mpr ⟨tbl_4 _ (List.mem_of_getElem? (i := 135) rfl), rfl⟩
theorem wB_1427 : Cond.methodLink RL 28 yX11_fault ∈ dgB := List.mem_filter.mpr ⟨tbl_4 _ (List.mem_of_getElem? (i := 132) (by decide +kernel)), by decide +kernel⟩
theorem wB_1428 : Cond.instanceMethod yX11_fault ∈ dgB := List.mem_filter.mpr ⟨tbl_4 _ (List.mem_of_getElem? (i := 133) (by decide +kernel)), by decide +kernel⟩
theorem wB_1429 : Cond.selects RX11 yX11_fault yX11_fault ∈ dgB := List.mem_filter.mpr ⟨tbl_4 _ (List.mem_of_getElem? (i := 134) (by decide +kernel)), by decide +kernel⟩
theorem wB_1430 : Cond.code yX12_fault cX12_fault 2 (some .int) ∈ dgB := List.mem_filter.mpr ⟨tbl_8 _ (List.mem_of_getElem? (i := 110) rfl), rfl⟩
theorem wB_1431 : Cond.methodLink RL 32 yX12_fault ∈ dgB := List.mem_filter.mpr ⟨tbl_8 _ (List.mem_of_getElem? (i := 107) (by decide +kernel)), by decide +kernel⟩
theorem wB_1432 : Cond.instanceMethod yX12_fault ∈ dgB := List.mem_filter.mpr ⟨tbl_8 _ (List.mem_of_getElem? (i := 108) (by decide +kernel)), by decide +kernel⟩
theorem wB_1433 : Cond.selects RX12 yX12_fault yX12_fault ∈ dgB := List.mem_filter.mpr ⟨tbl_8 _ (List.mem_of_getElem? (i := 109) (by decide +kernel)), by decide +kernel⟩
theorem wB_1434 : Cond.code yX11_has cX11_has 2 (some .int) ∈ dgB := List.mem_filter.mpr ⟨tbl_4 _ (List.mem_of_getElem? (i := 139) rfl), rfl⟩
theorem wB_1435 : Cond.methodLink RL 33 yX11_has ∈ dgB := List.mem_filter.mpr ⟨tbl_4 _ (List.mem_of_getElem? (i := 136) (by decide +kernel)), by decide +kernel⟩
theorem wB_1436 : Cond.instanceMethod yX11_has ∈ dgB := List.mem_filter.mpr ⟨tbl_4 _ (List.mem_of_getElem? (i := 137) (by decide +kernel)), by decide +kernel⟩
theorem wB_1437 : Cond.selects RX11 yX11_has yX11_has ∈ dgB := List.mem_filter.mpr ⟨tbl_4 _ (List.mem_of_getElem? (i := 138) (by decide +kernel)), by decide +kernel⟩
theorem wB_1438 : Cond.code yX12_has cX12_has 4 (some .int) ∈ dgB := List.mem_filter.mpr ⟨tbl_8 _ (List.mem_of_getElem? (i := 130) rfl), rfl⟩
theorem wB_1439 : Cond.methodLink RL 36 yX12_has ∈ dgB := List.mem_filter.mpr ⟨tbl_8 _ (List.mem_of_getElem? (i := 127) (by decide +kernel)), by decide +kernel⟩
theorem wB_1440 : Cond.instanceMethod yX12_has ∈ dgB := List.mem_filter.mpr ⟨tbl_8 _ (List.mem_of_getElem? (i := 128) (by decide +kernel)), by decide +kernel⟩
theorem wB_1441 : Cond.selects RX12 yX12_has yX12_has ∈ dgB := List.mem_filter.mpr ⟨tbl_8 _ (List.mem_of_getElem? (i := 129) (by decide +kernel)), by decide +kernel⟩
theorem wB_1442 : Cond.code yX11_letter cX11_letter 4 (some .int) ∈ dgB := List.mem_filter.mpr ⟨tbl_4 _ (List.mem_of_getElem? (i := 212) rfl), rfl⟩
theorem wB_1443 : Cond.methodLink RL 37 yX11_letter ∈ dgB := List.mem_filter.mpr ⟨tbl_4 _ (List.mem_of_getElem? (i := 209) (by decide +kernel)), by decide +kernel⟩
theorem wB_1444 : Cond.instanceMethod yX11_letter ∈ dgB := List.mem_filter.mpr ⟨tbl_4 _ (List.mem_of_getElem? (i := 210) (by decide +kernel)), by decide +kernel⟩
theorem wB_1445 : Cond.selects RX11 yX11_letter yX11_letter ∈ dgB := List.mem_filter.mpr ⟨tbl_4 _ (List.mem_of_getElem? (i := 211) (by decide +kernel)), by decide +kernel⟩
theorem wB_1446 : Cond.code yX12_letter cX12_letter 10 (some .int) ∈ dgB := List.mem_filter.mpr ⟨tbl_8 _ (List.mem_of_getElem? (i := 170) rfl), rfl⟩
theorem wB_1447 : Cond.methodLink RL 41 yX12_letter ∈ dgB := List.mem_filter.mpr ⟨tbl_8 _ (List.mem_of_getElem? (i := 167) (by decide +kernel)), by decide +kernel⟩
theorem wB_1448 : Cond.instanceMethod yX12_letter ∈ dgB := List.mem_filter.mpr ⟨tbl_8 _ (List.mem_of_getElem? (i := 168) (by decide +kernel)), by decide +kernel⟩
theorem wB_1449 : Cond.selects RX12 yX12_letter yX12_letter ∈ dgB := List.mem_filter.mpr ⟨tbl_8 _ (List.mem_of_getElem? (i := 169) (by decide +kernel)), by decide +kernel⟩
theorem wB_1450 : Cond.code yX11_cell cX11_cell 5 (some .int) ∈ dgB := List.mem_filter.mpr ⟨tbl_4 _ (List.mem_of_getElem? (i := 219) rfl), rfl⟩
theorem wB_1451 : Cond.methodLink RL 42 yX11_cell ∈ dgB := List.mem_filter.mpr ⟨tbl_4 _ (List.mem_of_getElem? (i := 216) (by decide +kernel)), by decide +kernel⟩
theorem wB_1452 : Cond.instanceMethod yX11_cell ∈ dgB := List.mem_filter.mpr ⟨tbl_4 _ (List.mem_of_getElem? (i := 217) (by decide +kernel)), by decide +kernel⟩
theorem wB_1453 : Cond.selects RX11 yX11_cell yX11_cell ∈ dgB := List.mem_filter.mpr ⟨tbl_4 _ (List.mem_of_getElem? (i := 218) (by decide +kernel)), by decide +kernel⟩
theorem wB_1454 : Cond.code yX12_cell cX12_cell 5 (some .int) ∈ dgB := List.mem_filter.mpr ⟨tbl_8 _ (List.mem_of_getElem? (i := 183) rfl), rfl⟩
theorem wB_1455 : Cond.methodLink RL 45 yX12_cell ∈ dgB := List.mem_filter.mpr ⟨tbl_8 _ (List.mem_of_getElem? (i := 180) (by decide +kernel)), by decide +kernel⟩
theorem wB_1456 : Cond.instanceMethod yX12_cell ∈ dgB := List.mem_filter.mpr ⟨tbl_8 _ (List.mem_of_getElem? (i := 181) (by decide +kernel)), by decide +kernel⟩
theorem wB_1457 : Cond.selects RX12 yX12_cell yX12_cell ∈ dgB := List.mem_filter.mpr ⟨tbl_8 _ (List.mem_of_getElem? (i := 182) (by decide +kernel)), by decide +kernel⟩
theorem wB_1458 : Cond.code yX11_hurt cX11_hurt 2 (some .int) ∈ dgB := List.mem_filter.mpr ⟨tbl_5 _ (List.mem_of_getElem? (i := 47) rfl), rfl⟩
theorem wB_1459 : Cond.methodLink RL 46 yX11_hurt ∈ dgB := List.mem_filter.mpr ⟨tbl_5 _ (List.mem_of_getElem? (i := 44) (by decide +kernel)), by decide +kernel⟩
theorem wB_1460 : Cond.instanceMethod yX11_hurt ∈ dgB := List.mem_filter.mpr ⟨tbl_5 _ (List.mem_of_getElem? (i := 45) (by decide +kernel)), by decide +kernel⟩
theorem wB_1461 : Cond.selects RX11 yX11_hurt yX11_hurt ∈ dgB := List.mem_filter.mpr ⟨tbl_5 _ (List.mem_of_getElem? (i := 46) (by decide +kernel)), by decide +kernel⟩
theorem wB_1462 : Cond.code yX12_hurt cX12_hurt 2 (some .int) ∈ dgB := List.mem_filter.mpr ⟨tbl_8 _ (List.mem_of_getElem? (i := 226) rfl), rfl⟩
theorem wB_1463 : Cond.methodLink RL 49 yX12_hurt ∈ dgB := List.mem_filter.mpr ⟨tbl_8 _ (List.mem_of_getElem? (i := 223) (by decide +kernel)), by decide +kernel⟩
theorem wB_1464 : Cond.instanceMethod yX12_hurt ∈ dgB := List.mem_filter.mpr ⟨tbl_8 _ (List.mem_of_getElem? (i := 224) (by decide +kernel)), by decide +kernel⟩
theorem wB_1465 : Cond.selects RX12 yX12_hurt yX12_hurt ∈ dgB := List.mem_filter.mpr ⟨tbl_8 _ (List.mem_of_getElem? (i := 225) (by decide +kernel)), by decide +kernel⟩
theorem wB_1466 : Cond.code yX11_plan cX11_plan 3 (some .int) ∈ dgB := List.mem_filter.mpr ⟨tbl_5 _ (List.mem_of_getElem? (i := 55) rfl), rfl⟩
theorem wB_1467 : Cond.methodLink RL 50 yX11_plan ∈ dgB := List.mem_filter.mpr ⟨tbl_5 _ (List.mem_of_getElem? (i := 52) (by decide +kernel)), by decide +kernel⟩
theorem wB_1468 : Cond.instanceMethod yX11_plan ∈ dgB := List.mem_filter.mpr ⟨tbl_5 _ (List.mem_of_getElem? (i := 53) (by decide +kernel)), by decide +kernel⟩
theorem wB_1469 : Cond.selects RX11 yX11_plan yX11_plan ∈ dgB := List.mem_filter.mpr ⟨tbl_5 _ (List.mem_of_getElem? (i := 54) (by decide +kernel)), by decide +kernel⟩
theorem wB_1470 : Cond.code yX12_plan cX12_plan 3 (some .int) ∈ dgB := List.mem_filter.mpr ⟨tbl_8 _ (List.mem_of_getElem? (i := 233) rfl), rfl⟩
theorem wB_1471 : Cond.methodLink RL 54 yX12_plan ∈ dgB := List.mem_filter.mpr ⟨tbl_8 _ (List.mem_of_getElem? (i := 230) (by decide +kernel)), by decide +kernel⟩
theorem wB_1472 : Cond.instanceMethod yX12_plan ∈ dgB := List.mem_filter.mpr ⟨tbl_8 _ (List.mem_of_getElem? (i := 231) (by decide +kernel)), by decide +kernel⟩
theorem wB_1473 : Cond.selects RX12 yX12_plan yX12_plan ∈ dgB := List.mem_filter.mpr ⟨tbl_8 _ (List.mem_of_getElem? (i := 232) (by decide +kernel)), by decide +kernel⟩
set_option maxHeartbeats 8000000 in
set_option maxRecDepth 100000 in
theorem law_case_0 {p : Program} {e : Env} {s : State} {m : MethodId} {below : List Frame} {meth : Method} {c : Code} (l : Launch) {b L : Nat} {xs : Nat → Int32} {g : Nat → ClassId} {D : va_G} {A : Nat → Prop} {oX oM : Nat} (C : law_St p s m meth c b L xs g D A) (ST : dk_ST A s s.heap) (hO : oX + 380 ≤ oM) (hoX : ∀ i, A (oX + i)) (hoM : ∀ i, A (oM + i)) {H : Heap} {locs : List Loc} {ls : Array Slot} {SX SM : dg_S} (hP : va_P D vwCl (dg_w g shX oX rfX SX) H) (hM : va_P D vwCl (dg_w g shM oM rfM SM) H) (hS : va_S A s.heap H locs) (IX : law_X oX SX) (IM : law_M oM SM) (IT : law_T SX SM) (IL : law_L oX SX SM) {x : Int32} (hx0 : 0 ≤ x.toInt) (hxL : x.toInt + 6 ≤ L) (hL : L ≤ 3072) (hl : lv_has ls 4 [(3, .int x), (2, .ref (oM + 0)), (1, .ref (oX + 0)), (0, .ref b)])
    (kk : ∀ (SX SM : dg_S) (H : Heap) (locs : List Loc) (ls : Array Slot), va_P D vwCl (dg_w g shX oX rfX SX) H → va_P D vwCl (dg_w g shM oM rfM SM) H → va_S A s.heap H locs → law_X oX SX → law_M oM SM → law_T SX SM → law_L oX SX SM → lv_has ls 4 [(3, .int x), (2, .ref (oM + 0)), (1, .ref (oX + 0)), (0, .ref b)] → W p l e room_1 s m #[Value.ref b] below meth c H locs 431 78943 (lw_Z below #[Value.ref b] s) (F0 m 1126 ls [])) : W p l e room_1 s m #[Value.ref b] below meth c H locs 431 78943 (lw_Z below #[Value.ref b] s) (F0 m 184 ls []) := by
  obtain ⟨hx, hb, hr, hml, hown, hts, hX, hbl, hlocks, K, hA, hAi⟩ := C
  have hbA : ¬ A b := fun q => Nat.not_le.mpr hbl (hAi b q)
  have F : CallFix p m c cL_law 4 s #[Value.ref b] lw_tbl RL := ⟨hx, hb, hml, hown, hts⟩
  obtain ⟨I0, Z1, Z2, Z3, Z4, Z6⟩ := IX
  obtain ⟨J0, ZB, ZS, ZW, ZD⟩ := IM
  obtain ⟨t, fX, fM, hBY⟩ := IT
  obtain ⟨gD, gE, LW0⟩ := IL
  have hgD := LW0.2.2.2.1.1.1
  have hgE := LW0.2.2.2.1.1.2.1
  have hgne := LW0.2.2.2.1.1.2.2
  have fgD := LW0.2.2.2.1.2.1
  have fgE := LW0.2.2.2.1.2.2
  have b_t : 0 ≤ (t).toInt ∧ (t).toInt ≤ 1600 := dg_I.intb (lo := 0) (hi := 1600) I0 sX_1 (by decide +kernel) fX
  have i1 : (x + 1).toInt = x.toInt + 1 := dk_addT2 rfl (by decide +kernel) (by omega)
  obtain ⟨a1, ha1⟩ : ∃ a, a = xs (x + 1).toNatClampNeg := ⟨_, rfl⟩
  have i2 : (x + 2).toInt = x.toInt + 2 := dk_addT2 rfl (by decide +kernel) (by omega)
  obtain ⟨a2, ha2⟩ : ∃ a, a = xs (x + 2).toNatClampNeg := ⟨_, rfl⟩
  have i3 : (x + 3).toInt = x.toInt + 3 := dk_addT2 rfl (by decide +kernel) (by omega)
  obtain ⟨a3, ha3⟩ : ∃ a, a = xs (x + 3).toNatClampNeg := ⟨_, rfl⟩
  have i4 : (x + 4).toInt = x.toInt + 4 := dk_addT2 rfl (by decide +kernel) (by omega)
  obtain ⟨a4, ha4⟩ : ∃ a, a = xs (x + 4).toNatClampNeg := ⟨_, rfl⟩
  have i5 : (x + 5).toInt = x.toInt + 5 := dk_addT2 rfl (by decide +kernel) (by omega)
  obtain ⟨a5, ha5⟩ : ∃ a, a = xs (x + 5).toNatClampNeg := ⟨_, rfl⟩
  refine lv_aload_n hx hb dL_law_184 rfl (lv_at hl 2 rfl) ?_
  refine lv_aload_n hx hb dL_law_185 rfl (lv_at hl 3 rfl) ?_
  refine lv_iload_n hx hb dL_law_186 rfl (lv_at hl 0 rfl) ?_
  refine lv_iconst (v := 1) hx hb dL_law_187 (by decide +kernel) ?_
  refine lv_iadd hx hb dL_law_188 ?_
  refine va_sld hx hb hX hbl hbA hS (dk_inv2 (by omega)) dL_law_189 ?_
  refine dk_top (y := a1) ha1.symm ?_
  refine lv_aload_n hx hb dL_law_190 rfl (lv_at hl 3 rfl) ?_
  refine lv_iload_n hx hb dL_law_191 rfl (lv_at hl 0 rfl) ?_
  refine lv_iconst (v := 2) hx hb dL_law_192 (by decide +kernel) ?_
  refine lv_iadd hx hb dL_law_193 ?_
  refine va_sld hx hb hX hbl hbA hS (dk_inv2 (by omega)) dL_law_194 ?_
  refine dk_top (y := a2) ha2.symm ?_
  refine lv_aload_n hx hb dL_law_195 rfl (lv_at hl 3 rfl) ?_
  refine lv_iload_n hx hb dL_law_196 rfl (lv_at hl 0 rfl) ?_
  refine lv_iconst (v := 3) hx hb dL_law_197 (by decide +kernel) ?_
  refine lv_iadd hx hb dL_law_198 ?_
  as_aux_lemma =>
    refine va_sld hx hb hX hbl hbA hS (dk_inv2 (by omega)) dL_law_199 ?_
    refine dk_top (y := a3) ha3.symm ?_
    refine lv_aload_n hx hb dL_law_200 rfl (lv_at hl 3 rfl) ?_
    refine lv_iload_n hx hb dL_law_201 rfl (lv_at hl 0 rfl) ?_
    refine lv_iconst (v := 4) hx hb dL_law_202 (by decide +kernel) ?_
    refine lv_iadd hx hb dL_law_203 ?_
    refine va_sld hx hb hX hbl hbA hS (dk_inv2 (by omega)) dL_law_204 ?_
    refine dk_top (y := a4) ha4.symm ?_
    refine lv_aload_n hx hb dL_law_205 rfl (lv_at hl 3 rfl) ?_
    refine lv_iload_n hx hb dL_law_206 rfl (lv_at hl 0 rfl) ?_
    refine lv_iconst (v := 5) hx hb dL_law_207 (by decide +kernel) ?_
    refine lv_iadd hx hb dL_law_208 ?_
    refine va_sld hx hb hX hbl hbA hS (dk_inv2 (by omega)) dL_law_209 ?_
    refine dk_top (y := a5) ha5.symm ?_
    refine lw_calli hS (fun i _ => hoX i) hA (va_runV (As := [.int a1, .int a2, .int a3, .int a4, .int a5]) (rest := []) F (c_d_feed l g D oX SX a1 a2 a3 a4 a5 t fX b_t Z1 Z2 Z3 Z4 Z6 I0 H.size) (cwV 5 hts (lw_V wB_1403 wB_1404 wB_1405 wB_610 wB_1402) rfl rfl rfl (by decide +kernel) ⟨Nat.le_of_ble_eq_true rfl, Nat.le_of_ble_eq_true rfl⟩) (dg_preV sX_0 rfl K ST hP hS (fun i _ => hoX i) hA) rfl rfl hl.1 rfl (lv_room (Nat.le_of_ble_eq_true rfl)) dL_law_210 ⟨Nat.le_of_ble_eq_true rfl, Nat.le_of_ble_eq_true rfl⟩) hM (lw_apX hO) (fun r1 S1 hw1 H locs hP hM hS => ?_)
    obtain ⟨I1, m1, w1_0, w1_1, w1_2, w1_3, w1_4, -⟩ := hw1
    have Z1_1 : Z1X S1 := (Z1X.keep Z1 m1 (dk_dq rfl) (dk_dq rfl) (dk_dq rfl))
    have Z2_1 : Z2X S1 := (Z2X.keep Z2 m1 (dk_dq rfl) (dk_dq rfl))
    have Z3_1 : Z3X oX S1 := (Z3X.keep Z3 m1 (dg_FG.sm m1 (dk_dq rfl)) (dk_dq rfl))
    have Z4_1 : Z4X S1 := (Z4X.keep Z4 m1 (dg_FG.sm m1 (dk_dq rfl)) (dk_dq rfl) (dk_dq rfl))
    have Z6_1 : Z6X S1 := (Z6X.keep Z6 m1 (dg_FG.sm m1 (dk_dq rfl)))
    have br1 : (-1) ≤ (r1).toInt ∧ (r1).toInt ≤ 1600 := w1_0
    have qr1_0 : ((t).toInt ≤ 1580 → (r1).toInt = (t).toInt + 20) ∧ (1580 < (t).toInt → (r1).toInt = -1) := w1_1
    obtain ⟨yX, fyX, pyX⟩ := w1_2
    have pyX : ((t).toInt ≤ 1580 → (yX).toInt = (t).toInt + 20) ∧ (1580 < (t).toInt → (yX).toInt = (t).toInt) := pyX
    refine lv_pop hx hb dL_law_213 rfl ?_
    refine lv_aload_n hx hb dL_law_214 rfl (lv_at hl 1 rfl) ?_
    refine lv_aload_n hx hb dL_law_215 rfl (lv_at hl 3 rfl) ?_
    refine lv_iload_n hx hb dL_law_216 rfl (lv_at hl 0 rfl) ?_
    refine lv_iconst (v := 1) hx hb dL_law_217 (by decide +kernel) ?_
    refine lv_iadd hx hb dL_law_218 ?_
    refine va_sld hx hb hX hbl hbA hS (dk_inv2 (by omega)) dL_law_219 ?_
    refine dk_top (y := a1) ha1.symm ?_
    refine lv_aload_n hx hb dL_law_220 rfl (lv_at hl 3 rfl) ?_
    refine lv_iload_n hx hb dL_law_221 rfl (lv_at hl 0 rfl) ?_
    refine lv_iconst (v := 2) hx hb dL_law_222 (by decide +kernel) ?_
    refine lv_iadd hx hb dL_law_223 ?_
    refine va_sld hx hb hX hbl hbA hS (dk_inv2 (by omega)) dL_law_224 ?_
    refine dk_top (y := a2) ha2.symm ?_
    refine lv_aload_n hx hb dL_law_225 rfl (lv_at hl 3 rfl) ?_
    as_aux_lemma =>
      refine lv_iload_n hx hb dL_law_226 rfl (lv_at hl 0 rfl) ?_
      refine lv_iconst (v := 3) hx hb dL_law_227 (by decide +kernel) ?_
      refine lv_iadd hx hb dL_law_228 ?_
      refine va_sld hx hb hX hbl hbA hS (dk_inv2 (by omega)) dL_law_229 ?_
      refine dk_top (y := a3) ha3.symm ?_
      refine lv_aload_n hx hb dL_law_230 rfl (lv_at hl 3 rfl) ?_
      refine lv_iload_n hx hb dL_law_231 rfl (lv_at hl 0 rfl) ?_
      refine lv_iconst (v := 4) hx hb dL_law_232 (by decide +kernel) ?_
      refine lv_iadd hx hb dL_law_233 ?_
      refine va_sld hx hb hX hbl hbA hS (dk_inv2 (by omega)) dL_law_234 ?_
      refine dk_top (y := a4) ha4.symm ?_
      refine lv_aload_n hx hb dL_law_235 rfl (lv_at hl 3 rfl) ?_
      refine lv_iload_n hx hb dL_law_236 rfl (lv_at hl 0 rfl) ?_
      refine lv_iconst (v := 5) hx hb dL_law_237 (by decide +kernel) ?_
      refine lv_iadd hx hb dL_law_238 ?_
      refine va_sld hx hb hX hbl hbA hS (dk_inv2 (by omega)) dL_law_239 ?_
      refine dk_top (y := a5) ha5.symm ?_
      refine lw_calli hS (fun i _ => hoM i) hA (va_runV (As := [.int a1, .int a2, .int a3, .int a4, .int a5]) (rest := []) F (c_m_feed l g D oM SM a1 a2 a3 a4 a5 t fM b_t J0 H.size) (cwV 5 hts (lw_V wB_1407 wB_1408 wB_1409 wB_297 wB_1406) rfl rfl rfl (by decide +kernel) ⟨Nat.le_of_ble_eq_true rfl, Nat.le_of_ble_eq_true rfl⟩) (dg_preV sM_0 rfl K ST hM hS (fun i _ => hoM i) hA) rfl rfl hl.1 rfl (lv_room (Nat.le_of_ble_eq_true rfl)) dL_law_240 ⟨Nat.le_of_ble_eq_true rfl, Nat.le_of_ble_eq_true rfl⟩) hP (lw_apM hO) (fun r2 S2 hw2 H locs hM hP hS => ?_)
      obtain ⟨I2, m2, w2_0, w2_1, w2_2, w2_3, w2_4, -⟩ := hw2
      have ZB_2 : ZBM S2 := (ZBM.keep ZB m2 (dk_dq rfl) (dk_dq rfl) (dk_dq rfl) (dk_dq rfl) (dk_dq rfl))
      have ZS_2 : ZSM S2 := (ZSM.keep ZS m2 (dk_dq rfl))
      have ZW_2 : ZWM S2 := (ZWM.keep ZW m2 (dk_dq rfl) (dk_dq rfl) (dk_dq rfl) (dk_dq rfl))
      have ZD_2 : ZDM S2 := (ZDM.keep ZD m2 (dk_dq rfl))
      have br2 : (-1) ≤ (r2).toInt ∧ (r2).toInt ≤ 1600 := w2_0
      have qr2_0 : ((t).toInt ≤ 1580 → (r2).toInt = (t).toInt + 20) ∧ (1580 < (t).toInt → (r2).toInt = -1) := w2_1
      obtain ⟨yM, fyM, pyM⟩ := w2_2
      have pyM : ((t).toInt ≤ 1580 → (yM).toInt = (t).toInt + 20) ∧ (1580 < (t).toInt → (yM).toInt = (t).toInt) := pyM
      obtain ⟨eq9, LW1⟩ := W_feed LW0 w1_4 w2_4
      refine lv_pop hx hb dL_law_243 rfl ?_
      refine lv_goto (tgt := 1126) hx hb dL_law_244 (dk_dq rfl) ?_
      have hyy : yM = yX := Int32.toInt_inj.mp (by omega)
      have hct := dk_clN t
      have hcy := dk_clN yX
      have hBY2 : ∀ j, j < yX.toNatClampNeg → S1.2.1 2 j = S2.2.1 1 j := by
        intro j hj
        by_cases q9 : t.toInt ≤ 1580
        · rw [w1_3.out.1 q9, w2_3.out.1 q9]; exact tp_5_eq hBY j (by omega)
        · rw [w1_3.out.2 (by omega), w2_3.out.2 (by omega)]; exact hBY j (by omega)
      exact kk S1 S2 H locs ls hP hM hS ⟨I1, Z1_1, Z2_1, Z3_1, Z4_1, Z6_1⟩ ⟨I2, ZB_2, ZS_2, ZW_2, ZD_2⟩ ⟨yX, fyX, (fyM).trans (by rw [hyy]), hBY2⟩ ⟨_, _, LW1⟩ hl
set_option maxHeartbeats 8000000 in
set_option maxRecDepth 100000 in
theorem law_case_1 {p : Program} {e : Env} {s : State} {m : MethodId} {below : List Frame} {meth : Method} {c : Code} (l : Launch) {b L : Nat} {xs : Nat → Int32} {g : Nat → ClassId} {D : va_G} {A : Nat → Prop} {oX oM : Nat} (C : law_St p s m meth c b L xs g D A) (ST : dk_ST A s s.heap) (hO : oX + 380 ≤ oM) (hoX : ∀ i, A (oX + i)) (hoM : ∀ i, A (oM + i)) {H : Heap} {locs : List Loc} {ls : Array Slot} {SX SM : dg_S} (hP : va_P D vwCl (dg_w g shX oX rfX SX) H) (hM : va_P D vwCl (dg_w g shM oM rfM SM) H) (hS : va_S A s.heap H locs) (IX : law_X oX SX) (IM : law_M oM SM) (IT : law_T SX SM) (IL : law_L oX SX SM) {x : Int32} (hx0 : 0 ≤ x.toInt) (hxL : x.toInt + 6 ≤ L) (hL : L ≤ 3072) (hl : lv_has ls 4 [(3, .int x), (2, .ref (oM + 0)), (1, .ref (oX + 0)), (0, .ref b)])
    (kk : ∀ (SX SM : dg_S) (H : Heap) (locs : List Loc) (ls : Array Slot), va_P D vwCl (dg_w g shX oX rfX SX) H → va_P D vwCl (dg_w g shM oM rfM SM) H → va_S A s.heap H locs → law_X oX SX → law_M oM SM → law_T SX SM → law_L oX SX SM → lv_has ls 4 [(3, .int x), (2, .ref (oM + 0)), (1, .ref (oX + 0)), (0, .ref b)] → W p l e room_1 s m #[Value.ref b] below meth c H locs 431 78943 (lw_Z below #[Value.ref b] s) (F0 m 1126 ls [])) : W p l e room_1 s m #[Value.ref b] below meth c H locs 431 78943 (lw_Z below #[Value.ref b] s) (F0 m 247 ls []) := by
  obtain ⟨hx, hb, hr, hml, hown, hts, hX, hbl, hlocks, K, hA, hAi⟩ := C
  have hbA : ¬ A b := fun q => Nat.not_le.mpr hbl (hAi b q)
  have F : CallFix p m c cL_law 4 s #[Value.ref b] lw_tbl RL := ⟨hx, hb, hml, hown, hts⟩
  obtain ⟨I0, Z1, Z2, Z3, Z4, Z6⟩ := IX
  obtain ⟨J0, ZB, ZS, ZW, ZD⟩ := IM
  obtain ⟨t, fX, fM, hBY⟩ := IT
  obtain ⟨gD, gE, LW0⟩ := IL
  have hgD := LW0.2.2.2.1.1.1
  have hgE := LW0.2.2.2.1.1.2.1
  have hgne := LW0.2.2.2.1.1.2.2
  have fgD := LW0.2.2.2.1.2.1
  have fgE := LW0.2.2.2.1.2.2
  have b_t : 0 ≤ (t).toInt ∧ (t).toInt ≤ 1600 := dg_I.intb (lo := 0) (hi := 1600) I0 sX_1 (by decide +kernel) fX
  have i1 : (x + 1).toInt = x.toInt + 1 := dk_addT2 rfl (by decide +kernel) (by omega)
  obtain ⟨a1, ha1⟩ : ∃ a, a = xs (x + 1).toNatClampNeg := ⟨_, rfl⟩
  refine lv_aload_n hx hb dL_law_247 rfl (lv_at hl 2 rfl) ?_
  refine lv_aload_n hx hb dL_law_248 rfl (lv_at hl 3 rfl) ?_
  refine lv_iload_n hx hb dL_law_249 rfl (lv_at hl 0 rfl) ?_
  refine lv_iconst (v := 1) hx hb dL_law_250 (by decide +kernel) ?_
  refine lv_iadd hx hb dL_law_251 ?_
  refine va_sld hx hb hX hbl hbA hS (dk_inv2 (by omega)) dL_law_252 ?_
  refine dk_top (y := a1) ha1.symm ?_
  refine lw_calli hS (fun i _ => hoX i) hA (va_runV (As := [.int a1]) (rest := []) F (c_d_end l g D oX SX a1 t fX b_t Z1 Z2 Z3 Z4 Z6 I0 H.size) (cwV 1 hts (lw_V wB_1411 wB_1412 wB_1413 wB_610 wB_1410) rfl rfl rfl (by decide +kernel) ⟨Nat.le_of_ble_eq_true rfl, Nat.le_of_ble_eq_true rfl⟩) (dg_preV sX_0 rfl K ST hP hS (fun i _ => hoX i) hA) rfl rfl hl.1 rfl (lv_room (Nat.le_of_ble_eq_true rfl)) dL_law_253 ⟨Nat.le_of_ble_eq_true rfl, Nat.le_of_ble_eq_true rfl⟩) hM (lw_apX hO) (fun r1 S1 hw1 H locs hP hM hS => ?_)
  obtain ⟨I1, m1, w1_0, w1_1, w1_2, w1_3, -⟩ := hw1
  have Z1_1 : Z1X S1 := (Z1X.keep Z1 m1 (dk_dq rfl) (dk_dq rfl) (dk_dq rfl))
  have Z2_1 : Z2X S1 := (Z2X.keep Z2 m1 (dk_dq rfl) (dk_dq rfl))
  have Z3_1 : Z3X oX S1 := (Z3X.keep Z3 m1 (dg_FG.sm m1 (dk_dq rfl)) (dk_dq rfl))
  have Z4_1 : Z4X S1 := (Z4X.keep Z4 m1 (dg_FG.sm m1 (dk_dq rfl)) (dk_dq rfl) (dk_dq rfl))
  have Z6_1 : Z6X S1 := (Z6X.keep Z6 m1 (dg_FG.sm m1 (dk_dq rfl)))
  have br1 : 0 ≤ (r1).toInt ∧ (r1).toInt ≤ 1 := w1_0
  have qr1_0 : (r1).toInt = 1 ↔ (0 ≤ (a1).toInt ∧ (a1).toInt ≤ (t).toInt) := w1_1
  obtain ⟨yX, fyX, pyX⟩ := w1_2
  have pyX : ((r1).toInt = 1 → (yX).toInt = (a1).toInt) ∧ ((r1).toInt ≠ 1 → (yX).toInt = (t).toInt) := pyX
  refine lv_pop hx hb dL_law_256 rfl ?_
  refine lv_aload_n hx hb dL_law_257 rfl (lv_at hl 1 rfl) ?_
  refine lv_aload_n hx hb dL_law_258 rfl (lv_at hl 3 rfl) ?_
  refine lv_iload_n hx hb dL_law_259 rfl (lv_at hl 0 rfl) ?_
  refine lv_iconst (v := 1) hx hb dL_law_260 (by decide +kernel) ?_
  refine lv_iadd hx hb dL_law_261 ?_
  refine va_sld hx hb hX hbl hbA hS (dk_inv2 (by omega)) dL_law_262 ?_
  as_aux_lemma =>
    refine dk_top (y := a1) ha1.symm ?_
    refine lw_calli hS (fun i _ => hoM i) hA (va_runV (As := [.int a1]) (rest := []) F (c_m_end l g D oM SM a1 t fM b_t J0 H.size) (cwV 1 hts (lw_V wB_1415 wB_1416 wB_1417 wB_297 wB_1414) rfl rfl rfl (by decide +kernel) ⟨Nat.le_of_ble_eq_true rfl, Nat.le_of_ble_eq_true rfl⟩) (dg_preV sM_0 rfl K ST hM hS (fun i _ => hoM i) hA) rfl rfl hl.1 rfl (lv_room (Nat.le_of_ble_eq_true rfl)) dL_law_263 ⟨Nat.le_of_ble_eq_true rfl, Nat.le_of_ble_eq_true rfl⟩) hP (lw_apM hO) (fun r2 S2 hw2 H locs hM hP hS => ?_)
    obtain ⟨I2, m2, w2_0, w2_1, w2_2, w2_3, -⟩ := hw2
    have ZB_2 : ZBM S2 := (ZBM.keep ZB m2 (dk_dq rfl) (dk_dq rfl) (dk_dq rfl) (dk_dq rfl) (dk_dq rfl))
    have ZS_2 : ZSM S2 := (ZSM.keep ZS m2 (dk_dq rfl))
    have ZW_2 : ZWM S2 := (ZWM.keep ZW m2 (dk_dq rfl) (dk_dq rfl) (dk_dq rfl) (dk_dq rfl))
    have ZD_2 : ZDM S2 := (ZDM.keep ZD m2 (dk_dq rfl))
    have br2 : 0 ≤ (r2).toInt ∧ (r2).toInt ≤ 1 := w2_0
    have qr2_0 : (r2).toInt = 1 ↔ (0 ≤ (a1).toInt ∧ (a1).toInt ≤ (t).toInt) := w2_1
    obtain ⟨yM, fyM, pyM⟩ := w2_2
    have pyM : ((r2).toInt = 1 → (yM).toInt = (a1).toInt) ∧ ((r2).toInt ≠ 1 → (yM).toInt = (t).toInt) := pyM
    obtain ⟨eq9, LW1⟩ := W_end LW0 w1_3 w2_3
    refine lv_pop hx hb dL_law_266 rfl ?_
    refine lv_goto (tgt := 1126) hx hb dL_law_267 (dk_dq rfl) ?_
    have hyy : yM = yX := Int32.toInt_inj.mp (by omega)
    have hct := dk_clN t
    have hcy := dk_clN yX
    exact kk S1 S2 H locs ls hP hM hS ⟨I1, Z1_1, Z2_1, Z3_1, Z4_1, Z6_1⟩ ⟨I2, ZB_2, ZS_2, ZW_2, ZD_2⟩ ⟨yX, fyX, (fyM).trans (by rw [hyy]), fun j hj => by rw [(m1.2 2 _ sX_2 (dk_dq rfl)).1, (m2.2 1 _ sM_1 (dk_dq rfl)).1]; exact hBY j (by omega)⟩ ⟨_, _, LW1⟩ hl
set_option maxHeartbeats 8000000 in
set_option maxRecDepth 100000 in
theorem law_case_2 {p : Program} {e : Env} {s : State} {m : MethodId} {below : List Frame} {meth : Method} {c : Code} (l : Launch) {b L : Nat} {xs : Nat → Int32} {g : Nat → ClassId} {D : va_G} {A : Nat → Prop} {oX oM : Nat} (C : law_St p s m meth c b L xs g D A) (ST : dk_ST A s s.heap) (hO : oX + 380 ≤ oM) (hoX : ∀ i, A (oX + i)) (hoM : ∀ i, A (oM + i)) {H : Heap} {locs : List Loc} {ls : Array Slot} {SX SM : dg_S} (hP : va_P D vwCl (dg_w g shX oX rfX SX) H) (hM : va_P D vwCl (dg_w g shM oM rfM SM) H) (hS : va_S A s.heap H locs) (IX : law_X oX SX) (IM : law_M oM SM) (IT : law_T SX SM) (IL : law_L oX SX SM) {x : Int32} (hx0 : 0 ≤ x.toInt) (hxL : x.toInt + 6 ≤ L) (hL : L ≤ 3072) (hl : lv_has ls 4 [(3, .int x), (2, .ref (oM + 0)), (1, .ref (oX + 0)), (0, .ref b)])
    (kk : ∀ (SX SM : dg_S) (H : Heap) (locs : List Loc) (ls : Array Slot), va_P D vwCl (dg_w g shX oX rfX SX) H → va_P D vwCl (dg_w g shM oM rfM SM) H → va_S A s.heap H locs → law_X oX SX → law_M oM SM → law_T SX SM → law_L oX SX SM → lv_has ls 4 [(3, .int x), (2, .ref (oM + 0)), (1, .ref (oX + 0)), (0, .ref b)] → W p l e room_1 s m #[Value.ref b] below meth c H locs 431 78943 (lw_Z below #[Value.ref b] s) (F0 m 1126 ls [])) : W p l e room_1 s m #[Value.ref b] below meth c H locs 431 78943 (lw_Z below #[Value.ref b] s) (F0 m 270 ls []) := by
  obtain ⟨hx, hb, hr, hml, hown, hts, hX, hbl, hlocks, K, hA, hAi⟩ := C
  have hbA : ¬ A b := fun q => Nat.not_le.mpr hbl (hAi b q)
  have F : CallFix p m c cL_law 4 s #[Value.ref b] lw_tbl RL := ⟨hx, hb, hml, hown, hts⟩
  obtain ⟨I0, Z1, Z2, Z3, Z4, Z6⟩ := IX
  obtain ⟨J0, ZB, ZS, ZW, ZD⟩ := IM
  obtain ⟨t, fX, fM, hBY⟩ := IT
  obtain ⟨gD, gE, LW0⟩ := IL
  have hgD := LW0.2.2.2.1.1.1
  have hgE := LW0.2.2.2.1.1.2.1
  have hgne := LW0.2.2.2.1.1.2.2
  have fgD := LW0.2.2.2.1.2.1
  have fgE := LW0.2.2.2.1.2.2
  have b_t : 0 ≤ (t).toInt ∧ (t).toInt ≤ 1600 := dg_I.intb (lo := 0) (hi := 1600) I0 sX_1 (by decide +kernel) fX
  refine lv_aload_n hx hb dL_law_270 rfl (lv_at hl 2 rfl) ?_
  refine lw_calli hS (fun i _ => hoX i) hA (va_runV (As := []) (rest := []) F (c_d_mine l g D oX SX (SX.2.1 2) gD hgD fgD gE hgE fgE t fX b_t rfl hgne Z1 Z2 Z3 Z4 Z6 I0 H.size) (cwV 0 hts (lw_V wB_1419 wB_1420 wB_1421 wB_610 wB_1418) rfl rfl rfl (by decide +kernel) ⟨Nat.le_of_ble_eq_true rfl, Nat.le_of_ble_eq_true rfl⟩) (dg_preV sX_0 rfl K ST hP hS (fun i _ => hoX i) hA) rfl rfl hl.1 rfl (lv_room (Nat.le_of_ble_eq_true rfl)) dL_law_271 ⟨Nat.le_of_ble_eq_true rfl, Nat.le_of_ble_eq_true rfl⟩) hM (lw_apX hO) (fun r1 S1 hw1 H locs hP hM hS => ?_)
  obtain ⟨I1, m1, w1_0, w1_1, w1_2, w1_3, w1_4, w1_5, w1_6, w1_7, w1_8, w1_9, w1_10, w1_11, w1_12, -⟩ := hw1
  have Z1_1 : Z1X S1 := w1_8
  have Z2_1 : Z2X S1 := (Z2X.keep Z2 m1 (dk_dq rfl) (dk_dq rfl))
  have Z3_1 : Z3X oX S1 := w1_9
  have Z4_1 : Z4X S1 := w1_10
  have Z6_1 : Z6X S1 := w1_11
  have br1 : (-1) ≤ (r1).toInt ∧ (r1).toInt ≤ 80 := w1_0
  obtain ⟨yX, fyX, pyX⟩ := w1_1
  have pyX : (yX).toInt = 0 := pyX
  refine lv_pop hx hb dL_law_274 rfl ?_
  refine lv_aload_n hx hb dL_law_275 rfl (lv_at hl 1 rfl) ?_
  refine lw_calli hS (fun i _ => hoM i) hA (va_runV (As := []) (rest := []) F (c_m_mine l g D oM SM (SM.2.1 1) t fM b_t rfl ZB ZS ZW J0 H.size) (cwV 0 hts (lw_V wB_1423 wB_1424 wB_1425 wB_297 wB_1422) rfl rfl rfl (by decide +kernel) ⟨Nat.le_of_ble_eq_true rfl, Nat.le_of_ble_eq_true rfl⟩) (dg_preV sM_0 rfl K ST hM hS (fun i _ => hoM i) hA) rfl rfl hl.1 rfl (lv_room (Nat.le_of_ble_eq_true rfl)) dL_law_276 ⟨Nat.le_of_ble_eq_true rfl, Nat.le_of_ble_eq_true rfl⟩) hP (lw_apM hO) (fun r2 S2 hw2 H locs hM hP hS => ?_)
  obtain ⟨I2, m2, w2_0, w2_1, w2_2, w2_3, w2_4, w2_5, w2_6, w2_7, w2_8, w2_9, -⟩ := hw2
  have ZB_2 : ZBM S2 := w2_7
  have ZS_2 : ZSM S2 := w2_8
  have ZW_2 : ZWM S2 := w2_9
  have ZD_2 : ZDM S2 := (ZDM.keep ZD m2 (dk_dq rfl))
  have br2 : (-1) ≤ (r2).toInt ∧ (r2).toInt ≤ 80 := w2_0
  obtain ⟨yM, fyM, pyM⟩ := w2_1
  have pyM : (yM).toInt = 0 := pyM
  have eq9 := mine_eq w1_2 w2_2 hBY br1.1 br2.1
  have tX9 : (zI S1 1 1).toInt = 0 := by rw [← zI_eq fyX]; exact pyX
  have tM9 : (zI S2 0 1).toInt = 0 := by rw [← zI_eq fyM]; exact pyM
  obtain ⟨uD, uE, LW1⟩ := W_mine LW0 eq9 hBY tX9 tM9 ZB_2 I2 w1_3 w1_4 w2_3 w2_4 w1_6 w1_7 w2_6 w2_5 (by (repeat' apply And.intro) <;> decide) (by (repeat' apply And.intro) <;> decide)
  clear w1_2 w1_3 w1_4 w1_5 w1_6 w1_7 w1_8 w2_2 w2_3 w2_4 w2_5 w2_6 w2_7
  refine lv_pop hx hb dL_law_279 rfl ?_
  refine lv_goto (tgt := 1126) hx hb dL_law_280 (dk_dq rfl) ?_
  have hyy : yM = yX := Int32.toInt_inj.mp (by omega)
  have hct := dk_clN t
  have hcy := dk_clN yX
  exact kk S1 S2 H locs ls hP hM hS ⟨I1, Z1_1, Z2_1, Z3_1, Z4_1, Z6_1⟩ ⟨I2, ZB_2, ZS_2, ZW_2, ZD_2⟩ ⟨yX, fyX, (fyM).trans (by rw [hyy]), fun j hj => by rw [(m1.2 2 _ sX_2 (dk_dq rfl)).1, (m2.2 1 _ sM_1 (dk_dq rfl)).1]; exact hBY j (by omega)⟩ ⟨_, _, LW1⟩ hl
set_option maxHeartbeats 8000000 in
set_option maxRecDepth 100000 in
theorem law_case_3 {p : Program} {e : Env} {s : State} {m : MethodId} {below : List Frame} {meth : Method} {c : Code} (l : Launch) {b L : Nat} {xs : Nat → Int32} {g : Nat → ClassId} {D : va_G} {A : Nat → Prop} {oX oM : Nat} (C : law_St p s m meth c b L xs g D A) (ST : dk_ST A s s.heap) (hO : oX + 380 ≤ oM) (hoX : ∀ i, A (oX + i)) (hoM : ∀ i, A (oM + i)) {H : Heap} {locs : List Loc} {ls : Array Slot} {SX SM : dg_S} (hP : va_P D vwCl (dg_w g shX oX rfX SX) H) (hM : va_P D vwCl (dg_w g shM oM rfM SM) H) (hS : va_S A s.heap H locs) (IX : law_X oX SX) (IM : law_M oM SM) (IT : law_T SX SM) (IL : law_L oX SX SM) {x : Int32} (hx0 : 0 ≤ x.toInt) (hxL : x.toInt + 6 ≤ L) (hL : L ≤ 3072) (hl : lv_has ls 4 [(3, .int x), (2, .ref (oM + 0)), (1, .ref (oX + 0)), (0, .ref b)])
    (kk : ∀ (SX SM : dg_S) (H : Heap) (locs : List Loc) (ls : Array Slot), va_P D vwCl (dg_w g shX oX rfX SX) H → va_P D vwCl (dg_w g shM oM rfM SM) H → va_S A s.heap H locs → law_X oX SX → law_M oM SM → law_T SX SM → law_L oX SX SM → lv_has ls 4 [(3, .int x), (2, .ref (oM + 0)), (1, .ref (oX + 0)), (0, .ref b)] → W p l e room_1 s m #[Value.ref b] below meth c H locs 431 78943 (lw_Z below #[Value.ref b] s) (F0 m 1126 ls [])) : W p l e room_1 s m #[Value.ref b] below meth c H locs 431 78943 (lw_Z below #[Value.ref b] s) (F0 m 283 ls []) := by
  obtain ⟨hx, hb, hr, hml, hown, hts, hX, hbl, hlocks, K, hA, hAi⟩ := C
  have hbA : ¬ A b := fun q => Nat.not_le.mpr hbl (hAi b q)
  have F : CallFix p m c cL_law 4 s #[Value.ref b] lw_tbl RL := ⟨hx, hb, hml, hown, hts⟩
  obtain ⟨I0, Z1, Z2, Z3, Z4, Z6⟩ := IX
  obtain ⟨J0, ZB, ZS, ZW, ZD⟩ := IM
  obtain ⟨t, fX, fM, hBY⟩ := IT
  obtain ⟨gD, gE, LW0⟩ := IL
  have hgD := LW0.2.2.2.1.1.1
  have hgE := LW0.2.2.2.1.1.2.1
  have hgne := LW0.2.2.2.1.1.2.2
  have fgD := LW0.2.2.2.1.2.1
  have fgE := LW0.2.2.2.1.2.2
  have b_t : 0 ≤ (t).toInt ∧ (t).toInt ≤ 1600 := dg_I.intb (lo := 0) (hi := 1600) I0 sX_1 (by decide +kernel) fX
  have i1 : (x + 1).toInt = x.toInt + 1 := dk_addT2 rfl (by decide +kernel) (by omega)
  obtain ⟨a1, ha1⟩ : ∃ a, a = xs (x + 1).toNatClampNeg := ⟨_, rfl⟩
  refine lv_aload_n hx hb dL_law_283 rfl (lv_at hl 2 rfl) ?_
  refine lv_aload_n hx hb dL_law_284 rfl (lv_at hl 3 rfl) ?_
  refine lv_iload_n hx hb dL_law_285 rfl (lv_at hl 0 rfl) ?_
  refine lv_iconst (v := 1) hx hb dL_law_286 (by decide +kernel) ?_
  refine lv_iadd hx hb dL_law_287 ?_
  refine va_sld hx hb hX hbl hbA hS (dk_inv2 (by omega)) dL_law_288 ?_
  refine dk_top (y := a1) ha1.symm ?_
  refine lw_calli hS (fun i _ => hoX i) hA (va_runV (As := [.int a1]) (rest := []) F (c_d_fault l g D oX SX a1 Z1 Z2 Z3 Z4 Z6 I0 H.size) (cwV 1 hts (lw_V wB_1427 wB_1428 wB_1429 wB_610 wB_1426) rfl rfl rfl (by decide +kernel) ⟨Nat.le_of_ble_eq_true rfl, Nat.le_of_ble_eq_true rfl⟩) (dg_preV sX_0 rfl K ST hP hS (fun i _ => hoX i) hA) rfl rfl hl.1 rfl (lv_room (Nat.le_of_ble_eq_true rfl)) dL_law_289 ⟨Nat.le_of_ble_eq_true rfl, Nat.le_of_ble_eq_true rfl⟩) hM (lw_apX hO) (fun r1 S1 hw1 H locs hP hM hS => ?_)
  rw [hw1.1] at hP
  obtain ⟨-, w1_0, -⟩ := hw1
  refine lv_pop hx hb dL_law_292 rfl ?_
  refine lv_aload_n hx hb dL_law_293 rfl (lv_at hl 1 rfl) ?_
  refine lv_aload_n hx hb dL_law_294 rfl (lv_at hl 3 rfl) ?_
  refine lv_iload_n hx hb dL_law_295 rfl (lv_at hl 0 rfl) ?_
  refine lv_iconst (v := 1) hx hb dL_law_296 (by decide +kernel) ?_
  refine lv_iadd hx hb dL_law_297 ?_
  refine va_sld hx hb hX hbl hbA hS (dk_inv2 (by omega)) dL_law_298 ?_
  refine dk_top (y := a1) ha1.symm ?_
  refine lw_calli hS (fun i _ => hoM i) hA (va_runV (As := [.int a1]) (rest := []) F (c_m_fault l g D oM SM a1 J0 H.size) (cwV 1 hts (lw_V wB_1431 wB_1432 wB_1433 wB_297 wB_1430) rfl rfl rfl (by decide +kernel) ⟨Nat.le_of_ble_eq_true rfl, Nat.le_of_ble_eq_true rfl⟩) (dg_preV sM_0 rfl K ST hM hS (fun i _ => hoM i) hA) rfl rfl hl.1 rfl (lv_room (Nat.le_of_ble_eq_true rfl)) dL_law_299 ⟨Nat.le_of_ble_eq_true rfl, Nat.le_of_ble_eq_true rfl⟩) hP (lw_apM hO) (fun r2 S2 hw2 H locs hM hP hS => ?_)
  rw [hw2.1] at hM
  obtain ⟨-, w2_0, -⟩ := hw2
  have LW1 := LW0
  refine lv_pop hx hb dL_law_302 rfl ?_
  refine lv_goto (tgt := 1126) hx hb dL_law_303 (dk_dq rfl) ?_
  exact kk SX SM H locs ls hP hM hS ⟨I0, Z1, Z2, Z3, Z4, Z6⟩ ⟨J0, ZB, ZS, ZW, ZD⟩ ⟨t, fX, fM, fun j hj => by exact hBY j hj⟩ ⟨_, _, LW1⟩ hl
set_option maxHeartbeats 8000000 in
set_option maxRecDepth 100000 in
theorem law_case_4 {p : Program} {e : Env} {s : State} {m : MethodId} {below : List Frame} {meth : Method} {c : Code} (l : Launch) {b L : Nat} {xs : Nat → Int32} {g : Nat → ClassId} {D : va_G} {A : Nat → Prop} {oX oM : Nat} (C : law_St p s m meth c b L xs g D A) (ST : dk_ST A s s.heap) (hO : oX + 380 ≤ oM) (hoX : ∀ i, A (oX + i)) (hoM : ∀ i, A (oM + i)) {H : Heap} {locs : List Loc} {ls : Array Slot} {SX SM : dg_S} (hP : va_P D vwCl (dg_w g shX oX rfX SX) H) (hM : va_P D vwCl (dg_w g shM oM rfM SM) H) (hS : va_S A s.heap H locs) (IX : law_X oX SX) (IM : law_M oM SM) (IT : law_T SX SM) (IL : law_L oX SX SM) {x : Int32} (hx0 : 0 ≤ x.toInt) (hxL : x.toInt + 6 ≤ L) (hL : L ≤ 3072) (hl : lv_has ls 4 [(3, .int x), (2, .ref (oM + 0)), (1, .ref (oX + 0)), (0, .ref b)])
    (kk : ∀ (SX SM : dg_S) (H : Heap) (locs : List Loc) (ls : Array Slot), va_P D vwCl (dg_w g shX oX rfX SX) H → va_P D vwCl (dg_w g shM oM rfM SM) H → va_S A s.heap H locs → law_X oX SX → law_M oM SM → law_T SX SM → law_L oX SX SM → lv_has ls 4 [(3, .int x), (2, .ref (oM + 0)), (1, .ref (oX + 0)), (0, .ref b)] → W p l e room_1 s m #[Value.ref b] below meth c H locs 431 78943 (lw_Z below #[Value.ref b] s) (F0 m 1126 ls [])) : W p l e room_1 s m #[Value.ref b] below meth c H locs 431 78943 (lw_Z below #[Value.ref b] s) (F0 m 306 ls []) := by
  obtain ⟨hx, hb, hr, hml, hown, hts, hX, hbl, hlocks, K, hA, hAi⟩ := C
  have hbA : ¬ A b := fun q => Nat.not_le.mpr hbl (hAi b q)
  have F : CallFix p m c cL_law 4 s #[Value.ref b] lw_tbl RL := ⟨hx, hb, hml, hown, hts⟩
  obtain ⟨I0, Z1, Z2, Z3, Z4, Z6⟩ := IX
  obtain ⟨J0, ZB, ZS, ZW, ZD⟩ := IM
  obtain ⟨t, fX, fM, hBY⟩ := IT
  obtain ⟨gD, gE, LW0⟩ := IL
  have hgD := LW0.2.2.2.1.1.1
  have hgE := LW0.2.2.2.1.1.2.1
  have hgne := LW0.2.2.2.1.1.2.2
  have fgD := LW0.2.2.2.1.2.1
  have fgE := LW0.2.2.2.1.2.2
  have b_t : 0 ≤ (t).toInt ∧ (t).toInt ≤ 1600 := dg_I.intb (lo := 0) (hi := 1600) I0 sX_1 (by decide +kernel) fX
  have i1 : (x + 1).toInt = x.toInt + 1 := dk_addT2 rfl (by decide +kernel) (by omega)
  obtain ⟨a1, ha1⟩ : ∃ a, a = xs (x + 1).toNatClampNeg := ⟨_, rfl⟩
  refine lv_aload_n hx hb dL_law_306 rfl (lv_at hl 2 rfl) ?_
  refine lv_aload_n hx hb dL_law_307 rfl (lv_at hl 3 rfl) ?_
  refine lv_iload_n hx hb dL_law_308 rfl (lv_at hl 0 rfl) ?_
  refine lv_iconst (v := 1) hx hb dL_law_309 (by decide +kernel) ?_
  refine lv_iadd hx hb dL_law_310 ?_
  refine va_sld hx hb hX hbl hbA hS (dk_inv2 (by omega)) dL_law_311 ?_
  refine dk_top (y := a1) ha1.symm ?_
  refine lw_calli hS (fun i _ => hoX i) hA (va_runV (As := [.int a1]) (rest := []) F (c_d_has l g D oX SX a1 Z1 Z2 Z3 Z4 Z6 I0 H.size) (cwV 1 hts (lw_V wB_1435 wB_1436 wB_1437 wB_610 wB_1434) rfl rfl rfl (by decide +kernel) ⟨Nat.le_of_ble_eq_true rfl, Nat.le_of_ble_eq_true rfl⟩) (dg_preV sX_0 rfl K ST hP hS (fun i _ => hoX i) hA) rfl rfl hl.1 rfl (lv_room (Nat.le_of_ble_eq_true rfl)) dL_law_312 ⟨Nat.le_of_ble_eq_true rfl, Nat.le_of_ble_eq_true rfl⟩) hM (lw_apX hO) (fun r1 S1 hw1 H locs hP hM hS => ?_)
  obtain ⟨I1, m1, w1_0, w1_1, w1_2, -⟩ := hw1
  have Z1_1 : Z1X S1 := (Z1X.keep Z1 m1 (dk_dq rfl) (dk_dq rfl) (dk_dq rfl))
  have Z2_1 : Z2X S1 := w1_0
  have Z3_1 : Z3X oX S1 := w1_1
  have Z4_1 : Z4X S1 := (Z4X.keep Z4 m1 (dg_FG.sm m1 (dk_dq rfl)) (dk_dq rfl) (dk_dq rfl))
  have Z6_1 : Z6X S1 := (Z6X.keep Z6 m1 (dg_FG.sm m1 (dk_dq rfl)))
  have fX_1 : S1.1 1 1 = .int t := (m1.1 1 1 _ sX_1 (dk_dq rfl)).trans fX
  refine lv_pop hx hb dL_law_315 rfl ?_
  refine lv_aload_n hx hb dL_law_316 rfl (lv_at hl 1 rfl) ?_
  refine lv_aload_n hx hb dL_law_317 rfl (lv_at hl 3 rfl) ?_
  refine lv_iload_n hx hb dL_law_318 rfl (lv_at hl 0 rfl) ?_
  refine lv_iconst (v := 1) hx hb dL_law_319 (by decide +kernel) ?_
  refine lv_iadd hx hb dL_law_320 ?_
  refine va_sld hx hb hX hbl hbA hS (dk_inv2 (by omega)) dL_law_321 ?_
  refine dk_top (y := a1) ha1.symm ?_
  refine lw_calli hS (fun i _ => hoM i) hA (va_runV (As := [.int a1]) (rest := []) F (c_m_has l g D oM SM a1 ZB J0 H.size) (cwV 1 hts (lw_V wB_1439 wB_1440 wB_1441 wB_297 wB_1438) rfl rfl rfl (by decide +kernel) ⟨Nat.le_of_ble_eq_true rfl, Nat.le_of_ble_eq_true rfl⟩) (dg_preV sM_0 rfl K ST hM hS (fun i _ => hoM i) hA) rfl rfl hl.1 rfl (lv_room (Nat.le_of_ble_eq_true rfl)) dL_law_322 ⟨Nat.le_of_ble_eq_true rfl, Nat.le_of_ble_eq_true rfl⟩) hP (lw_apM hO) (fun r2 S2 hw2 H locs hM hP hS => ?_)
  obtain ⟨I2, m2, w2_0, -⟩ := hw2
  have ZB_2 : ZBM S2 := (ZBM.keep ZB m2 (dk_dq rfl) (dk_dq rfl) (dk_dq rfl) (dk_dq rfl) (dk_dq rfl))
  have ZS_2 : ZSM S2 := (ZSM.keep ZS m2 (dk_dq rfl))
  have ZW_2 : ZWM S2 := (ZWM.keep ZW m2 (dk_dq rfl) (dk_dq rfl) (dk_dq rfl) (dk_dq rfl))
  have ZD_2 : ZDM S2 := (ZDM.keep ZD m2 (dk_dq rfl))
  have fM_2 : S2.1 0 1 = .int t := (m2.1 0 1 _ sM_0 (dk_dq rfl)).trans fM
  obtain ⟨eq9, LW1⟩ := W_has LW0 m1 m2 (by (repeat' apply And.intro) <;> decide) w1_2 w2_0
  refine lv_pop hx hb dL_law_325 rfl ?_
  refine lv_goto (tgt := 1126) hx hb dL_law_326 (dk_dq rfl) ?_
  exact kk S1 S2 H locs ls hP hM hS ⟨I1, Z1_1, Z2_1, Z3_1, Z4_1, Z6_1⟩ ⟨I2, ZB_2, ZS_2, ZW_2, ZD_2⟩ ⟨t, fX_1, fM_2, fun j hj => by rw [(m1.2 2 _ sX_2 (dk_dq rfl)).1, (m2.2 1 _ sM_1 (dk_dq rfl)).1]; exact hBY j hj⟩ ⟨_, _, LW1⟩ hl
set_option maxHeartbeats 8000000 in
set_option maxRecDepth 100000 in
theorem law_case_5 {p : Program} {e : Env} {s : State} {m : MethodId} {below : List Frame} {meth : Method} {c : Code} (l : Launch) {b L : Nat} {xs : Nat → Int32} {g : Nat → ClassId} {D : va_G} {A : Nat → Prop} {oX oM : Nat} (C : law_St p s m meth c b L xs g D A) (ST : dk_ST A s s.heap) (hO : oX + 380 ≤ oM) (hoX : ∀ i, A (oX + i)) (hoM : ∀ i, A (oM + i)) {H : Heap} {locs : List Loc} {ls : Array Slot} {SX SM : dg_S} (hP : va_P D vwCl (dg_w g shX oX rfX SX) H) (hM : va_P D vwCl (dg_w g shM oM rfM SM) H) (hS : va_S A s.heap H locs) (IX : law_X oX SX) (IM : law_M oM SM) (IT : law_T SX SM) (IL : law_L oX SX SM) {x : Int32} (hx0 : 0 ≤ x.toInt) (hxL : x.toInt + 6 ≤ L) (hL : L ≤ 3072) (hl : lv_has ls 4 [(3, .int x), (2, .ref (oM + 0)), (1, .ref (oX + 0)), (0, .ref b)])
    (kk : ∀ (SX SM : dg_S) (H : Heap) (locs : List Loc) (ls : Array Slot), va_P D vwCl (dg_w g shX oX rfX SX) H → va_P D vwCl (dg_w g shM oM rfM SM) H → va_S A s.heap H locs → law_X oX SX → law_M oM SM → law_T SX SM → law_L oX SX SM → lv_has ls 4 [(3, .int x), (2, .ref (oM + 0)), (1, .ref (oX + 0)), (0, .ref b)] → W p l e room_1 s m #[Value.ref b] below meth c H locs 431 78943 (lw_Z below #[Value.ref b] s) (F0 m 1126 ls [])) : W p l e room_1 s m #[Value.ref b] below meth c H locs 431 78943 (lw_Z below #[Value.ref b] s) (F0 m 329 ls []) := by
  obtain ⟨hx, hb, hr, hml, hown, hts, hX, hbl, hlocks, K, hA, hAi⟩ := C
  have hbA : ¬ A b := fun q => Nat.not_le.mpr hbl (hAi b q)
  have F : CallFix p m c cL_law 4 s #[Value.ref b] lw_tbl RL := ⟨hx, hb, hml, hown, hts⟩
  obtain ⟨I0, Z1, Z2, Z3, Z4, Z6⟩ := IX
  obtain ⟨J0, ZB, ZS, ZW, ZD⟩ := IM
  obtain ⟨t, fX, fM, hBY⟩ := IT
  obtain ⟨gD, gE, LW0⟩ := IL
  have hgD := LW0.2.2.2.1.1.1
  have hgE := LW0.2.2.2.1.1.2.1
  have hgne := LW0.2.2.2.1.1.2.2
  have fgD := LW0.2.2.2.1.2.1
  have fgE := LW0.2.2.2.1.2.2
  have b_t : 0 ≤ (t).toInt ∧ (t).toInt ≤ 1600 := dg_I.intb (lo := 0) (hi := 1600) I0 sX_1 (by decide +kernel) fX
  have i1 : (x + 1).toInt = x.toInt + 1 := dk_addT2 rfl (by decide +kernel) (by omega)
  obtain ⟨a1, ha1⟩ : ∃ a, a = xs (x + 1).toNatClampNeg := ⟨_, rfl⟩
  have i2 : (x + 2).toInt = x.toInt + 2 := dk_addT2 rfl (by decide +kernel) (by omega)
  obtain ⟨a2, ha2⟩ : ∃ a, a = xs (x + 2).toNatClampNeg := ⟨_, rfl⟩
  have i3 : (x + 3).toInt = x.toInt + 3 := dk_addT2 rfl (by decide +kernel) (by omega)
  obtain ⟨a3, ha3⟩ : ∃ a, a = xs (x + 3).toNatClampNeg := ⟨_, rfl⟩
  refine lv_aload_n hx hb dL_law_329 rfl (lv_at hl 2 rfl) ?_
  refine lv_aload_n hx hb dL_law_330 rfl (lv_at hl 3 rfl) ?_
  refine lv_iload_n hx hb dL_law_331 rfl (lv_at hl 0 rfl) ?_
  refine lv_iconst (v := 1) hx hb dL_law_332 (by decide +kernel) ?_
  refine lv_iadd hx hb dL_law_333 ?_
  refine va_sld hx hb hX hbl hbA hS (dk_inv2 (by omega)) dL_law_334 ?_
  refine dk_top (y := a1) ha1.symm ?_
  refine lv_aload_n hx hb dL_law_335 rfl (lv_at hl 3 rfl) ?_
  refine lv_iload_n hx hb dL_law_336 rfl (lv_at hl 0 rfl) ?_
  refine lv_iconst (v := 2) hx hb dL_law_337 (by decide +kernel) ?_
  refine lv_iadd hx hb dL_law_338 ?_
  refine va_sld hx hb hX hbl hbA hS (dk_inv2 (by omega)) dL_law_339 ?_
  refine dk_top (y := a2) ha2.symm ?_
  refine lv_aload_n hx hb dL_law_340 rfl (lv_at hl 3 rfl) ?_
  refine lv_iload_n hx hb dL_law_341 rfl (lv_at hl 0 rfl) ?_
  refine lv_iconst (v := 3) hx hb dL_law_342 (by decide +kernel) ?_
  refine lv_iadd hx hb dL_law_343 ?_
  refine va_sld hx hb hX hbl hbA hS (dk_inv2 (by omega)) dL_law_344 ?_
  refine dk_top (y := a3) ha3.symm ?_
  refine lw_calli hS (fun i _ => hoX i) hA (va_runV (As := [.int a1, .int a2, .int a3]) (rest := []) F (c_d_letter l g D oX SX a1 a2 a3 Z1 Z2 Z3 Z4 Z6 I0 H.size) (cwV 3 hts (lw_V wB_1443 wB_1444 wB_1445 wB_610 wB_1442) rfl rfl rfl (by decide +kernel) ⟨Nat.le_of_ble_eq_true rfl, Nat.le_of_ble_eq_true rfl⟩) (dg_preV sX_0 rfl K ST hP hS (fun i _ => hoX i) hA) rfl rfl hl.1 rfl (lv_room (Nat.le_of_ble_eq_true rfl)) dL_law_345 ⟨Nat.le_of_ble_eq_true rfl, Nat.le_of_ble_eq_true rfl⟩) hM (lw_apX hO) (fun r1 S1 hw1 H locs hP hM hS => ?_)
  rw [hw1.1] at hP
  obtain ⟨-, w1_0, -⟩ := hw1
  as_aux_lemma =>
    refine lv_pop hx hb dL_law_348 rfl ?_
    refine lv_aload_n hx hb dL_law_349 rfl (lv_at hl 1 rfl) ?_
    refine lv_aload_n hx hb dL_law_350 rfl (lv_at hl 3 rfl) ?_
    refine lv_iload_n hx hb dL_law_351 rfl (lv_at hl 0 rfl) ?_
    refine lv_iconst (v := 1) hx hb dL_law_352 (by decide +kernel) ?_
    refine lv_iadd hx hb dL_law_353 ?_
    refine va_sld hx hb hX hbl hbA hS (dk_inv2 (by omega)) dL_law_354 ?_
    refine dk_top (y := a1) ha1.symm ?_
    refine lv_aload_n hx hb dL_law_355 rfl (lv_at hl 3 rfl) ?_
    refine lv_iload_n hx hb dL_law_356 rfl (lv_at hl 0 rfl) ?_
    refine lv_iconst (v := 2) hx hb dL_law_357 (by decide +kernel) ?_
    refine lv_iadd hx hb dL_law_358 ?_
    refine va_sld hx hb hX hbl hbA hS (dk_inv2 (by omega)) dL_law_359 ?_
    refine dk_top (y := a2) ha2.symm ?_
    refine lv_aload_n hx hb dL_law_360 rfl (lv_at hl 3 rfl) ?_
    refine lv_iload_n hx hb dL_law_361 rfl (lv_at hl 0 rfl) ?_
    refine lv_iconst (v := 3) hx hb dL_law_362 (by decide +kernel) ?_
    refine lv_iadd hx hb dL_law_363 ?_
    refine va_sld hx hb hX hbl hbA hS (dk_inv2 (by omega)) dL_law_364 ?_
    refine dk_top (y := a3) ha3.symm ?_
    refine lw_calli hS (fun i _ => hoM i) hA (va_runV (As := [.int a1, .int a2, .int a3]) (rest := []) F (c_m_letter l g D oM SM a1 a2 a3 J0 H.size) (cwV 3 hts (lw_V wB_1447 wB_1448 wB_1449 wB_297 wB_1446) rfl rfl rfl (by decide +kernel) ⟨Nat.le_of_ble_eq_true rfl, Nat.le_of_ble_eq_true rfl⟩) (dg_preV sM_0 rfl K ST hM hS (fun i _ => hoM i) hA) rfl rfl hl.1 rfl (lv_room (Nat.le_of_ble_eq_true rfl)) dL_law_365 ⟨Nat.le_of_ble_eq_true rfl, Nat.le_of_ble_eq_true rfl⟩) hP (lw_apM hO) (fun r2 S2 hw2 H locs hM hP hS => ?_)
    rw [hw2.1] at hM
    obtain ⟨-, w2_0, -⟩ := hw2
    have LW1 := LW0
    refine lv_pop hx hb dL_law_368 rfl ?_
    refine lv_goto (tgt := 1126) hx hb dL_law_369 (dk_dq rfl) ?_
    exact kk SX SM H locs ls hP hM hS ⟨I0, Z1, Z2, Z3, Z4, Z6⟩ ⟨J0, ZB, ZS, ZW, ZD⟩ ⟨t, fX, fM, fun j hj => by exact hBY j hj⟩ ⟨_, _, LW1⟩ hl
set_option maxHeartbeats 8000000 in
set_option maxRecDepth 100000 in
theorem law_case_6 {p : Program} {e : Env} {s : State} {m : MethodId} {below : List Frame} {meth : Method} {c : Code} (l : Launch) {b L : Nat} {xs : Nat → Int32} {g : Nat → ClassId} {D : va_G} {A : Nat → Prop} {oX oM : Nat} (C : law_St p s m meth c b L xs g D A) (ST : dk_ST A s s.heap) (hO : oX + 380 ≤ oM) (hoX : ∀ i, A (oX + i)) (hoM : ∀ i, A (oM + i)) {H : Heap} {locs : List Loc} {ls : Array Slot} {SX SM : dg_S} (hP : va_P D vwCl (dg_w g shX oX rfX SX) H) (hM : va_P D vwCl (dg_w g shM oM rfM SM) H) (hS : va_S A s.heap H locs) (IX : law_X oX SX) (IM : law_M oM SM) (IT : law_T SX SM) (IL : law_L oX SX SM) {x : Int32} (hx0 : 0 ≤ x.toInt) (hxL : x.toInt + 6 ≤ L) (hL : L ≤ 3072) (hl : lv_has ls 4 [(3, .int x), (2, .ref (oM + 0)), (1, .ref (oX + 0)), (0, .ref b)])
    (kk : ∀ (SX SM : dg_S) (H : Heap) (locs : List Loc) (ls : Array Slot), va_P D vwCl (dg_w g shX oX rfX SX) H → va_P D vwCl (dg_w g shM oM rfM SM) H → va_S A s.heap H locs → law_X oX SX → law_M oM SM → law_T SX SM → law_L oX SX SM → lv_has ls 4 [(3, .int x), (2, .ref (oM + 0)), (1, .ref (oX + 0)), (0, .ref b)] → W p l e room_1 s m #[Value.ref b] below meth c H locs 431 78943 (lw_Z below #[Value.ref b] s) (F0 m 1126 ls [])) : W p l e room_1 s m #[Value.ref b] below meth c H locs 431 78943 (lw_Z below #[Value.ref b] s) (F0 m 372 ls []) := by
  obtain ⟨hx, hb, hr, hml, hown, hts, hX, hbl, hlocks, K, hA, hAi⟩ := C
  have hbA : ¬ A b := fun q => Nat.not_le.mpr hbl (hAi b q)
  have F : CallFix p m c cL_law 4 s #[Value.ref b] lw_tbl RL := ⟨hx, hb, hml, hown, hts⟩
  obtain ⟨I0, Z1, Z2, Z3, Z4, Z6⟩ := IX
  obtain ⟨J0, ZB, ZS, ZW, ZD⟩ := IM
  obtain ⟨t, fX, fM, hBY⟩ := IT
  obtain ⟨gD, gE, LW0⟩ := IL
  have hgD := LW0.2.2.2.1.1.1
  have hgE := LW0.2.2.2.1.1.2.1
  have hgne := LW0.2.2.2.1.1.2.2
  have fgD := LW0.2.2.2.1.2.1
  have fgE := LW0.2.2.2.1.2.2
  have b_t : 0 ≤ (t).toInt ∧ (t).toInt ≤ 1600 := dg_I.intb (lo := 0) (hi := 1600) I0 sX_1 (by decide +kernel) fX
  have i1 : (x + 1).toInt = x.toInt + 1 := dk_addT2 rfl (by decide +kernel) (by omega)
  obtain ⟨a1, ha1⟩ : ∃ a, a = xs (x + 1).toNatClampNeg := ⟨_, rfl⟩
  have i2 : (x + 2).toInt = x.toInt + 2 := dk_addT2 rfl (by decide +kernel) (by omega)
  obtain ⟨a2, ha2⟩ : ∃ a, a = xs (x + 2).toNatClampNeg := ⟨_, rfl⟩
  have i3 : (x + 3).toInt = x.toInt + 3 := dk_addT2 rfl (by decide +kernel) (by omega)
  obtain ⟨a3, ha3⟩ : ∃ a, a = xs (x + 3).toNatClampNeg := ⟨_, rfl⟩
  refine lv_aload_n hx hb dL_law_372 rfl (lv_at hl 2 rfl) ?_
  refine lv_aload_n hx hb dL_law_373 rfl (lv_at hl 3 rfl) ?_
  refine lv_iload_n hx hb dL_law_374 rfl (lv_at hl 0 rfl) ?_
  refine lv_iconst (v := 1) hx hb dL_law_375 (by decide +kernel) ?_
  refine lv_iadd hx hb dL_law_376 ?_
  refine va_sld hx hb hX hbl hbA hS (dk_inv2 (by omega)) dL_law_377 ?_
  refine dk_top (y := a1) ha1.symm ?_
  refine lv_aload_n hx hb dL_law_378 rfl (lv_at hl 3 rfl) ?_
  refine lv_iload_n hx hb dL_law_379 rfl (lv_at hl 0 rfl) ?_
  refine lv_iconst (v := 2) hx hb dL_law_380 (by decide +kernel) ?_
  refine lv_iadd hx hb dL_law_381 ?_
  refine va_sld hx hb hX hbl hbA hS (dk_inv2 (by omega)) dL_law_382 ?_
  refine dk_top (y := a2) ha2.symm ?_
  refine lv_aload_n hx hb dL_law_383 rfl (lv_at hl 3 rfl) ?_
  refine lv_iload_n hx hb dL_law_384 rfl (lv_at hl 0 rfl) ?_
  refine lv_iconst (v := 3) hx hb dL_law_385 (by decide +kernel) ?_
  refine lv_iadd hx hb dL_law_386 ?_
  refine va_sld hx hb hX hbl hbA hS (dk_inv2 (by omega)) dL_law_387 ?_
  refine dk_top (y := a3) ha3.symm ?_
  refine lw_calli hS (fun i _ => hoX i) hA (va_runV (As := [.int a1, .int a2, .int a3]) (rest := []) F (c_d_cell l g D oX SX a1 a2 a3 Z1 Z2 Z3 Z4 Z6 I0 H.size) (cwV 3 hts (lw_V wB_1451 wB_1452 wB_1453 wB_610 wB_1450) rfl rfl rfl (by decide +kernel) ⟨Nat.le_of_ble_eq_true rfl, Nat.le_of_ble_eq_true rfl⟩) (dg_preV sX_0 rfl K ST hP hS (fun i _ => hoX i) hA) rfl rfl hl.1 rfl (lv_room (Nat.le_of_ble_eq_true rfl)) dL_law_388 ⟨Nat.le_of_ble_eq_true rfl, Nat.le_of_ble_eq_true rfl⟩) hM (lw_apX hO) (fun r1 S1 hw1 H locs hP hM hS => ?_)
  obtain ⟨I1, m1, w1_0, w1_1, w1_2, -⟩ := hw1
  have Z1_1 : Z1X S1 := (Z1X.keep Z1 m1 (dk_dq rfl) (dk_dq rfl) (dk_dq rfl))
  have Z2_1 : Z2X S1 := w1_0
  have Z3_1 : Z3X oX S1 := w1_1
  have Z4_1 : Z4X S1 := (Z4X.keep Z4 m1 (dg_FG.sm m1 (dk_dq rfl)) (dk_dq rfl) (dk_dq rfl))
  have Z6_1 : Z6X S1 := (Z6X.keep Z6 m1 (dg_FG.sm m1 (dk_dq rfl)))
  have fX_1 : S1.1 1 1 = .int t := (m1.1 1 1 _ sX_1 (dk_dq rfl)).trans fX
  as_aux_lemma =>
    refine lv_pop hx hb dL_law_391 rfl ?_
    refine lv_aload_n hx hb dL_law_392 rfl (lv_at hl 1 rfl) ?_
    refine lv_aload_n hx hb dL_law_393 rfl (lv_at hl 3 rfl) ?_
    refine lv_iload_n hx hb dL_law_394 rfl (lv_at hl 0 rfl) ?_
    refine lv_iconst (v := 1) hx hb dL_law_395 (by decide +kernel) ?_
    refine lv_iadd hx hb dL_law_396 ?_
    refine va_sld hx hb hX hbl hbA hS (dk_inv2 (by omega)) dL_law_397 ?_
    refine dk_top (y := a1) ha1.symm ?_
    refine lv_aload_n hx hb dL_law_398 rfl (lv_at hl 3 rfl) ?_
    refine lv_iload_n hx hb dL_law_399 rfl (lv_at hl 0 rfl) ?_
    refine lv_iconst (v := 2) hx hb dL_law_400 (by decide +kernel) ?_
    refine lv_iadd hx hb dL_law_401 ?_
    refine va_sld hx hb hX hbl hbA hS (dk_inv2 (by omega)) dL_law_402 ?_
    refine dk_top (y := a2) ha2.symm ?_
    refine lv_aload_n hx hb dL_law_403 rfl (lv_at hl 3 rfl) ?_
    refine lv_iload_n hx hb dL_law_404 rfl (lv_at hl 0 rfl) ?_
    refine lv_iconst (v := 3) hx hb dL_law_405 (by decide +kernel) ?_
    refine lv_iadd hx hb dL_law_406 ?_
    refine va_sld hx hb hX hbl hbA hS (dk_inv2 (by omega)) dL_law_407 ?_
    refine dk_top (y := a3) ha3.symm ?_
    refine lw_calli hS (fun i _ => hoM i) hA (va_runV (As := [.int a1, .int a2, .int a3]) (rest := []) F (c_m_cell l g D oM SM a1 a2 a3 ZB ZW J0 H.size) (cwV 3 hts (lw_V wB_1455 wB_1456 wB_1457 wB_297 wB_1454) rfl rfl rfl (by decide +kernel) ⟨Nat.le_of_ble_eq_true rfl, Nat.le_of_ble_eq_true rfl⟩) (dg_preV sM_0 rfl K ST hM hS (fun i _ => hoM i) hA) rfl rfl hl.1 rfl (lv_room (Nat.le_of_ble_eq_true rfl)) dL_law_408 ⟨Nat.le_of_ble_eq_true rfl, Nat.le_of_ble_eq_true rfl⟩) hP (lw_apM hO) (fun r2 S2 hw2 H locs hM hP hS => ?_)
    obtain ⟨I2, m2, w2_0, -⟩ := hw2
    have ZB_2 : ZBM S2 := (ZBM.keep ZB m2 (dk_dq rfl) (dk_dq rfl) (dk_dq rfl) (dk_dq rfl) (dk_dq rfl))
    have ZS_2 : ZSM S2 := (ZSM.keep ZS m2 (dk_dq rfl))
    have ZW_2 : ZWM S2 := (ZWM.keep ZW m2 (dk_dq rfl) (dk_dq rfl) (dk_dq rfl) (dk_dq rfl))
    have ZD_2 : ZDM S2 := (ZDM.keep ZD m2 (dk_dq rfl))
    have fM_2 : S2.1 0 1 = .int t := (m2.1 0 1 _ sM_0 (dk_dq rfl)).trans fM
    obtain ⟨eq9, LW1⟩ := W_cell LW0 m1 m2 (by (repeat' apply And.intro) <;> decide) w1_2 w2_0
    refine lv_pop hx hb dL_law_411 rfl ?_
    refine lv_goto (tgt := 1126) hx hb dL_law_412 (dk_dq rfl) ?_
    exact kk S1 S2 H locs ls hP hM hS ⟨I1, Z1_1, Z2_1, Z3_1, Z4_1, Z6_1⟩ ⟨I2, ZB_2, ZS_2, ZW_2, ZD_2⟩ ⟨t, fX_1, fM_2, fun j hj => by rw [(m1.2 2 _ sX_2 (dk_dq rfl)).1, (m2.2 1 _ sM_1 (dk_dq rfl)).1]; exact hBY j hj⟩ ⟨_, _, LW1⟩ hl
set_option maxHeartbeats 8000000 in
set_option maxRecDepth 100000 in
theorem law_case_7 {p : Program} {e : Env} {s : State} {m : MethodId} {below : List Frame} {meth : Method} {c : Code} (l : Launch) {b L : Nat} {xs : Nat → Int32} {g : Nat → ClassId} {D : va_G} {A : Nat → Prop} {oX oM : Nat} (C : law_St p s m meth c b L xs g D A) (ST : dk_ST A s s.heap) (hO : oX + 380 ≤ oM) (hoX : ∀ i, A (oX + i)) (hoM : ∀ i, A (oM + i)) {H : Heap} {locs : List Loc} {ls : Array Slot} {SX SM : dg_S} (hP : va_P D vwCl (dg_w g shX oX rfX SX) H) (hM : va_P D vwCl (dg_w g shM oM rfM SM) H) (hS : va_S A s.heap H locs) (IX : law_X oX SX) (IM : law_M oM SM) (IT : law_T SX SM) (IL : law_L oX SX SM) {x : Int32} (hx0 : 0 ≤ x.toInt) (hxL : x.toInt + 6 ≤ L) (hL : L ≤ 3072) (hl : lv_has ls 4 [(3, .int x), (2, .ref (oM + 0)), (1, .ref (oX + 0)), (0, .ref b)])
    (kk : ∀ (SX SM : dg_S) (H : Heap) (locs : List Loc) (ls : Array Slot), va_P D vwCl (dg_w g shX oX rfX SX) H → va_P D vwCl (dg_w g shM oM rfM SM) H → va_S A s.heap H locs → law_X oX SX → law_M oM SM → law_T SX SM → law_L oX SX SM → lv_has ls 4 [(3, .int x), (2, .ref (oM + 0)), (1, .ref (oX + 0)), (0, .ref b)] → W p l e room_1 s m #[Value.ref b] below meth c H locs 431 78943 (lw_Z below #[Value.ref b] s) (F0 m 1126 ls [])) : W p l e room_1 s m #[Value.ref b] below meth c H locs 431 78943 (lw_Z below #[Value.ref b] s) (F0 m 415 ls []) := by
  obtain ⟨hx, hb, hr, hml, hown, hts, hX, hbl, hlocks, K, hA, hAi⟩ := C
  have hbA : ¬ A b := fun q => Nat.not_le.mpr hbl (hAi b q)
  have F : CallFix p m c cL_law 4 s #[Value.ref b] lw_tbl RL := ⟨hx, hb, hml, hown, hts⟩
  obtain ⟨I0, Z1, Z2, Z3, Z4, Z6⟩ := IX
  obtain ⟨J0, ZB, ZS, ZW, ZD⟩ := IM
  obtain ⟨t, fX, fM, hBY⟩ := IT
  obtain ⟨gD, gE, LW0⟩ := IL
  have hgD := LW0.2.2.2.1.1.1
  have hgE := LW0.2.2.2.1.1.2.1
  have hgne := LW0.2.2.2.1.1.2.2
  have fgD := LW0.2.2.2.1.2.1
  have fgE := LW0.2.2.2.1.2.2
  have b_t : 0 ≤ (t).toInt ∧ (t).toInt ≤ 1600 := dg_I.intb (lo := 0) (hi := 1600) I0 sX_1 (by decide +kernel) fX
  have i1 : (x + 1).toInt = x.toInt + 1 := dk_addT2 rfl (by decide +kernel) (by omega)
  obtain ⟨a1, ha1⟩ : ∃ a, a = xs (x + 1).toNatClampNeg := ⟨_, rfl⟩
  refine lv_aload_n hx hb dL_law_415 rfl (lv_at hl 2 rfl) ?_
  refine lv_aload_n hx hb dL_law_416 rfl (lv_at hl 3 rfl) ?_
  refine lv_iload_n hx hb dL_law_417 rfl (lv_at hl 0 rfl) ?_
  refine lv_iconst (v := 1) hx hb dL_law_418 (by decide +kernel) ?_
  refine lv_iadd hx hb dL_law_419 ?_
  refine va_sld hx hb hX hbl hbA hS (dk_inv2 (by omega)) dL_law_420 ?_
  refine dk_top (y := a1) ha1.symm ?_
  refine lw_calli hS (fun i _ => hoX i) hA (va_runV (As := [.int a1]) (rest := []) F (c_d_hurt l g D oX SX a1 Z1 Z2 Z3 Z4 Z6 I0 H.size) (cwV 1 hts (lw_V wB_1459 wB_1460 wB_1461 wB_610 wB_1458) rfl rfl rfl (by decide +kernel) ⟨Nat.le_of_ble_eq_true rfl, Nat.le_of_ble_eq_true rfl⟩) (dg_preV sX_0 rfl K ST hP hS (fun i _ => hoX i) hA) rfl rfl hl.1 rfl (lv_room (Nat.le_of_ble_eq_true rfl)) dL_law_421 ⟨Nat.le_of_ble_eq_true rfl, Nat.le_of_ble_eq_true rfl⟩) hM (lw_apX hO) (fun r1 S1 hw1 H locs hP hM hS => ?_)
  rw [hw1.1] at hP
  obtain ⟨-, w1_0, -⟩ := hw1
  refine lv_pop hx hb dL_law_424 rfl ?_
  refine lv_aload_n hx hb dL_law_425 rfl (lv_at hl 1 rfl) ?_
  refine lv_aload_n hx hb dL_law_426 rfl (lv_at hl 3 rfl) ?_
  refine lv_iload_n hx hb dL_law_427 rfl (lv_at hl 0 rfl) ?_
  refine lv_iconst (v := 1) hx hb dL_law_428 (by decide +kernel) ?_
  refine lv_iadd hx hb dL_law_429 ?_
  refine va_sld hx hb hX hbl hbA hS (dk_inv2 (by omega)) dL_law_430 ?_
  refine dk_top (y := a1) ha1.symm ?_
  refine lw_calli hS (fun i _ => hoM i) hA (va_runV (As := [.int a1]) (rest := []) F (c_m_hurt l g D oM SM a1 J0 H.size) (cwV 1 hts (lw_V wB_1463 wB_1464 wB_1465 wB_297 wB_1462) rfl rfl rfl (by decide +kernel) ⟨Nat.le_of_ble_eq_true rfl, Nat.le_of_ble_eq_true rfl⟩) (dg_preV sM_0 rfl K ST hM hS (fun i _ => hoM i) hA) rfl rfl hl.1 rfl (lv_room (Nat.le_of_ble_eq_true rfl)) dL_law_431 ⟨Nat.le_of_ble_eq_true rfl, Nat.le_of_ble_eq_true rfl⟩) hP (lw_apM hO) (fun r2 S2 hw2 H locs hM hP hS => ?_)
  rw [hw2.1] at hM
  obtain ⟨-, w2_0, w2_1, -⟩ := hw2
  have br2 : (-1) ≤ (r2).toInt ∧ (r2).toInt ≤ 1 := w2_0
  have eq9 := E_hurt LW0 w1_0 w2_1
  have LW1 := LW0
  refine lv_pop hx hb dL_law_434 rfl ?_
  refine lv_goto (tgt := 1126) hx hb dL_law_435 (dk_dq rfl) ?_
  exact kk SX SM H locs ls hP hM hS ⟨I0, Z1, Z2, Z3, Z4, Z6⟩ ⟨J0, ZB, ZS, ZW, ZD⟩ ⟨t, fX, fM, fun j hj => by exact hBY j hj⟩ ⟨_, _, LW1⟩ hl
set_option maxHeartbeats 8000000 in
set_option maxRecDepth 100000 in
theorem law_case_8 {p : Program} {e : Env} {s : State} {m : MethodId} {below : List Frame} {meth : Method} {c : Code} (l : Launch) {b L : Nat} {xs : Nat → Int32} {g : Nat → ClassId} {D : va_G} {A : Nat → Prop} {oX oM : Nat} (C : law_St p s m meth c b L xs g D A) (ST : dk_ST A s s.heap) (hO : oX + 380 ≤ oM) (hoX : ∀ i, A (oX + i)) (hoM : ∀ i, A (oM + i)) {H : Heap} {locs : List Loc} {ls : Array Slot} {SX SM : dg_S} (hP : va_P D vwCl (dg_w g shX oX rfX SX) H) (hM : va_P D vwCl (dg_w g shM oM rfM SM) H) (hS : va_S A s.heap H locs) (IX : law_X oX SX) (IM : law_M oM SM) (IT : law_T SX SM) (IL : law_L oX SX SM) {x : Int32} (hx0 : 0 ≤ x.toInt) (hxL : x.toInt + 6 ≤ L) (hL : L ≤ 3072) (hl : lv_has ls 4 [(3, .int x), (2, .ref (oM + 0)), (1, .ref (oX + 0)), (0, .ref b)])
    (kk : ∀ (SX SM : dg_S) (H : Heap) (locs : List Loc) (ls : Array Slot), va_P D vwCl (dg_w g shX oX rfX SX) H → va_P D vwCl (dg_w g shM oM rfM SM) H → va_S A s.heap H locs → law_X oX SX → law_M oM SM → law_T SX SM → law_L oX SX SM → lv_has ls 4 [(3, .int x), (2, .ref (oM + 0)), (1, .ref (oX + 0)), (0, .ref b)] → W p l e room_1 s m #[Value.ref b] below meth c H locs 431 78943 (lw_Z below #[Value.ref b] s) (F0 m 1126 ls [])) : W p l e room_1 s m #[Value.ref b] below meth c H locs 431 78943 (lw_Z below #[Value.ref b] s) (F0 m 438 ls []) := by
  obtain ⟨hx, hb, hr, hml, hown, hts, hX, hbl, hlocks, K, hA, hAi⟩ := C
  have hbA : ¬ A b := fun q => Nat.not_le.mpr hbl (hAi b q)
  have F : CallFix p m c cL_law 4 s #[Value.ref b] lw_tbl RL := ⟨hx, hb, hml, hown, hts⟩
  obtain ⟨I0, Z1, Z2, Z3, Z4, Z6⟩ := IX
  obtain ⟨J0, ZB, ZS, ZW, ZD⟩ := IM
  obtain ⟨t, fX, fM, hBY⟩ := IT
  obtain ⟨gD, gE, LW0⟩ := IL
  have hgD := LW0.2.2.2.1.1.1
  have hgE := LW0.2.2.2.1.1.2.1
  have hgne := LW0.2.2.2.1.1.2.2
  have fgD := LW0.2.2.2.1.2.1
  have fgE := LW0.2.2.2.1.2.2
  have b_t : 0 ≤ (t).toInt ∧ (t).toInt ≤ 1600 := dg_I.intb (lo := 0) (hi := 1600) I0 sX_1 (by decide +kernel) fX
  have i1 : (x + 1).toInt = x.toInt + 1 := dk_addT2 rfl (by decide +kernel) (by omega)
  obtain ⟨a1, ha1⟩ : ∃ a, a = xs (x + 1).toNatClampNeg := ⟨_, rfl⟩
  have i2 : (x + 2).toInt = x.toInt + 2 := dk_addT2 rfl (by decide +kernel) (by omega)
  obtain ⟨a2, ha2⟩ : ∃ a, a = xs (x + 2).toNatClampNeg := ⟨_, rfl⟩
  refine lv_aload_n hx hb dL_law_438 rfl (lv_at hl 2 rfl) ?_
  refine lv_aload_n hx hb dL_law_439 rfl (lv_at hl 3 rfl) ?_
  refine lv_iload_n hx hb dL_law_440 rfl (lv_at hl 0 rfl) ?_
  refine lv_iconst (v := 1) hx hb dL_law_441 (by decide +kernel) ?_
  refine lv_iadd hx hb dL_law_442 ?_
  refine va_sld hx hb hX hbl hbA hS (dk_inv2 (by omega)) dL_law_443 ?_
  refine dk_top (y := a1) ha1.symm ?_
  refine lv_aload_n hx hb dL_law_444 rfl (lv_at hl 3 rfl) ?_
  refine lv_iload_n hx hb dL_law_445 rfl (lv_at hl 0 rfl) ?_
  refine lv_iconst (v := 2) hx hb dL_law_446 (by decide +kernel) ?_
  refine lv_iadd hx hb dL_law_447 ?_
  refine va_sld hx hb hX hbl hbA hS (dk_inv2 (by omega)) dL_law_448 ?_
  refine dk_top (y := a2) ha2.symm ?_
  refine lw_calli hS (fun i _ => hoX i) hA (va_runV (As := [.int a1, .int a2]) (rest := []) F (c_d_plan l g D oX SX a1 a2 Z1 Z2 Z3 Z4 Z6 I0 H.size) (cwV 2 hts (lw_V wB_1467 wB_1468 wB_1469 wB_610 wB_1466) rfl rfl rfl (by decide +kernel) ⟨Nat.le_of_ble_eq_true rfl, Nat.le_of_ble_eq_true rfl⟩) (dg_preV sX_0 rfl K ST hP hS (fun i _ => hoX i) hA) rfl rfl hl.1 rfl (lv_room (Nat.le_of_ble_eq_true rfl)) dL_law_449 ⟨Nat.le_of_ble_eq_true rfl, Nat.le_of_ble_eq_true rfl⟩) hM (lw_apX hO) (fun r1 S1 hw1 H locs hP hM hS => ?_)
  rw [hw1.1] at hP
  obtain ⟨-, w1_0, -⟩ := hw1
  refine lv_pop hx hb dL_law_452 rfl ?_
  refine lv_aload_n hx hb dL_law_453 rfl (lv_at hl 1 rfl) ?_
  refine lv_aload_n hx hb dL_law_454 rfl (lv_at hl 3 rfl) ?_
  refine lv_iload_n hx hb dL_law_455 rfl (lv_at hl 0 rfl) ?_
  refine lv_iconst (v := 1) hx hb dL_law_456 (by decide +kernel) ?_
  refine lv_iadd hx hb dL_law_457 ?_
  refine va_sld hx hb hX hbl hbA hS (dk_inv2 (by omega)) dL_law_458 ?_
  as_aux_lemma =>
    refine dk_top (y := a1) ha1.symm ?_
    refine lv_aload_n hx hb dL_law_459 rfl (lv_at hl 3 rfl) ?_
    refine lv_iload_n hx hb dL_law_460 rfl (lv_at hl 0 rfl) ?_
    refine lv_iconst (v := 2) hx hb dL_law_461 (by decide +kernel) ?_
    refine lv_iadd hx hb dL_law_462 ?_
    refine va_sld hx hb hX hbl hbA hS (dk_inv2 (by omega)) dL_law_463 ?_
    refine dk_top (y := a2) ha2.symm ?_
    refine lw_calli hS (fun i _ => hoM i) hA (va_runV (As := [.int a1, .int a2]) (rest := []) F (c_m_plan l g D oM SM a1 a2 J0 H.size) (cwV 2 hts (lw_V wB_1471 wB_1472 wB_1473 wB_297 wB_1470) rfl rfl rfl (by decide +kernel) ⟨Nat.le_of_ble_eq_true rfl, Nat.le_of_ble_eq_true rfl⟩) (dg_preV sM_0 rfl K ST hM hS (fun i _ => hoM i) hA) rfl rfl hl.1 rfl (lv_room (Nat.le_of_ble_eq_true rfl)) dL_law_464 ⟨Nat.le_of_ble_eq_true rfl, Nat.le_of_ble_eq_true rfl⟩) hP (lw_apM hO) (fun r2 S2 hw2 H locs hM hP hS => ?_)
    rw [hw2.1] at hM
    obtain ⟨-, w2_0, -⟩ := hw2
    have eq9 := E_plan LW0 w1_0 w2_0
    have LW1 := LW0
    refine lv_pop hx hb dL_law_467 rfl ?_
    refine lv_goto (tgt := 1126) hx hb dL_law_468 (dk_dq rfl) ?_
    exact kk SX SM H locs ls hP hM hS ⟨I0, Z1, Z2, Z3, Z4, Z6⟩ ⟨J0, ZB, ZS, ZW, ZD⟩ ⟨t, fX, fM, fun j hj => by exact hBY j hj⟩ ⟨_, _, LW1⟩ hl
