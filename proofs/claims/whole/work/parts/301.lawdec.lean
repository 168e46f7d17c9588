theorem dl_0 : decode code 0 = .ok (.new 7, 3) := by decide +kernel
theorem dl_3 : decode code 3 = .ok (.dup, 1) := by decide +kernel
theorem dl_4 : decode code 4 = .ok (.invokespecial 9, 3) := by decide +kernel
theorem dl_7 : decode code 7 = .ok (.astore_n 1, 1) := by decide +kernel
theorem dl_8 : decode code 8 = .ok (.new 10, 3) := by decide +kernel
theorem dl_11 : decode code 11 = .ok (.dup, 1) := by decide +kernel
theorem dl_12 : decode code 12 = .ok (.invokespecial 12, 3) := by decide +kernel
theorem dl_15 : decode code 15 = .ok (.astore_n 2, 1) := by decide +kernel
theorem dl_16 : decode code 16 = .ok (.iconst 0, 1) := by decide +kernel
theorem dl_17 : decode code 17 = .ok (.istore_n 3, 1) := by decide +kernel
theorem dl_18 : decode code 18 = .ok (.iload_n 3, 1) := by decide +kernel
theorem dl_19 : decode code 19 = .ok (.aload_n 0, 1) := by decide +kernel
theorem dl_20 : decode code 20 = .ok (.arraylength, 1) := by decide +kernel
theorem dl_21 : decode code 21 = .ok (.iconst 4, 1) := by decide +kernel
theorem dl_22 : decode code 22 = .ok (.isub, 1) := by decide +kernel
theorem dl_23 : decode code 23 = .ok (.if_icmp .gt 732, 3) := by decide +kernel
theorem dl_26 : decode code 26 = .ok (.aload_n 0, 1) := by decide +kernel
theorem dl_27 : decode code 27 = .ok (.iload_n 3, 1) := by decide +kernel
theorem dl_28 : decode code 28 = .ok (.iaload, 1) := by decide +kernel
theorem dl_29 : decode code 29 = .ok (.bipush 31, 2) := by decide +kernel
theorem dl_31 : decode code 31 = .ok (.iand, 1) := by decide +kernel
theorem dl_32 : decode code 32 = .ok (.tableswitch 717 0 22 #[108, 131, 174, 197, 240, 273, 286, 319, 352, 385, 398, 411, 444, 477, 510, 553, 566, 579, 592, 625, 658, 671, 694], 108) := by decide +kernel
theorem dl_140 : decode code 140 = .ok (.aload_n 1, 1) := by decide +kernel
theorem dl_141 : decode code 141 = .ok (.aload_n 0, 1) := by decide +kernel
theorem dl_142 : decode code 142 = .ok (.iload_n 3, 1) := by decide +kernel
theorem dl_143 : decode code 143 = .ok (.iconst 1, 1) := by decide +kernel
theorem dl_144 : decode code 144 = .ok (.iadd, 1) := by decide +kernel
theorem dl_145 : decode code 145 = .ok (.iaload, 1) := by decide +kernel
theorem dl_146 : decode code 146 = .ok (.invokevirtual 13, 3) := by decide +kernel
theorem dl_149 : decode code 149 = .ok (.aload_n 2, 1) := by decide +kernel
theorem dl_150 : decode code 150 = .ok (.aload_n 0, 1) := by decide +kernel
theorem dl_151 : decode code 151 = .ok (.iload_n 3, 1) := by decide +kernel
theorem dl_152 : decode code 152 = .ok (.iconst 1, 1) := by decide +kernel
theorem dl_153 : decode code 153 = .ok (.iadd, 1) := by decide +kernel
theorem dl_154 : decode code 154 = .ok (.iaload, 1) := by decide +kernel
theorem dl_155 : decode code 155 = .ok (.invokevirtual 17, 3) := by decide +kernel
theorem dl_158 : decode code 158 = .ok (.if_icmp .eq 591, 3) := by decide +kernel
theorem dl_161 : decode code 161 = .ok (.iconst 0, 1) := by decide +kernel
theorem dl_162 : decode code 162 = .ok (.ireturn, 1) := by decide +kernel
theorem dl_163 : decode code 163 = .ok (.aload_n 1, 1) := by decide +kernel
theorem dl_164 : decode code 164 = .ok (.aload_n 0, 1) := by decide +kernel
theorem dl_165 : decode code 165 = .ok (.iload_n 3, 1) := by decide +kernel
theorem dl_166 : decode code 166 = .ok (.iconst 1, 1) := by decide +kernel
theorem dl_167 : decode code 167 = .ok (.iadd, 1) := by decide +kernel
theorem dl_168 : decode code 168 = .ok (.iaload, 1) := by decide +kernel
theorem dl_169 : decode code 169 = .ok (.aload_n 0, 1) := by decide +kernel
theorem dl_170 : decode code 170 = .ok (.iload_n 3, 1) := by decide +kernel
theorem dl_171 : decode code 171 = .ok (.iconst 2, 1) := by decide +kernel
theorem dl_172 : decode code 172 = .ok (.iadd, 1) := by decide +kernel
theorem dl_173 : decode code 173 = .ok (.iaload, 1) := by decide +kernel
theorem dl_174 : decode code 174 = .ok (.aload_n 0, 1) := by decide +kernel
theorem dl_175 : decode code 175 = .ok (.iload_n 3, 1) := by decide +kernel
theorem dl_176 : decode code 176 = .ok (.iconst 3, 1) := by decide +kernel
theorem dl_177 : decode code 177 = .ok (.iadd, 1) := by decide +kernel
theorem dl_178 : decode code 178 = .ok (.iaload, 1) := by decide +kernel
theorem dl_179 : decode code 179 = .ok (.invokevirtual 18, 3) := by decide +kernel
theorem dl_182 : decode code 182 = .ok (.aload_n 2, 1) := by decide +kernel
theorem dl_183 : decode code 183 = .ok (.aload_n 0, 1) := by decide +kernel
theorem dl_184 : decode code 184 = .ok (.iload_n 3, 1) := by decide +kernel
theorem dl_185 : decode code 185 = .ok (.iconst 1, 1) := by decide +kernel
theorem dl_186 : decode code 186 = .ok (.iadd, 1) := by decide +kernel
theorem dl_187 : decode code 187 = .ok (.iaload, 1) := by decide +kernel
theorem dl_188 : decode code 188 = .ok (.aload_n 0, 1) := by decide +kernel
theorem dl_189 : decode code 189 = .ok (.iload_n 3, 1) := by decide +kernel
theorem dl_190 : decode code 190 = .ok (.iconst 2, 1) := by decide +kernel
theorem dl_191 : decode code 191 = .ok (.iadd, 1) := by decide +kernel
theorem dl_192 : decode code 192 = .ok (.iaload, 1) := by decide +kernel
theorem dl_193 : decode code 193 = .ok (.aload_n 0, 1) := by decide +kernel
theorem dl_194 : decode code 194 = .ok (.iload_n 3, 1) := by decide +kernel
theorem dl_195 : decode code 195 = .ok (.iconst 3, 1) := by decide +kernel
theorem dl_196 : decode code 196 = .ok (.iadd, 1) := by decide +kernel
theorem dl_197 : decode code 197 = .ok (.iaload, 1) := by decide +kernel
theorem dl_198 : decode code 198 = .ok (.invokevirtual 22, 3) := by decide +kernel
theorem dl_201 : decode code 201 = .ok (.if_icmp .eq 548, 3) := by decide +kernel
theorem dl_204 : decode code 204 = .ok (.iconst 0, 1) := by decide +kernel
theorem dl_205 : decode code 205 = .ok (.ireturn, 1) := by decide +kernel
theorem dl_206 : decode code 206 = .ok (.aload_n 1, 1) := by decide +kernel
theorem dl_207 : decode code 207 = .ok (.aload_n 0, 1) := by decide +kernel
theorem dl_208 : decode code 208 = .ok (.iload_n 3, 1) := by decide +kernel
theorem dl_209 : decode code 209 = .ok (.iconst 1, 1) := by decide +kernel
theorem dl_210 : decode code 210 = .ok (.iadd, 1) := by decide +kernel
theorem dl_211 : decode code 211 = .ok (.iaload, 1) := by decide +kernel
theorem dl_212 : decode code 212 = .ok (.invokevirtual 23, 3) := by decide +kernel
theorem dl_215 : decode code 215 = .ok (.aload_n 2, 1) := by decide +kernel
theorem dl_216 : decode code 216 = .ok (.aload_n 0, 1) := by decide +kernel
theorem dl_217 : decode code 217 = .ok (.iload_n 3, 1) := by decide +kernel
theorem dl_218 : decode code 218 = .ok (.iconst 1, 1) := by decide +kernel
theorem dl_219 : decode code 219 = .ok (.iadd, 1) := by decide +kernel
theorem dl_220 : decode code 220 = .ok (.iaload, 1) := by decide +kernel
theorem dl_221 : decode code 221 = .ok (.invokevirtual 26, 3) := by decide +kernel
theorem dl_224 : decode code 224 = .ok (.if_icmp .eq 525, 3) := by decide +kernel
theorem dl_227 : decode code 227 = .ok (.iconst 0, 1) := by decide +kernel
theorem dl_228 : decode code 228 = .ok (.ireturn, 1) := by decide +kernel
theorem dl_229 : decode code 229 = .ok (.aload_n 1, 1) := by decide +kernel
theorem dl_230 : decode code 230 = .ok (.aload_n 0, 1) := by decide +kernel
theorem dl_231 : decode code 231 = .ok (.iload_n 3, 1) := by decide +kernel
theorem dl_232 : decode code 232 = .ok (.iconst 1, 1) := by decide +kernel
theorem dl_233 : decode code 233 = .ok (.iadd, 1) := by decide +kernel
theorem dl_234 : decode code 234 = .ok (.iaload, 1) := by decide +kernel
theorem dl_235 : decode code 235 = .ok (.aload_n 0, 1) := by decide +kernel
theorem dl_236 : decode code 236 = .ok (.iload_n 3, 1) := by decide +kernel
theorem dl_237 : decode code 237 = .ok (.iconst 2, 1) := by decide +kernel
theorem dl_238 : decode code 238 = .ok (.iadd, 1) := by decide +kernel
theorem dl_239 : decode code 239 = .ok (.iaload, 1) := by decide +kernel
theorem dl_240 : decode code 240 = .ok (.aload_n 0, 1) := by decide +kernel
theorem dl_241 : decode code 241 = .ok (.iload_n 3, 1) := by decide +kernel
theorem dl_242 : decode code 242 = .ok (.iconst 3, 1) := by decide +kernel
theorem dl_243 : decode code 243 = .ok (.iadd, 1) := by decide +kernel
theorem dl_244 : decode code 244 = .ok (.iaload, 1) := by decide +kernel
theorem dl_245 : decode code 245 = .ok (.invokevirtual 27, 3) := by decide +kernel
theorem dl_248 : decode code 248 = .ok (.aload_n 2, 1) := by decide +kernel
theorem dl_249 : decode code 249 = .ok (.aload_n 0, 1) := by decide +kernel
theorem dl_250 : decode code 250 = .ok (.iload_n 3, 1) := by decide +kernel
theorem dl_251 : decode code 251 = .ok (.iconst 1, 1) := by decide +kernel
theorem dl_252 : decode code 252 = .ok (.iadd, 1) := by decide +kernel
theorem dl_253 : decode code 253 = .ok (.iaload, 1) := by decide +kernel
theorem dl_254 : decode code 254 = .ok (.aload_n 0, 1) := by decide +kernel
theorem dl_255 : decode code 255 = .ok (.iload_n 3, 1) := by decide +kernel
theorem dl_256 : decode code 256 = .ok (.iconst 2, 1) := by decide +kernel
theorem dl_257 : decode code 257 = .ok (.iadd, 1) := by decide +kernel
theorem dl_258 : decode code 258 = .ok (.iaload, 1) := by decide +kernel
theorem dl_259 : decode code 259 = .ok (.aload_n 0, 1) := by decide +kernel
theorem dl_260 : decode code 260 = .ok (.iload_n 3, 1) := by decide +kernel
theorem dl_261 : decode code 261 = .ok (.iconst 3, 1) := by decide +kernel
theorem dl_262 : decode code 262 = .ok (.iadd, 1) := by decide +kernel
theorem dl_263 : decode code 263 = .ok (.iaload, 1) := by decide +kernel
theorem dl_264 : decode code 264 = .ok (.invokevirtual 30, 3) := by decide +kernel
theorem dl_267 : decode code 267 = .ok (.if_icmp .eq 482, 3) := by decide +kernel
theorem dl_270 : decode code 270 = .ok (.iconst 0, 1) := by decide +kernel
theorem dl_271 : decode code 271 = .ok (.ireturn, 1) := by decide +kernel
theorem dl_272 : decode code 272 = .ok (.aload_n 1, 1) := by decide +kernel
theorem dl_273 : decode code 273 = .ok (.aload_n 0, 1) := by decide +kernel
theorem dl_274 : decode code 274 = .ok (.iload_n 3, 1) := by decide +kernel
theorem dl_275 : decode code 275 = .ok (.iconst 1, 1) := by decide +kernel
theorem dl_276 : decode code 276 = .ok (.iadd, 1) := by decide +kernel
theorem dl_277 : decode code 277 = .ok (.iaload, 1) := by decide +kernel
theorem dl_278 : decode code 278 = .ok (.aload_n 0, 1) := by decide +kernel
theorem dl_279 : decode code 279 = .ok (.iload_n 3, 1) := by decide +kernel
theorem dl_280 : decode code 280 = .ok (.iconst 2, 1) := by decide +kernel
theorem dl_281 : decode code 281 = .ok (.iadd, 1) := by decide +kernel
theorem dl_282 : decode code 282 = .ok (.iaload, 1) := by decide +kernel
theorem dl_283 : decode code 283 = .ok (.invokevirtual 31, 3) := by decide +kernel
theorem dl_286 : decode code 286 = .ok (.aload_n 2, 1) := by decide +kernel
theorem dl_287 : decode code 287 = .ok (.aload_n 0, 1) := by decide +kernel
theorem dl_288 : decode code 288 = .ok (.iload_n 3, 1) := by decide +kernel
theorem dl_289 : decode code 289 = .ok (.iconst 1, 1) := by decide +kernel
theorem dl_290 : decode code 290 = .ok (.iadd, 1) := by decide +kernel
theorem dl_291 : decode code 291 = .ok (.iaload, 1) := by decide +kernel
theorem dl_292 : decode code 292 = .ok (.aload_n 0, 1) := by decide +kernel
theorem dl_293 : decode code 293 = .ok (.iload_n 3, 1) := by decide +kernel
theorem dl_294 : decode code 294 = .ok (.iconst 2, 1) := by decide +kernel
theorem dl_295 : decode code 295 = .ok (.iadd, 1) := by decide +kernel
theorem dl_296 : decode code 296 = .ok (.iaload, 1) := by decide +kernel
theorem dl_297 : decode code 297 = .ok (.invokevirtual 35, 3) := by decide +kernel
theorem dl_300 : decode code 300 = .ok (.if_icmp .eq 449, 3) := by decide +kernel
theorem dl_303 : decode code 303 = .ok (.iconst 0, 1) := by decide +kernel
theorem dl_304 : decode code 304 = .ok (.ireturn, 1) := by decide +kernel
theorem dl_305 : decode code 305 = .ok (.aload_n 1, 1) := by decide +kernel
theorem dl_306 : decode code 306 = .ok (.invokevirtual 36, 3) := by decide +kernel
theorem dl_309 : decode code 309 = .ok (.aload_n 2, 1) := by decide +kernel
theorem dl_310 : decode code 310 = .ok (.invokevirtual 40, 3) := by decide +kernel
theorem dl_313 : decode code 313 = .ok (.if_icmp .eq 436, 3) := by decide +kernel
theorem dl_316 : decode code 316 = .ok (.iconst 0, 1) := by decide +kernel
theorem dl_317 : decode code 317 = .ok (.ireturn, 1) := by decide +kernel
theorem dl_318 : decode code 318 = .ok (.aload_n 1, 1) := by decide +kernel
theorem dl_319 : decode code 319 = .ok (.aload_n 0, 1) := by decide +kernel
theorem dl_320 : decode code 320 = .ok (.iload_n 3, 1) := by decide +kernel
theorem dl_321 : decode code 321 = .ok (.iconst 1, 1) := by decide +kernel
theorem dl_322 : decode code 322 = .ok (.iadd, 1) := by decide +kernel
theorem dl_323 : decode code 323 = .ok (.iaload, 1) := by decide +kernel
theorem dl_324 : decode code 324 = .ok (.aload_n 0, 1) := by decide +kernel
theorem dl_325 : decode code 325 = .ok (.iload_n 3, 1) := by decide +kernel
theorem dl_326 : decode code 326 = .ok (.iconst 2, 1) := by decide +kernel
theorem dl_327 : decode code 327 = .ok (.iadd, 1) := by decide +kernel
theorem dl_328 : decode code 328 = .ok (.iaload, 1) := by decide +kernel
theorem dl_329 : decode code 329 = .ok (.invokevirtual 41, 3) := by decide +kernel
theorem dl_332 : decode code 332 = .ok (.aload_n 2, 1) := by decide +kernel
theorem dl_333 : decode code 333 = .ok (.aload_n 0, 1) := by decide +kernel
theorem dl_334 : decode code 334 = .ok (.iload_n 3, 1) := by decide +kernel
theorem dl_335 : decode code 335 = .ok (.iconst 1, 1) := by decide +kernel
theorem dl_336 : decode code 336 = .ok (.iadd, 1) := by decide +kernel
theorem dl_337 : decode code 337 = .ok (.iaload, 1) := by decide +kernel
theorem dl_338 : decode code 338 = .ok (.aload_n 0, 1) := by decide +kernel
theorem dl_339 : decode code 339 = .ok (.iload_n 3, 1) := by decide +kernel
theorem dl_340 : decode code 340 = .ok (.iconst 2, 1) := by decide +kernel
theorem dl_341 : decode code 341 = .ok (.iadd, 1) := by decide +kernel
theorem dl_342 : decode code 342 = .ok (.iaload, 1) := by decide +kernel
theorem dl_343 : decode code 343 = .ok (.invokevirtual 44, 3) := by decide +kernel
theorem dl_346 : decode code 346 = .ok (.if_icmp .eq 403, 3) := by decide +kernel
theorem dl_349 : decode code 349 = .ok (.iconst 0, 1) := by decide +kernel
theorem dl_350 : decode code 350 = .ok (.ireturn, 1) := by decide +kernel
theorem dl_351 : decode code 351 = .ok (.aload_n 1, 1) := by decide +kernel
theorem dl_352 : decode code 352 = .ok (.aload_n 0, 1) := by decide +kernel
theorem dl_353 : decode code 353 = .ok (.iload_n 3, 1) := by decide +kernel
theorem dl_354 : decode code 354 = .ok (.iconst 1, 1) := by decide +kernel
theorem dl_355 : decode code 355 = .ok (.iadd, 1) := by decide +kernel
theorem dl_356 : decode code 356 = .ok (.iaload, 1) := by decide +kernel
theorem dl_357 : decode code 357 = .ok (.aload_n 0, 1) := by decide +kernel
theorem dl_358 : decode code 358 = .ok (.iload_n 3, 1) := by decide +kernel
theorem dl_359 : decode code 359 = .ok (.iconst 2, 1) := by decide +kernel
theorem dl_360 : decode code 360 = .ok (.iadd, 1) := by decide +kernel
theorem dl_361 : decode code 361 = .ok (.iaload, 1) := by decide +kernel
theorem dl_362 : decode code 362 = .ok (.invokevirtual 45, 3) := by decide +kernel
theorem dl_365 : decode code 365 = .ok (.aload_n 2, 1) := by decide +kernel
theorem dl_366 : decode code 366 = .ok (.aload_n 0, 1) := by decide +kernel
theorem dl_367 : decode code 367 = .ok (.iload_n 3, 1) := by decide +kernel
theorem dl_368 : decode code 368 = .ok (.iconst 1, 1) := by decide +kernel
theorem dl_369 : decode code 369 = .ok (.iadd, 1) := by decide +kernel
theorem dl_370 : decode code 370 = .ok (.iaload, 1) := by decide +kernel
theorem dl_371 : decode code 371 = .ok (.aload_n 0, 1) := by decide +kernel
theorem dl_372 : decode code 372 = .ok (.iload_n 3, 1) := by decide +kernel
theorem dl_373 : decode code 373 = .ok (.iconst 2, 1) := by decide +kernel
theorem dl_374 : decode code 374 = .ok (.iadd, 1) := by decide +kernel
theorem dl_375 : decode code 375 = .ok (.iaload, 1) := by decide +kernel
theorem dl_376 : decode code 376 = .ok (.invokevirtual 48, 3) := by decide +kernel
theorem dl_379 : decode code 379 = .ok (.if_icmp .eq 370, 3) := by decide +kernel
theorem dl_382 : decode code 382 = .ok (.iconst 0, 1) := by decide +kernel
theorem dl_383 : decode code 383 = .ok (.ireturn, 1) := by decide +kernel
theorem dl_384 : decode code 384 = .ok (.aload_n 1, 1) := by decide +kernel
theorem dl_385 : decode code 385 = .ok (.aload_n 0, 1) := by decide +kernel
theorem dl_386 : decode code 386 = .ok (.iload_n 3, 1) := by decide +kernel
theorem dl_387 : decode code 387 = .ok (.iconst 1, 1) := by decide +kernel
theorem dl_388 : decode code 388 = .ok (.iadd, 1) := by decide +kernel
theorem dl_389 : decode code 389 = .ok (.iaload, 1) := by decide +kernel
theorem dl_390 : decode code 390 = .ok (.aload_n 0, 1) := by decide +kernel
theorem dl_391 : decode code 391 = .ok (.iload_n 3, 1) := by decide +kernel
theorem dl_392 : decode code 392 = .ok (.iconst 2, 1) := by decide +kernel
theorem dl_393 : decode code 393 = .ok (.iadd, 1) := by decide +kernel
theorem dl_394 : decode code 394 = .ok (.iaload, 1) := by decide +kernel
theorem dl_395 : decode code 395 = .ok (.invokevirtual 49, 3) := by decide +kernel
theorem dl_398 : decode code 398 = .ok (.aload_n 2, 1) := by decide +kernel
theorem dl_399 : decode code 399 = .ok (.aload_n 0, 1) := by decide +kernel
theorem dl_400 : decode code 400 = .ok (.iload_n 3, 1) := by decide +kernel
theorem dl_401 : decode code 401 = .ok (.iconst 1, 1) := by decide +kernel
theorem dl_402 : decode code 402 = .ok (.iadd, 1) := by decide +kernel
theorem dl_403 : decode code 403 = .ok (.iaload, 1) := by decide +kernel
theorem dl_404 : decode code 404 = .ok (.aload_n 0, 1) := by decide +kernel
theorem dl_405 : decode code 405 = .ok (.iload_n 3, 1) := by decide +kernel
theorem dl_406 : decode code 406 = .ok (.iconst 2, 1) := by decide +kernel
theorem dl_407 : decode code 407 = .ok (.iadd, 1) := by decide +kernel
theorem dl_408 : decode code 408 = .ok (.iaload, 1) := by decide +kernel
theorem dl_409 : decode code 409 = .ok (.invokevirtual 52, 3) := by decide +kernel
theorem dl_412 : decode code 412 = .ok (.if_icmp .eq 337, 3) := by decide +kernel
theorem dl_415 : decode code 415 = .ok (.iconst 0, 1) := by decide +kernel
theorem dl_416 : decode code 416 = .ok (.ireturn, 1) := by decide +kernel
theorem dl_417 : decode code 417 = .ok (.aload_n 1, 1) := by decide +kernel
theorem dl_418 : decode code 418 = .ok (.invokevirtual 53, 3) := by decide +kernel
theorem dl_421 : decode code 421 = .ok (.aload_n 2, 1) := by decide +kernel
theorem dl_422 : decode code 422 = .ok (.invokevirtual 56, 3) := by decide +kernel
theorem dl_425 : decode code 425 = .ok (.if_icmp .eq 324, 3) := by decide +kernel
theorem dl_428 : decode code 428 = .ok (.iconst 0, 1) := by decide +kernel
theorem dl_429 : decode code 429 = .ok (.ireturn, 1) := by decide +kernel
theorem dl_430 : decode code 430 = .ok (.aload_n 1, 1) := by decide +kernel
theorem dl_431 : decode code 431 = .ok (.invokevirtual 57, 3) := by decide +kernel
theorem dl_434 : decode code 434 = .ok (.aload_n 2, 1) := by decide +kernel
theorem dl_435 : decode code 435 = .ok (.invokevirtual 60, 3) := by decide +kernel
theorem dl_438 : decode code 438 = .ok (.if_icmp .eq 311, 3) := by decide +kernel
theorem dl_441 : decode code 441 = .ok (.iconst 0, 1) := by decide +kernel
theorem dl_442 : decode code 442 = .ok (.ireturn, 1) := by decide +kernel
theorem dl_443 : decode code 443 = .ok (.aload_n 1, 1) := by decide +kernel
theorem dl_444 : decode code 444 = .ok (.aload_n 0, 1) := by decide +kernel
theorem dl_445 : decode code 445 = .ok (.iload_n 3, 1) := by decide +kernel
theorem dl_446 : decode code 446 = .ok (.iconst 1, 1) := by decide +kernel
theorem dl_447 : decode code 447 = .ok (.iadd, 1) := by decide +kernel
theorem dl_448 : decode code 448 = .ok (.iaload, 1) := by decide +kernel
theorem dl_449 : decode code 449 = .ok (.aload_n 0, 1) := by decide +kernel
theorem dl_450 : decode code 450 = .ok (.iload_n 3, 1) := by decide +kernel
theorem dl_451 : decode code 451 = .ok (.iconst 2, 1) := by decide +kernel
theorem dl_452 : decode code 452 = .ok (.iadd, 1) := by decide +kernel
theorem dl_453 : decode code 453 = .ok (.iaload, 1) := by decide +kernel
theorem dl_454 : decode code 454 = .ok (.invokevirtual 61, 3) := by decide +kernel
theorem dl_457 : decode code 457 = .ok (.aload_n 2, 1) := by decide +kernel
theorem dl_458 : decode code 458 = .ok (.aload_n 0, 1) := by decide +kernel
theorem dl_459 : decode code 459 = .ok (.iload_n 3, 1) := by decide +kernel
theorem dl_460 : decode code 460 = .ok (.iconst 1, 1) := by decide +kernel
theorem dl_461 : decode code 461 = .ok (.iadd, 1) := by decide +kernel
theorem dl_462 : decode code 462 = .ok (.iaload, 1) := by decide +kernel
theorem dl_463 : decode code 463 = .ok (.aload_n 0, 1) := by decide +kernel
theorem dl_464 : decode code 464 = .ok (.iload_n 3, 1) := by decide +kernel
theorem dl_465 : decode code 465 = .ok (.iconst 2, 1) := by decide +kernel
theorem dl_466 : decode code 466 = .ok (.iadd, 1) := by decide +kernel
theorem dl_467 : decode code 467 = .ok (.iaload, 1) := by decide +kernel
theorem dl_468 : decode code 468 = .ok (.invokevirtual 64, 3) := by decide +kernel
theorem dl_471 : decode code 471 = .ok (.if_icmp .eq 278, 3) := by decide +kernel
theorem dl_474 : decode code 474 = .ok (.iconst 0, 1) := by decide +kernel
theorem dl_475 : decode code 475 = .ok (.ireturn, 1) := by decide +kernel
theorem dl_476 : decode code 476 = .ok (.aload_n 1, 1) := by decide +kernel
theorem dl_477 : decode code 477 = .ok (.aload_n 0, 1) := by decide +kernel
theorem dl_478 : decode code 478 = .ok (.iload_n 3, 1) := by decide +kernel
theorem dl_479 : decode code 479 = .ok (.iconst 1, 1) := by decide +kernel
theorem dl_480 : decode code 480 = .ok (.iadd, 1) := by decide +kernel
theorem dl_481 : decode code 481 = .ok (.iaload, 1) := by decide +kernel
theorem dl_482 : decode code 482 = .ok (.aload_n 0, 1) := by decide +kernel
theorem dl_483 : decode code 483 = .ok (.iload_n 3, 1) := by decide +kernel
theorem dl_484 : decode code 484 = .ok (.iconst 2, 1) := by decide +kernel
theorem dl_485 : decode code 485 = .ok (.iadd, 1) := by decide +kernel
theorem dl_486 : decode code 486 = .ok (.iaload, 1) := by decide +kernel
theorem dl_487 : decode code 487 = .ok (.invokevirtual 65, 3) := by decide +kernel
theorem dl_490 : decode code 490 = .ok (.aload_n 2, 1) := by decide +kernel
theorem dl_491 : decode code 491 = .ok (.aload_n 0, 1) := by decide +kernel
theorem dl_492 : decode code 492 = .ok (.iload_n 3, 1) := by decide +kernel
theorem dl_493 : decode code 493 = .ok (.iconst 1, 1) := by decide +kernel
theorem dl_494 : decode code 494 = .ok (.iadd, 1) := by decide +kernel
theorem dl_495 : decode code 495 = .ok (.iaload, 1) := by decide +kernel
theorem dl_496 : decode code 496 = .ok (.aload_n 0, 1) := by decide +kernel
theorem dl_497 : decode code 497 = .ok (.iload_n 3, 1) := by decide +kernel
theorem dl_498 : decode code 498 = .ok (.iconst 2, 1) := by decide +kernel
theorem dl_499 : decode code 499 = .ok (.iadd, 1) := by decide +kernel
theorem dl_500 : decode code 500 = .ok (.iaload, 1) := by decide +kernel
theorem dl_501 : decode code 501 = .ok (.invokevirtual 68, 3) := by decide +kernel
theorem dl_504 : decode code 504 = .ok (.if_icmp .eq 245, 3) := by decide +kernel
theorem dl_507 : decode code 507 = .ok (.iconst 0, 1) := by decide +kernel
theorem dl_508 : decode code 508 = .ok (.ireturn, 1) := by decide +kernel
theorem dl_509 : decode code 509 = .ok (.aload_n 1, 1) := by decide +kernel
theorem dl_510 : decode code 510 = .ok (.aload_n 0, 1) := by decide +kernel
theorem dl_511 : decode code 511 = .ok (.iload_n 3, 1) := by decide +kernel
theorem dl_512 : decode code 512 = .ok (.iconst 1, 1) := by decide +kernel
theorem dl_513 : decode code 513 = .ok (.iadd, 1) := by decide +kernel
theorem dl_514 : decode code 514 = .ok (.iaload, 1) := by decide +kernel
theorem dl_515 : decode code 515 = .ok (.aload_n 0, 1) := by decide +kernel
theorem dl_516 : decode code 516 = .ok (.iload_n 3, 1) := by decide +kernel
theorem dl_517 : decode code 517 = .ok (.iconst 2, 1) := by decide +kernel
theorem dl_518 : decode code 518 = .ok (.iadd, 1) := by decide +kernel
theorem dl_519 : decode code 519 = .ok (.iaload, 1) := by decide +kernel
theorem dl_520 : decode code 520 = .ok (.invokevirtual 69, 3) := by decide +kernel
theorem dl_523 : decode code 523 = .ok (.aload_n 2, 1) := by decide +kernel
theorem dl_524 : decode code 524 = .ok (.aload_n 0, 1) := by decide +kernel
theorem dl_525 : decode code 525 = .ok (.iload_n 3, 1) := by decide +kernel
theorem dl_526 : decode code 526 = .ok (.iconst 1, 1) := by decide +kernel
theorem dl_527 : decode code 527 = .ok (.iadd, 1) := by decide +kernel
theorem dl_528 : decode code 528 = .ok (.iaload, 1) := by decide +kernel
theorem dl_529 : decode code 529 = .ok (.aload_n 0, 1) := by decide +kernel
theorem dl_530 : decode code 530 = .ok (.iload_n 3, 1) := by decide +kernel
theorem dl_531 : decode code 531 = .ok (.iconst 2, 1) := by decide +kernel
theorem dl_532 : decode code 532 = .ok (.iadd, 1) := by decide +kernel
theorem dl_533 : decode code 533 = .ok (.iaload, 1) := by decide +kernel
theorem dl_534 : decode code 534 = .ok (.invokevirtual 72, 3) := by decide +kernel
theorem dl_537 : decode code 537 = .ok (.if_icmp .eq 212, 3) := by decide +kernel
theorem dl_540 : decode code 540 = .ok (.iconst 0, 1) := by decide +kernel
theorem dl_541 : decode code 541 = .ok (.ireturn, 1) := by decide +kernel
theorem dl_542 : decode code 542 = .ok (.aload_n 1, 1) := by decide +kernel
theorem dl_543 : decode code 543 = .ok (.aload_n 0, 1) := by decide +kernel
theorem dl_544 : decode code 544 = .ok (.iload_n 3, 1) := by decide +kernel
theorem dl_545 : decode code 545 = .ok (.iconst 1, 1) := by decide +kernel
theorem dl_546 : decode code 546 = .ok (.iadd, 1) := by decide +kernel
theorem dl_547 : decode code 547 = .ok (.iaload, 1) := by decide +kernel
theorem dl_548 : decode code 548 = .ok (.aload_n 0, 1) := by decide +kernel
theorem dl_549 : decode code 549 = .ok (.iload_n 3, 1) := by decide +kernel
theorem dl_550 : decode code 550 = .ok (.iconst 2, 1) := by decide +kernel
theorem dl_551 : decode code 551 = .ok (.iadd, 1) := by decide +kernel
theorem dl_552 : decode code 552 = .ok (.iaload, 1) := by decide +kernel
theorem dl_553 : decode code 553 = .ok (.aload_n 0, 1) := by decide +kernel
theorem dl_554 : decode code 554 = .ok (.iload_n 3, 1) := by decide +kernel
theorem dl_555 : decode code 555 = .ok (.iconst 3, 1) := by decide +kernel
theorem dl_556 : decode code 556 = .ok (.iadd, 1) := by decide +kernel
theorem dl_557 : decode code 557 = .ok (.iaload, 1) := by decide +kernel
theorem dl_558 : decode code 558 = .ok (.invokevirtual 73, 3) := by decide +kernel
theorem dl_561 : decode code 561 = .ok (.aload_n 2, 1) := by decide +kernel
theorem dl_562 : decode code 562 = .ok (.aload_n 0, 1) := by decide +kernel
theorem dl_563 : decode code 563 = .ok (.iload_n 3, 1) := by decide +kernel
theorem dl_564 : decode code 564 = .ok (.iconst 1, 1) := by decide +kernel
theorem dl_565 : decode code 565 = .ok (.iadd, 1) := by decide +kernel
theorem dl_566 : decode code 566 = .ok (.iaload, 1) := by decide +kernel
theorem dl_567 : decode code 567 = .ok (.aload_n 0, 1) := by decide +kernel
theorem dl_568 : decode code 568 = .ok (.iload_n 3, 1) := by decide +kernel
theorem dl_569 : decode code 569 = .ok (.iconst 2, 1) := by decide +kernel
theorem dl_570 : decode code 570 = .ok (.iadd, 1) := by decide +kernel
theorem dl_571 : decode code 571 = .ok (.iaload, 1) := by decide +kernel
theorem dl_572 : decode code 572 = .ok (.aload_n 0, 1) := by decide +kernel
theorem dl_573 : decode code 573 = .ok (.iload_n 3, 1) := by decide +kernel
theorem dl_574 : decode code 574 = .ok (.iconst 3, 1) := by decide +kernel
theorem dl_575 : decode code 575 = .ok (.iadd, 1) := by decide +kernel
theorem dl_576 : decode code 576 = .ok (.iaload, 1) := by decide +kernel
theorem dl_577 : decode code 577 = .ok (.invokevirtual 76, 3) := by decide +kernel
theorem dl_580 : decode code 580 = .ok (.if_icmp .eq 169, 3) := by decide +kernel
theorem dl_583 : decode code 583 = .ok (.iconst 0, 1) := by decide +kernel
theorem dl_584 : decode code 584 = .ok (.ireturn, 1) := by decide +kernel
theorem dl_585 : decode code 585 = .ok (.aload_n 1, 1) := by decide +kernel
theorem dl_586 : decode code 586 = .ok (.invokevirtual 77, 3) := by decide +kernel
theorem dl_589 : decode code 589 = .ok (.aload_n 2, 1) := by decide +kernel
theorem dl_590 : decode code 590 = .ok (.invokevirtual 80, 3) := by decide +kernel
theorem dl_593 : decode code 593 = .ok (.if_icmp .eq 156, 3) := by decide +kernel
theorem dl_596 : decode code 596 = .ok (.iconst 0, 1) := by decide +kernel
theorem dl_597 : decode code 597 = .ok (.ireturn, 1) := by decide +kernel
theorem dl_598 : decode code 598 = .ok (.aload_n 1, 1) := by decide +kernel
theorem dl_599 : decode code 599 = .ok (.invokevirtual 81, 3) := by decide +kernel
theorem dl_602 : decode code 602 = .ok (.aload_n 2, 1) := by decide +kernel
theorem dl_603 : decode code 603 = .ok (.invokevirtual 84, 3) := by decide +kernel
theorem dl_606 : decode code 606 = .ok (.if_icmp .eq 143, 3) := by decide +kernel
theorem dl_609 : decode code 609 = .ok (.iconst 0, 1) := by decide +kernel
theorem dl_610 : decode code 610 = .ok (.ireturn, 1) := by decide +kernel
theorem dl_611 : decode code 611 = .ok (.aload_n 1, 1) := by decide +kernel
theorem dl_612 : decode code 612 = .ok (.invokevirtual 85, 3) := by decide +kernel
theorem dl_615 : decode code 615 = .ok (.aload_n 2, 1) := by decide +kernel
theorem dl_616 : decode code 616 = .ok (.invokevirtual 88, 3) := by decide +kernel
theorem dl_619 : decode code 619 = .ok (.if_icmp .eq 130, 3) := by decide +kernel
theorem dl_622 : decode code 622 = .ok (.iconst 0, 1) := by decide +kernel
theorem dl_623 : decode code 623 = .ok (.ireturn, 1) := by decide +kernel
theorem dl_624 : decode code 624 = .ok (.aload_n 1, 1) := by decide +kernel
theorem dl_625 : decode code 625 = .ok (.aload_n 0, 1) := by decide +kernel
theorem dl_626 : decode code 626 = .ok (.iload_n 3, 1) := by decide +kernel
theorem dl_627 : decode code 627 = .ok (.iconst 1, 1) := by decide +kernel
theorem dl_628 : decode code 628 = .ok (.iadd, 1) := by decide +kernel
theorem dl_629 : decode code 629 = .ok (.iaload, 1) := by decide +kernel
theorem dl_630 : decode code 630 = .ok (.aload_n 0, 1) := by decide +kernel
theorem dl_631 : decode code 631 = .ok (.iload_n 3, 1) := by decide +kernel
theorem dl_632 : decode code 632 = .ok (.iconst 2, 1) := by decide +kernel
theorem dl_633 : decode code 633 = .ok (.iadd, 1) := by decide +kernel
theorem dl_634 : decode code 634 = .ok (.iaload, 1) := by decide +kernel
theorem dl_635 : decode code 635 = .ok (.invokevirtual 89, 3) := by decide +kernel
theorem dl_638 : decode code 638 = .ok (.aload_n 2, 1) := by decide +kernel
theorem dl_639 : decode code 639 = .ok (.aload_n 0, 1) := by decide +kernel
theorem dl_640 : decode code 640 = .ok (.iload_n 3, 1) := by decide +kernel
theorem dl_641 : decode code 641 = .ok (.iconst 1, 1) := by decide +kernel
theorem dl_642 : decode code 642 = .ok (.iadd, 1) := by decide +kernel
theorem dl_643 : decode code 643 = .ok (.iaload, 1) := by decide +kernel
theorem dl_644 : decode code 644 = .ok (.aload_n 0, 1) := by decide +kernel
theorem dl_645 : decode code 645 = .ok (.iload_n 3, 1) := by decide +kernel
theorem dl_646 : decode code 646 = .ok (.iconst 2, 1) := by decide +kernel
theorem dl_647 : decode code 647 = .ok (.iadd, 1) := by decide +kernel
theorem dl_648 : decode code 648 = .ok (.iaload, 1) := by decide +kernel
theorem dl_649 : decode code 649 = .ok (.invokevirtual 92, 3) := by decide +kernel
theorem dl_652 : decode code 652 = .ok (.if_icmp .eq 97, 3) := by decide +kernel
theorem dl_655 : decode code 655 = .ok (.iconst 0, 1) := by decide +kernel
theorem dl_656 : decode code 656 = .ok (.ireturn, 1) := by decide +kernel
theorem dl_657 : decode code 657 = .ok (.aload_n 1, 1) := by decide +kernel
theorem dl_658 : decode code 658 = .ok (.aload_n 0, 1) := by decide +kernel
theorem dl_659 : decode code 659 = .ok (.iload_n 3, 1) := by decide +kernel
theorem dl_660 : decode code 660 = .ok (.iconst 1, 1) := by decide +kernel
theorem dl_661 : decode code 661 = .ok (.iadd, 1) := by decide +kernel
theorem dl_662 : decode code 662 = .ok (.iaload, 1) := by decide +kernel
theorem dl_663 : decode code 663 = .ok (.aload_n 0, 1) := by decide +kernel
theorem dl_664 : decode code 664 = .ok (.iload_n 3, 1) := by decide +kernel
theorem dl_665 : decode code 665 = .ok (.iconst 2, 1) := by decide +kernel
theorem dl_666 : decode code 666 = .ok (.iadd, 1) := by decide +kernel
theorem dl_667 : decode code 667 = .ok (.iaload, 1) := by decide +kernel
theorem dl_668 : decode code 668 = .ok (.invokevirtual 93, 3) := by decide +kernel
theorem dl_671 : decode code 671 = .ok (.aload_n 2, 1) := by decide +kernel
theorem dl_672 : decode code 672 = .ok (.aload_n 0, 1) := by decide +kernel
theorem dl_673 : decode code 673 = .ok (.iload_n 3, 1) := by decide +kernel
theorem dl_674 : decode code 674 = .ok (.iconst 1, 1) := by decide +kernel
theorem dl_675 : decode code 675 = .ok (.iadd, 1) := by decide +kernel
theorem dl_676 : decode code 676 = .ok (.iaload, 1) := by decide +kernel
theorem dl_677 : decode code 677 = .ok (.aload_n 0, 1) := by decide +kernel
theorem dl_678 : decode code 678 = .ok (.iload_n 3, 1) := by decide +kernel
theorem dl_679 : decode code 679 = .ok (.iconst 2, 1) := by decide +kernel
theorem dl_680 : decode code 680 = .ok (.iadd, 1) := by decide +kernel
theorem dl_681 : decode code 681 = .ok (.iaload, 1) := by decide +kernel
theorem dl_682 : decode code 682 = .ok (.invokevirtual 96, 3) := by decide +kernel
theorem dl_685 : decode code 685 = .ok (.if_icmp .eq 64, 3) := by decide +kernel
theorem dl_688 : decode code 688 = .ok (.iconst 0, 1) := by decide +kernel
theorem dl_689 : decode code 689 = .ok (.ireturn, 1) := by decide +kernel
theorem dl_690 : decode code 690 = .ok (.aload_n 1, 1) := by decide +kernel
theorem dl_691 : decode code 691 = .ok (.invokevirtual 97, 3) := by decide +kernel
theorem dl_694 : decode code 694 = .ok (.aload_n 2, 1) := by decide +kernel
theorem dl_695 : decode code 695 = .ok (.invokevirtual 100, 3) := by decide +kernel
theorem dl_698 : decode code 698 = .ok (.if_icmp .eq 51, 3) := by decide +kernel
theorem dl_701 : decode code 701 = .ok (.iconst 0, 1) := by decide +kernel
theorem dl_702 : decode code 702 = .ok (.ireturn, 1) := by decide +kernel
theorem dl_703 : decode code 703 = .ok (.aload_n 1, 1) := by decide +kernel
theorem dl_704 : decode code 704 = .ok (.aload_n 0, 1) := by decide +kernel
theorem dl_705 : decode code 705 = .ok (.iload_n 3, 1) := by decide +kernel
theorem dl_706 : decode code 706 = .ok (.iconst 1, 1) := by decide +kernel
theorem dl_707 : decode code 707 = .ok (.iadd, 1) := by decide +kernel
theorem dl_708 : decode code 708 = .ok (.iaload, 1) := by decide +kernel
theorem dl_709 : decode code 709 = .ok (.invokevirtual 101, 3) := by decide +kernel
theorem dl_712 : decode code 712 = .ok (.aload_n 2, 1) := by decide +kernel
theorem dl_713 : decode code 713 = .ok (.aload_n 0, 1) := by decide +kernel
theorem dl_714 : decode code 714 = .ok (.iload_n 3, 1) := by decide +kernel
theorem dl_715 : decode code 715 = .ok (.iconst 1, 1) := by decide +kernel
theorem dl_716 : decode code 716 = .ok (.iadd, 1) := by decide +kernel
theorem dl_717 : decode code 717 = .ok (.iaload, 1) := by decide +kernel
theorem dl_718 : decode code 718 = .ok (.invokevirtual 104, 3) := by decide +kernel
theorem dl_721 : decode code 721 = .ok (.if_icmp .eq 28, 3) := by decide +kernel
theorem dl_724 : decode code 724 = .ok (.iconst 0, 1) := by decide +kernel
theorem dl_725 : decode code 725 = .ok (.ireturn, 1) := by decide +kernel
theorem dl_726 : decode code 726 = .ok (.aload_n 1, 1) := by decide +kernel
theorem dl_727 : decode code 727 = .ok (.aload_n 0, 1) := by decide +kernel
theorem dl_728 : decode code 728 = .ok (.iload_n 3, 1) := by decide +kernel
theorem dl_729 : decode code 729 = .ok (.iconst 1, 1) := by decide +kernel
theorem dl_730 : decode code 730 = .ok (.iadd, 1) := by decide +kernel
theorem dl_731 : decode code 731 = .ok (.iaload, 1) := by decide +kernel
theorem dl_732 : decode code 732 = .ok (.invokevirtual 105, 3) := by decide +kernel
theorem dl_735 : decode code 735 = .ok (.aload_n 2, 1) := by decide +kernel
theorem dl_736 : decode code 736 = .ok (.aload_n 0, 1) := by decide +kernel
theorem dl_737 : decode code 737 = .ok (.iload_n 3, 1) := by decide +kernel
theorem dl_738 : decode code 738 = .ok (.iconst 1, 1) := by decide +kernel
theorem dl_739 : decode code 739 = .ok (.iadd, 1) := by decide +kernel
theorem dl_740 : decode code 740 = .ok (.iaload, 1) := by decide +kernel
theorem dl_741 : decode code 741 = .ok (.invokevirtual 108, 3) := by decide +kernel
theorem dl_744 : decode code 744 = .ok (.if_icmp .eq 5, 3) := by decide +kernel
theorem dl_747 : decode code 747 = .ok (.iconst 0, 1) := by decide +kernel
theorem dl_748 : decode code 748 = .ok (.ireturn, 1) := by decide +kernel
theorem dl_749 : decode code 749 = .ok (.iinc 3 4, 3) := by decide +kernel
theorem dl_752 : decode code 752 = .ok (.goto (-734), 3) := by decide +kernel
theorem dl_755 : decode code 755 = .ok (.iconst 1, 1) := by decide +kernel
theorem dl_756 : decode code 756 = .ok (.ireturn, 1) := by decide +kernel
