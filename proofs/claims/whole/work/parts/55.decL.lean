theorem dLaw_law_0 : decode code 0 = .ok (.new 7, 3) := by decide +kernel
theorem dLaw_law_3 : decode code 3 = .ok (.dup, 1) := by decide +kernel
theorem dLaw_law_4 : decode code 4 = .ok (.invokespecial 9, 3) := by decide +kernel
theorem dLaw_law_7 : decode code 7 = .ok (.astore_n 1, 1) := by decide +kernel
theorem dLaw_law_8 : decode code 8 = .ok (.new 10, 3) := by decide +kernel
theorem dLaw_law_11 : decode code 11 = .ok (.dup, 1) := by decide +kernel
theorem dLaw_law_12 : decode code 12 = .ok (.invokespecial 12, 3) := by decide +kernel
theorem dLaw_law_15 : decode code 15 = .ok (.astore_n 2, 1) := by decide +kernel
theorem dLaw_law_16 : decode code 16 = .ok (.iconst 0, 1) := by decide +kernel
theorem dLaw_law_17 : decode code 17 = .ok (.istore_n 3, 1) := by decide +kernel
theorem dLaw_law_18 : decode code 18 = .ok (.iload_n 3, 1) := by decide +kernel
theorem dLaw_law_19 : decode code 19 = .ok (.aload_n 0, 1) := by decide +kernel
theorem dLaw_law_20 : decode code 20 = .ok (.arraylength, 1) := by decide +kernel
theorem dLaw_law_21 : decode code 21 = .ok (.iconst 4, 1) := by decide +kernel
theorem dLaw_law_22 : decode code 22 = .ok (.isub, 1) := by decide +kernel
theorem dLaw_law_23 : decode code 23 = .ok (.if_icmp .gt 1069, 3) := by decide +kernel
theorem dLaw_law_26 : decode code 26 = .ok (.aload_n 0, 1) := by decide +kernel
theorem dLaw_law_27 : decode code 27 = .ok (.iload_n 3, 1) := by decide +kernel
theorem dLaw_law_28 : decode code 28 = .ok (.iaload, 1) := by decide +kernel
theorem dLaw_law_29 : decode code 29 = .ok (.bipush 31, 2) := by decide +kernel
theorem dLaw_law_31 : decode code 31 = .ok (.iand, 1) := by decide +kernel
theorem dLaw_law_32 : decode code 32 = .ok (.tableswitch 1054 0 27 #[128, 161, 184, 227, 250, 283, 306, 339, 362, 385, 428, 461, 484, 517, 560, 593, 636, 669, 702, 735, 768, 791, 824, 867, 910, 943, 966, 1005], 128) := by decide +kernel
theorem dLaw_law_160 : decode code 160 = .ok (.aload_n 1, 1) := by decide +kernel
theorem dLaw_law_161 : decode code 161 = .ok (.aload_n 0, 1) := by decide +kernel
theorem dLaw_law_162 : decode code 162 = .ok (.iload_n 3, 1) := by decide +kernel
theorem dLaw_law_163 : decode code 163 = .ok (.iconst 1, 1) := by decide +kernel
theorem dLaw_law_164 : decode code 164 = .ok (.iadd, 1) := by decide +kernel
theorem dLaw_law_165 : decode code 165 = .ok (.iaload, 1) := by decide +kernel
theorem dLaw_law_166 : decode code 166 = .ok (.aload_n 0, 1) := by decide +kernel
theorem dLaw_law_167 : decode code 167 = .ok (.iload_n 3, 1) := by decide +kernel
theorem dLaw_law_168 : decode code 168 = .ok (.iconst 2, 1) := by decide +kernel
theorem dLaw_law_169 : decode code 169 = .ok (.iadd, 1) := by decide +kernel
theorem dLaw_law_170 : decode code 170 = .ok (.iaload, 1) := by decide +kernel
theorem dLaw_law_171 : decode code 171 = .ok (.invokevirtual 13, 3) := by decide +kernel
theorem dLaw_law_174 : decode code 174 = .ok (.aload_n 2, 1) := by decide +kernel
theorem dLaw_law_175 : decode code 175 = .ok (.aload_n 0, 1) := by decide +kernel
theorem dLaw_law_176 : decode code 176 = .ok (.iload_n 3, 1) := by decide +kernel
theorem dLaw_law_177 : decode code 177 = .ok (.iconst 1, 1) := by decide +kernel
theorem dLaw_law_178 : decode code 178 = .ok (.iadd, 1) := by decide +kernel
theorem dLaw_law_179 : decode code 179 = .ok (.iaload, 1) := by decide +kernel
theorem dLaw_law_180 : decode code 180 = .ok (.aload_n 0, 1) := by decide +kernel
theorem dLaw_law_181 : decode code 181 = .ok (.iload_n 3, 1) := by decide +kernel
theorem dLaw_law_182 : decode code 182 = .ok (.iconst 2, 1) := by decide +kernel
theorem dLaw_law_183 : decode code 183 = .ok (.iadd, 1) := by decide +kernel
theorem dLaw_law_184 : decode code 184 = .ok (.iaload, 1) := by decide +kernel
theorem dLaw_law_185 : decode code 185 = .ok (.invokevirtual 17, 3) := by decide +kernel
theorem dLaw_law_188 : decode code 188 = .ok (.if_icmp .eq 898, 3) := by decide +kernel
theorem dLaw_law_191 : decode code 191 = .ok (.iconst 0, 1) := by decide +kernel
theorem dLaw_law_192 : decode code 192 = .ok (.ireturn, 1) := by decide +kernel
theorem dLaw_law_193 : decode code 193 = .ok (.aload_n 1, 1) := by decide +kernel
theorem dLaw_law_194 : decode code 194 = .ok (.aload_n 0, 1) := by decide +kernel
theorem dLaw_law_195 : decode code 195 = .ok (.iload_n 3, 1) := by decide +kernel
theorem dLaw_law_196 : decode code 196 = .ok (.iconst 1, 1) := by decide +kernel
theorem dLaw_law_197 : decode code 197 = .ok (.iadd, 1) := by decide +kernel
theorem dLaw_law_198 : decode code 198 = .ok (.iaload, 1) := by decide +kernel
theorem dLaw_law_199 : decode code 199 = .ok (.invokevirtual 18, 3) := by decide +kernel
theorem dLaw_law_202 : decode code 202 = .ok (.aload_n 2, 1) := by decide +kernel
theorem dLaw_law_203 : decode code 203 = .ok (.aload_n 0, 1) := by decide +kernel
theorem dLaw_law_204 : decode code 204 = .ok (.iload_n 3, 1) := by decide +kernel
theorem dLaw_law_205 : decode code 205 = .ok (.iconst 1, 1) := by decide +kernel
theorem dLaw_law_206 : decode code 206 = .ok (.iadd, 1) := by decide +kernel
theorem dLaw_law_207 : decode code 207 = .ok (.iaload, 1) := by decide +kernel
theorem dLaw_law_208 : decode code 208 = .ok (.invokevirtual 22, 3) := by decide +kernel
theorem dLaw_law_211 : decode code 211 = .ok (.if_icmp .eq 875, 3) := by decide +kernel
theorem dLaw_law_214 : decode code 214 = .ok (.iconst 0, 1) := by decide +kernel
theorem dLaw_law_215 : decode code 215 = .ok (.ireturn, 1) := by decide +kernel
theorem dLaw_law_216 : decode code 216 = .ok (.aload_n 1, 1) := by decide +kernel
theorem dLaw_law_217 : decode code 217 = .ok (.aload_n 0, 1) := by decide +kernel
theorem dLaw_law_218 : decode code 218 = .ok (.iload_n 3, 1) := by decide +kernel
theorem dLaw_law_219 : decode code 219 = .ok (.iconst 1, 1) := by decide +kernel
theorem dLaw_law_220 : decode code 220 = .ok (.iadd, 1) := by decide +kernel
theorem dLaw_law_221 : decode code 221 = .ok (.iaload, 1) := by decide +kernel
theorem dLaw_law_222 : decode code 222 = .ok (.aload_n 0, 1) := by decide +kernel
theorem dLaw_law_223 : decode code 223 = .ok (.iload_n 3, 1) := by decide +kernel
theorem dLaw_law_224 : decode code 224 = .ok (.iconst 2, 1) := by decide +kernel
theorem dLaw_law_225 : decode code 225 = .ok (.iadd, 1) := by decide +kernel
theorem dLaw_law_226 : decode code 226 = .ok (.iaload, 1) := by decide +kernel
theorem dLaw_law_227 : decode code 227 = .ok (.aload_n 0, 1) := by decide +kernel
theorem dLaw_law_228 : decode code 228 = .ok (.iload_n 3, 1) := by decide +kernel
theorem dLaw_law_229 : decode code 229 = .ok (.iconst 3, 1) := by decide +kernel
theorem dLaw_law_230 : decode code 230 = .ok (.iadd, 1) := by decide +kernel
theorem dLaw_law_231 : decode code 231 = .ok (.iaload, 1) := by decide +kernel
theorem dLaw_law_232 : decode code 232 = .ok (.invokevirtual 23, 3) := by decide +kernel
theorem dLaw_law_235 : decode code 235 = .ok (.aload_n 2, 1) := by decide +kernel
theorem dLaw_law_236 : decode code 236 = .ok (.aload_n 0, 1) := by decide +kernel
theorem dLaw_law_237 : decode code 237 = .ok (.iload_n 3, 1) := by decide +kernel
theorem dLaw_law_238 : decode code 238 = .ok (.iconst 1, 1) := by decide +kernel
theorem dLaw_law_239 : decode code 239 = .ok (.iadd, 1) := by decide +kernel
theorem dLaw_law_240 : decode code 240 = .ok (.iaload, 1) := by decide +kernel
theorem dLaw_law_241 : decode code 241 = .ok (.aload_n 0, 1) := by decide +kernel
theorem dLaw_law_242 : decode code 242 = .ok (.iload_n 3, 1) := by decide +kernel
theorem dLaw_law_243 : decode code 243 = .ok (.iconst 2, 1) := by decide +kernel
theorem dLaw_law_244 : decode code 244 = .ok (.iadd, 1) := by decide +kernel
theorem dLaw_law_245 : decode code 245 = .ok (.iaload, 1) := by decide +kernel
theorem dLaw_law_246 : decode code 246 = .ok (.aload_n 0, 1) := by decide +kernel
theorem dLaw_law_247 : decode code 247 = .ok (.iload_n 3, 1) := by decide +kernel
theorem dLaw_law_248 : decode code 248 = .ok (.iconst 3, 1) := by decide +kernel
theorem dLaw_law_249 : decode code 249 = .ok (.iadd, 1) := by decide +kernel
theorem dLaw_law_250 : decode code 250 = .ok (.iaload, 1) := by decide +kernel
theorem dLaw_law_251 : decode code 251 = .ok (.invokevirtual 27, 3) := by decide +kernel
theorem dLaw_law_254 : decode code 254 = .ok (.if_icmp .eq 832, 3) := by decide +kernel
theorem dLaw_law_257 : decode code 257 = .ok (.iconst 0, 1) := by decide +kernel
theorem dLaw_law_258 : decode code 258 = .ok (.ireturn, 1) := by decide +kernel
theorem dLaw_law_259 : decode code 259 = .ok (.aload_n 1, 1) := by decide +kernel
theorem dLaw_law_260 : decode code 260 = .ok (.aload_n 0, 1) := by decide +kernel
theorem dLaw_law_261 : decode code 261 = .ok (.iload_n 3, 1) := by decide +kernel
theorem dLaw_law_262 : decode code 262 = .ok (.iconst 1, 1) := by decide +kernel
theorem dLaw_law_263 : decode code 263 = .ok (.iadd, 1) := by decide +kernel
theorem dLaw_law_264 : decode code 264 = .ok (.iaload, 1) := by decide +kernel
theorem dLaw_law_265 : decode code 265 = .ok (.invokevirtual 28, 3) := by decide +kernel
theorem dLaw_law_268 : decode code 268 = .ok (.aload_n 2, 1) := by decide +kernel
theorem dLaw_law_269 : decode code 269 = .ok (.aload_n 0, 1) := by decide +kernel
theorem dLaw_law_270 : decode code 270 = .ok (.iload_n 3, 1) := by decide +kernel
theorem dLaw_law_271 : decode code 271 = .ok (.iconst 1, 1) := by decide +kernel
theorem dLaw_law_272 : decode code 272 = .ok (.iadd, 1) := by decide +kernel
theorem dLaw_law_273 : decode code 273 = .ok (.iaload, 1) := by decide +kernel
theorem dLaw_law_274 : decode code 274 = .ok (.invokevirtual 31, 3) := by decide +kernel
theorem dLaw_law_277 : decode code 277 = .ok (.if_icmp .eq 809, 3) := by decide +kernel
theorem dLaw_law_280 : decode code 280 = .ok (.iconst 0, 1) := by decide +kernel
theorem dLaw_law_281 : decode code 281 = .ok (.ireturn, 1) := by decide +kernel
theorem dLaw_law_282 : decode code 282 = .ok (.aload_n 1, 1) := by decide +kernel
theorem dLaw_law_283 : decode code 283 = .ok (.aload_n 0, 1) := by decide +kernel
theorem dLaw_law_284 : decode code 284 = .ok (.iload_n 3, 1) := by decide +kernel
theorem dLaw_law_285 : decode code 285 = .ok (.iconst 1, 1) := by decide +kernel
theorem dLaw_law_286 : decode code 286 = .ok (.iadd, 1) := by decide +kernel
theorem dLaw_law_287 : decode code 287 = .ok (.iaload, 1) := by decide +kernel
theorem dLaw_law_288 : decode code 288 = .ok (.aload_n 0, 1) := by decide +kernel
theorem dLaw_law_289 : decode code 289 = .ok (.iload_n 3, 1) := by decide +kernel
theorem dLaw_law_290 : decode code 290 = .ok (.iconst 2, 1) := by decide +kernel
theorem dLaw_law_291 : decode code 291 = .ok (.iadd, 1) := by decide +kernel
theorem dLaw_law_292 : decode code 292 = .ok (.iaload, 1) := by decide +kernel
theorem dLaw_law_293 : decode code 293 = .ok (.invokevirtual 32, 3) := by decide +kernel
theorem dLaw_law_296 : decode code 296 = .ok (.aload_n 2, 1) := by decide +kernel
theorem dLaw_law_297 : decode code 297 = .ok (.aload_n 0, 1) := by decide +kernel
theorem dLaw_law_298 : decode code 298 = .ok (.iload_n 3, 1) := by decide +kernel
theorem dLaw_law_299 : decode code 299 = .ok (.iconst 1, 1) := by decide +kernel
theorem dLaw_law_300 : decode code 300 = .ok (.iadd, 1) := by decide +kernel
theorem dLaw_law_301 : decode code 301 = .ok (.iaload, 1) := by decide +kernel
theorem dLaw_law_302 : decode code 302 = .ok (.aload_n 0, 1) := by decide +kernel
theorem dLaw_law_303 : decode code 303 = .ok (.iload_n 3, 1) := by decide +kernel
theorem dLaw_law_304 : decode code 304 = .ok (.iconst 2, 1) := by decide +kernel
theorem dLaw_law_305 : decode code 305 = .ok (.iadd, 1) := by decide +kernel
theorem dLaw_law_306 : decode code 306 = .ok (.iaload, 1) := by decide +kernel
theorem dLaw_law_307 : decode code 307 = .ok (.invokevirtual 35, 3) := by decide +kernel
theorem dLaw_law_310 : decode code 310 = .ok (.if_icmp .eq 776, 3) := by decide +kernel
theorem dLaw_law_313 : decode code 313 = .ok (.iconst 0, 1) := by decide +kernel
theorem dLaw_law_314 : decode code 314 = .ok (.ireturn, 1) := by decide +kernel
theorem dLaw_law_315 : decode code 315 = .ok (.aload_n 1, 1) := by decide +kernel
theorem dLaw_law_316 : decode code 316 = .ok (.aload_n 0, 1) := by decide +kernel
theorem dLaw_law_317 : decode code 317 = .ok (.iload_n 3, 1) := by decide +kernel
theorem dLaw_law_318 : decode code 318 = .ok (.iconst 1, 1) := by decide +kernel
theorem dLaw_law_319 : decode code 319 = .ok (.iadd, 1) := by decide +kernel
theorem dLaw_law_320 : decode code 320 = .ok (.iaload, 1) := by decide +kernel
theorem dLaw_law_321 : decode code 321 = .ok (.invokevirtual 36, 3) := by decide +kernel
theorem dLaw_law_324 : decode code 324 = .ok (.aload_n 2, 1) := by decide +kernel
theorem dLaw_law_325 : decode code 325 = .ok (.aload_n 0, 1) := by decide +kernel
theorem dLaw_law_326 : decode code 326 = .ok (.iload_n 3, 1) := by decide +kernel
theorem dLaw_law_327 : decode code 327 = .ok (.iconst 1, 1) := by decide +kernel
theorem dLaw_law_328 : decode code 328 = .ok (.iadd, 1) := by decide +kernel
theorem dLaw_law_329 : decode code 329 = .ok (.iaload, 1) := by decide +kernel
theorem dLaw_law_330 : decode code 330 = .ok (.invokevirtual 39, 3) := by decide +kernel
theorem dLaw_law_333 : decode code 333 = .ok (.if_icmp .eq 753, 3) := by decide +kernel
theorem dLaw_law_336 : decode code 336 = .ok (.iconst 0, 1) := by decide +kernel
theorem dLaw_law_337 : decode code 337 = .ok (.ireturn, 1) := by decide +kernel
theorem dLaw_law_338 : decode code 338 = .ok (.aload_n 1, 1) := by decide +kernel
theorem dLaw_law_339 : decode code 339 = .ok (.aload_n 0, 1) := by decide +kernel
theorem dLaw_law_340 : decode code 340 = .ok (.iload_n 3, 1) := by decide +kernel
theorem dLaw_law_341 : decode code 341 = .ok (.iconst 1, 1) := by decide +kernel
theorem dLaw_law_342 : decode code 342 = .ok (.iadd, 1) := by decide +kernel
theorem dLaw_law_343 : decode code 343 = .ok (.iaload, 1) := by decide +kernel
theorem dLaw_law_344 : decode code 344 = .ok (.aload_n 0, 1) := by decide +kernel
theorem dLaw_law_345 : decode code 345 = .ok (.iload_n 3, 1) := by decide +kernel
theorem dLaw_law_346 : decode code 346 = .ok (.iconst 2, 1) := by decide +kernel
theorem dLaw_law_347 : decode code 347 = .ok (.iadd, 1) := by decide +kernel
theorem dLaw_law_348 : decode code 348 = .ok (.iaload, 1) := by decide +kernel
theorem dLaw_law_349 : decode code 349 = .ok (.invokevirtual 40, 3) := by decide +kernel
theorem dLaw_law_352 : decode code 352 = .ok (.aload_n 2, 1) := by decide +kernel
theorem dLaw_law_353 : decode code 353 = .ok (.aload_n 0, 1) := by decide +kernel
theorem dLaw_law_354 : decode code 354 = .ok (.iload_n 3, 1) := by decide +kernel
theorem dLaw_law_355 : decode code 355 = .ok (.iconst 1, 1) := by decide +kernel
theorem dLaw_law_356 : decode code 356 = .ok (.iadd, 1) := by decide +kernel
theorem dLaw_law_357 : decode code 357 = .ok (.iaload, 1) := by decide +kernel
theorem dLaw_law_358 : decode code 358 = .ok (.aload_n 0, 1) := by decide +kernel
theorem dLaw_law_359 : decode code 359 = .ok (.iload_n 3, 1) := by decide +kernel
theorem dLaw_law_360 : decode code 360 = .ok (.iconst 2, 1) := by decide +kernel
theorem dLaw_law_361 : decode code 361 = .ok (.iadd, 1) := by decide +kernel
theorem dLaw_law_362 : decode code 362 = .ok (.iaload, 1) := by decide +kernel
theorem dLaw_law_363 : decode code 363 = .ok (.invokevirtual 43, 3) := by decide +kernel
theorem dLaw_law_366 : decode code 366 = .ok (.if_icmp .eq 720, 3) := by decide +kernel
theorem dLaw_law_369 : decode code 369 = .ok (.iconst 0, 1) := by decide +kernel
theorem dLaw_law_370 : decode code 370 = .ok (.ireturn, 1) := by decide +kernel
theorem dLaw_law_371 : decode code 371 = .ok (.aload_n 1, 1) := by decide +kernel
theorem dLaw_law_372 : decode code 372 = .ok (.aload_n 0, 1) := by decide +kernel
theorem dLaw_law_373 : decode code 373 = .ok (.iload_n 3, 1) := by decide +kernel
theorem dLaw_law_374 : decode code 374 = .ok (.iconst 1, 1) := by decide +kernel
theorem dLaw_law_375 : decode code 375 = .ok (.iadd, 1) := by decide +kernel
theorem dLaw_law_376 : decode code 376 = .ok (.iaload, 1) := by decide +kernel
theorem dLaw_law_377 : decode code 377 = .ok (.invokevirtual 44, 3) := by decide +kernel
theorem dLaw_law_380 : decode code 380 = .ok (.aload_n 2, 1) := by decide +kernel
theorem dLaw_law_381 : decode code 381 = .ok (.aload_n 0, 1) := by decide +kernel
theorem dLaw_law_382 : decode code 382 = .ok (.iload_n 3, 1) := by decide +kernel
theorem dLaw_law_383 : decode code 383 = .ok (.iconst 1, 1) := by decide +kernel
theorem dLaw_law_384 : decode code 384 = .ok (.iadd, 1) := by decide +kernel
theorem dLaw_law_385 : decode code 385 = .ok (.iaload, 1) := by decide +kernel
theorem dLaw_law_386 : decode code 386 = .ok (.invokevirtual 47, 3) := by decide +kernel
theorem dLaw_law_389 : decode code 389 = .ok (.if_icmp .eq 697, 3) := by decide +kernel
theorem dLaw_law_392 : decode code 392 = .ok (.iconst 0, 1) := by decide +kernel
theorem dLaw_law_393 : decode code 393 = .ok (.ireturn, 1) := by decide +kernel
theorem dLaw_law_394 : decode code 394 = .ok (.aload_n 1, 1) := by decide +kernel
theorem dLaw_law_395 : decode code 395 = .ok (.aload_n 0, 1) := by decide +kernel
theorem dLaw_law_396 : decode code 396 = .ok (.iload_n 3, 1) := by decide +kernel
theorem dLaw_law_397 : decode code 397 = .ok (.iconst 1, 1) := by decide +kernel
theorem dLaw_law_398 : decode code 398 = .ok (.iadd, 1) := by decide +kernel
theorem dLaw_law_399 : decode code 399 = .ok (.iaload, 1) := by decide +kernel
theorem dLaw_law_400 : decode code 400 = .ok (.invokevirtual 48, 3) := by decide +kernel
theorem dLaw_law_403 : decode code 403 = .ok (.aload_n 2, 1) := by decide +kernel
theorem dLaw_law_404 : decode code 404 = .ok (.aload_n 0, 1) := by decide +kernel
theorem dLaw_law_405 : decode code 405 = .ok (.iload_n 3, 1) := by decide +kernel
theorem dLaw_law_406 : decode code 406 = .ok (.iconst 1, 1) := by decide +kernel
theorem dLaw_law_407 : decode code 407 = .ok (.iadd, 1) := by decide +kernel
theorem dLaw_law_408 : decode code 408 = .ok (.iaload, 1) := by decide +kernel
theorem dLaw_law_409 : decode code 409 = .ok (.invokevirtual 51, 3) := by decide +kernel
theorem dLaw_law_412 : decode code 412 = .ok (.if_icmp .eq 674, 3) := by decide +kernel
theorem dLaw_law_415 : decode code 415 = .ok (.iconst 0, 1) := by decide +kernel
theorem dLaw_law_416 : decode code 416 = .ok (.ireturn, 1) := by decide +kernel
theorem dLaw_law_417 : decode code 417 = .ok (.aload_n 1, 1) := by decide +kernel
theorem dLaw_law_418 : decode code 418 = .ok (.aload_n 0, 1) := by decide +kernel
theorem dLaw_law_419 : decode code 419 = .ok (.iload_n 3, 1) := by decide +kernel
theorem dLaw_law_420 : decode code 420 = .ok (.iconst 1, 1) := by decide +kernel
theorem dLaw_law_421 : decode code 421 = .ok (.iadd, 1) := by decide +kernel
theorem dLaw_law_422 : decode code 422 = .ok (.iaload, 1) := by decide +kernel
theorem dLaw_law_423 : decode code 423 = .ok (.aload_n 0, 1) := by decide +kernel
theorem dLaw_law_424 : decode code 424 = .ok (.iload_n 3, 1) := by decide +kernel
theorem dLaw_law_425 : decode code 425 = .ok (.iconst 2, 1) := by decide +kernel
theorem dLaw_law_426 : decode code 426 = .ok (.iadd, 1) := by decide +kernel
theorem dLaw_law_427 : decode code 427 = .ok (.iaload, 1) := by decide +kernel
theorem dLaw_law_428 : decode code 428 = .ok (.aload_n 0, 1) := by decide +kernel
theorem dLaw_law_429 : decode code 429 = .ok (.iload_n 3, 1) := by decide +kernel
theorem dLaw_law_430 : decode code 430 = .ok (.iconst 3, 1) := by decide +kernel
theorem dLaw_law_431 : decode code 431 = .ok (.iadd, 1) := by decide +kernel
theorem dLaw_law_432 : decode code 432 = .ok (.iaload, 1) := by decide +kernel
theorem dLaw_law_433 : decode code 433 = .ok (.invokevirtual 52, 3) := by decide +kernel
theorem dLaw_law_436 : decode code 436 = .ok (.aload_n 2, 1) := by decide +kernel
theorem dLaw_law_437 : decode code 437 = .ok (.aload_n 0, 1) := by decide +kernel
theorem dLaw_law_438 : decode code 438 = .ok (.iload_n 3, 1) := by decide +kernel
theorem dLaw_law_439 : decode code 439 = .ok (.iconst 1, 1) := by decide +kernel
theorem dLaw_law_440 : decode code 440 = .ok (.iadd, 1) := by decide +kernel
theorem dLaw_law_441 : decode code 441 = .ok (.iaload, 1) := by decide +kernel
theorem dLaw_law_442 : decode code 442 = .ok (.aload_n 0, 1) := by decide +kernel
theorem dLaw_law_443 : decode code 443 = .ok (.iload_n 3, 1) := by decide +kernel
theorem dLaw_law_444 : decode code 444 = .ok (.iconst 2, 1) := by decide +kernel
theorem dLaw_law_445 : decode code 445 = .ok (.iadd, 1) := by decide +kernel
theorem dLaw_law_446 : decode code 446 = .ok (.iaload, 1) := by decide +kernel
theorem dLaw_law_447 : decode code 447 = .ok (.aload_n 0, 1) := by decide +kernel
theorem dLaw_law_448 : decode code 448 = .ok (.iload_n 3, 1) := by decide +kernel
theorem dLaw_law_449 : decode code 449 = .ok (.iconst 3, 1) := by decide +kernel
theorem dLaw_law_450 : decode code 450 = .ok (.iadd, 1) := by decide +kernel
theorem dLaw_law_451 : decode code 451 = .ok (.iaload, 1) := by decide +kernel
theorem dLaw_law_452 : decode code 452 = .ok (.invokevirtual 56, 3) := by decide +kernel
theorem dLaw_law_455 : decode code 455 = .ok (.if_icmp .eq 631, 3) := by decide +kernel
theorem dLaw_law_458 : decode code 458 = .ok (.iconst 0, 1) := by decide +kernel
theorem dLaw_law_459 : decode code 459 = .ok (.ireturn, 1) := by decide +kernel
theorem dLaw_law_460 : decode code 460 = .ok (.aload_n 1, 1) := by decide +kernel
theorem dLaw_law_461 : decode code 461 = .ok (.aload_n 0, 1) := by decide +kernel
theorem dLaw_law_462 : decode code 462 = .ok (.iload_n 3, 1) := by decide +kernel
theorem dLaw_law_463 : decode code 463 = .ok (.iconst 1, 1) := by decide +kernel
theorem dLaw_law_464 : decode code 464 = .ok (.iadd, 1) := by decide +kernel
theorem dLaw_law_465 : decode code 465 = .ok (.iaload, 1) := by decide +kernel
theorem dLaw_law_466 : decode code 466 = .ok (.aload_n 0, 1) := by decide +kernel
theorem dLaw_law_467 : decode code 467 = .ok (.iload_n 3, 1) := by decide +kernel
theorem dLaw_law_468 : decode code 468 = .ok (.iconst 2, 1) := by decide +kernel
theorem dLaw_law_469 : decode code 469 = .ok (.iadd, 1) := by decide +kernel
theorem dLaw_law_470 : decode code 470 = .ok (.iaload, 1) := by decide +kernel
theorem dLaw_law_471 : decode code 471 = .ok (.invokevirtual 57, 3) := by decide +kernel
theorem dLaw_law_474 : decode code 474 = .ok (.aload_n 2, 1) := by decide +kernel
theorem dLaw_law_475 : decode code 475 = .ok (.aload_n 0, 1) := by decide +kernel
theorem dLaw_law_476 : decode code 476 = .ok (.iload_n 3, 1) := by decide +kernel
theorem dLaw_law_477 : decode code 477 = .ok (.iconst 1, 1) := by decide +kernel
theorem dLaw_law_478 : decode code 478 = .ok (.iadd, 1) := by decide +kernel
theorem dLaw_law_479 : decode code 479 = .ok (.iaload, 1) := by decide +kernel
theorem dLaw_law_480 : decode code 480 = .ok (.aload_n 0, 1) := by decide +kernel
theorem dLaw_law_481 : decode code 481 = .ok (.iload_n 3, 1) := by decide +kernel
theorem dLaw_law_482 : decode code 482 = .ok (.iconst 2, 1) := by decide +kernel
theorem dLaw_law_483 : decode code 483 = .ok (.iadd, 1) := by decide +kernel
theorem dLaw_law_484 : decode code 484 = .ok (.iaload, 1) := by decide +kernel
theorem dLaw_law_485 : decode code 485 = .ok (.invokevirtual 60, 3) := by decide +kernel
theorem dLaw_law_488 : decode code 488 = .ok (.if_icmp .eq 598, 3) := by decide +kernel
theorem dLaw_law_491 : decode code 491 = .ok (.iconst 0, 1) := by decide +kernel
theorem dLaw_law_492 : decode code 492 = .ok (.ireturn, 1) := by decide +kernel
theorem dLaw_law_493 : decode code 493 = .ok (.aload_n 1, 1) := by decide +kernel
theorem dLaw_law_494 : decode code 494 = .ok (.aload_n 0, 1) := by decide +kernel
theorem dLaw_law_495 : decode code 495 = .ok (.iload_n 3, 1) := by decide +kernel
theorem dLaw_law_496 : decode code 496 = .ok (.iconst 1, 1) := by decide +kernel
theorem dLaw_law_497 : decode code 497 = .ok (.iadd, 1) := by decide +kernel
theorem dLaw_law_498 : decode code 498 = .ok (.iaload, 1) := by decide +kernel
theorem dLaw_law_499 : decode code 499 = .ok (.invokevirtual 61, 3) := by decide +kernel
theorem dLaw_law_502 : decode code 502 = .ok (.aload_n 2, 1) := by decide +kernel
theorem dLaw_law_503 : decode code 503 = .ok (.aload_n 0, 1) := by decide +kernel
theorem dLaw_law_504 : decode code 504 = .ok (.iload_n 3, 1) := by decide +kernel
theorem dLaw_law_505 : decode code 505 = .ok (.iconst 1, 1) := by decide +kernel
theorem dLaw_law_506 : decode code 506 = .ok (.iadd, 1) := by decide +kernel
theorem dLaw_law_507 : decode code 507 = .ok (.iaload, 1) := by decide +kernel
theorem dLaw_law_508 : decode code 508 = .ok (.invokevirtual 64, 3) := by decide +kernel
theorem dLaw_law_511 : decode code 511 = .ok (.if_icmp .eq 575, 3) := by decide +kernel
theorem dLaw_law_514 : decode code 514 = .ok (.iconst 0, 1) := by decide +kernel
theorem dLaw_law_515 : decode code 515 = .ok (.ireturn, 1) := by decide +kernel
theorem dLaw_law_516 : decode code 516 = .ok (.aload_n 1, 1) := by decide +kernel
theorem dLaw_law_517 : decode code 517 = .ok (.aload_n 0, 1) := by decide +kernel
theorem dLaw_law_518 : decode code 518 = .ok (.iload_n 3, 1) := by decide +kernel
theorem dLaw_law_519 : decode code 519 = .ok (.iconst 1, 1) := by decide +kernel
theorem dLaw_law_520 : decode code 520 = .ok (.iadd, 1) := by decide +kernel
theorem dLaw_law_521 : decode code 521 = .ok (.iaload, 1) := by decide +kernel
theorem dLaw_law_522 : decode code 522 = .ok (.aload_n 0, 1) := by decide +kernel
theorem dLaw_law_523 : decode code 523 = .ok (.iload_n 3, 1) := by decide +kernel
theorem dLaw_law_524 : decode code 524 = .ok (.iconst 2, 1) := by decide +kernel
theorem dLaw_law_525 : decode code 525 = .ok (.iadd, 1) := by decide +kernel
theorem dLaw_law_526 : decode code 526 = .ok (.iaload, 1) := by decide +kernel
theorem dLaw_law_527 : decode code 527 = .ok (.invokevirtual 65, 3) := by decide +kernel
theorem dLaw_law_530 : decode code 530 = .ok (.aload_n 2, 1) := by decide +kernel
theorem dLaw_law_531 : decode code 531 = .ok (.aload_n 0, 1) := by decide +kernel
theorem dLaw_law_532 : decode code 532 = .ok (.iload_n 3, 1) := by decide +kernel
theorem dLaw_law_533 : decode code 533 = .ok (.iconst 1, 1) := by decide +kernel
theorem dLaw_law_534 : decode code 534 = .ok (.iadd, 1) := by decide +kernel
theorem dLaw_law_535 : decode code 535 = .ok (.iaload, 1) := by decide +kernel
theorem dLaw_law_536 : decode code 536 = .ok (.aload_n 0, 1) := by decide +kernel
theorem dLaw_law_537 : decode code 537 = .ok (.iload_n 3, 1) := by decide +kernel
theorem dLaw_law_538 : decode code 538 = .ok (.iconst 2, 1) := by decide +kernel
theorem dLaw_law_539 : decode code 539 = .ok (.iadd, 1) := by decide +kernel
theorem dLaw_law_540 : decode code 540 = .ok (.iaload, 1) := by decide +kernel
theorem dLaw_law_541 : decode code 541 = .ok (.invokevirtual 68, 3) := by decide +kernel
theorem dLaw_law_544 : decode code 544 = .ok (.if_icmp .eq 542, 3) := by decide +kernel
theorem dLaw_law_547 : decode code 547 = .ok (.iconst 0, 1) := by decide +kernel
theorem dLaw_law_548 : decode code 548 = .ok (.ireturn, 1) := by decide +kernel
theorem dLaw_law_549 : decode code 549 = .ok (.aload_n 1, 1) := by decide +kernel
theorem dLaw_law_550 : decode code 550 = .ok (.aload_n 0, 1) := by decide +kernel
theorem dLaw_law_551 : decode code 551 = .ok (.iload_n 3, 1) := by decide +kernel
theorem dLaw_law_552 : decode code 552 = .ok (.iconst 1, 1) := by decide +kernel
theorem dLaw_law_553 : decode code 553 = .ok (.iadd, 1) := by decide +kernel
theorem dLaw_law_554 : decode code 554 = .ok (.iaload, 1) := by decide +kernel
theorem dLaw_law_555 : decode code 555 = .ok (.aload_n 0, 1) := by decide +kernel
theorem dLaw_law_556 : decode code 556 = .ok (.iload_n 3, 1) := by decide +kernel
theorem dLaw_law_557 : decode code 557 = .ok (.iconst 2, 1) := by decide +kernel
theorem dLaw_law_558 : decode code 558 = .ok (.iadd, 1) := by decide +kernel
theorem dLaw_law_559 : decode code 559 = .ok (.iaload, 1) := by decide +kernel
theorem dLaw_law_560 : decode code 560 = .ok (.aload_n 0, 1) := by decide +kernel
theorem dLaw_law_561 : decode code 561 = .ok (.iload_n 3, 1) := by decide +kernel
theorem dLaw_law_562 : decode code 562 = .ok (.iconst 3, 1) := by decide +kernel
theorem dLaw_law_563 : decode code 563 = .ok (.iadd, 1) := by decide +kernel
theorem dLaw_law_564 : decode code 564 = .ok (.iaload, 1) := by decide +kernel
theorem dLaw_law_565 : decode code 565 = .ok (.invokevirtual 69, 3) := by decide +kernel
theorem dLaw_law_568 : decode code 568 = .ok (.aload_n 2, 1) := by decide +kernel
theorem dLaw_law_569 : decode code 569 = .ok (.aload_n 0, 1) := by decide +kernel
theorem dLaw_law_570 : decode code 570 = .ok (.iload_n 3, 1) := by decide +kernel
theorem dLaw_law_571 : decode code 571 = .ok (.iconst 1, 1) := by decide +kernel
theorem dLaw_law_572 : decode code 572 = .ok (.iadd, 1) := by decide +kernel
theorem dLaw_law_573 : decode code 573 = .ok (.iaload, 1) := by decide +kernel
theorem dLaw_law_574 : decode code 574 = .ok (.aload_n 0, 1) := by decide +kernel
theorem dLaw_law_575 : decode code 575 = .ok (.iload_n 3, 1) := by decide +kernel
theorem dLaw_law_576 : decode code 576 = .ok (.iconst 2, 1) := by decide +kernel
theorem dLaw_law_577 : decode code 577 = .ok (.iadd, 1) := by decide +kernel
theorem dLaw_law_578 : decode code 578 = .ok (.iaload, 1) := by decide +kernel
theorem dLaw_law_579 : decode code 579 = .ok (.aload_n 0, 1) := by decide +kernel
theorem dLaw_law_580 : decode code 580 = .ok (.iload_n 3, 1) := by decide +kernel
theorem dLaw_law_581 : decode code 581 = .ok (.iconst 3, 1) := by decide +kernel
theorem dLaw_law_582 : decode code 582 = .ok (.iadd, 1) := by decide +kernel
theorem dLaw_law_583 : decode code 583 = .ok (.iaload, 1) := by decide +kernel
theorem dLaw_law_584 : decode code 584 = .ok (.invokevirtual 72, 3) := by decide +kernel
theorem dLaw_law_587 : decode code 587 = .ok (.if_icmp .eq 499, 3) := by decide +kernel
theorem dLaw_law_590 : decode code 590 = .ok (.iconst 0, 1) := by decide +kernel
theorem dLaw_law_591 : decode code 591 = .ok (.ireturn, 1) := by decide +kernel
theorem dLaw_law_592 : decode code 592 = .ok (.aload_n 1, 1) := by decide +kernel
theorem dLaw_law_593 : decode code 593 = .ok (.aload_n 0, 1) := by decide +kernel
theorem dLaw_law_594 : decode code 594 = .ok (.iload_n 3, 1) := by decide +kernel
theorem dLaw_law_595 : decode code 595 = .ok (.iconst 1, 1) := by decide +kernel
theorem dLaw_law_596 : decode code 596 = .ok (.iadd, 1) := by decide +kernel
theorem dLaw_law_597 : decode code 597 = .ok (.iaload, 1) := by decide +kernel
theorem dLaw_law_598 : decode code 598 = .ok (.aload_n 0, 1) := by decide +kernel
theorem dLaw_law_599 : decode code 599 = .ok (.iload_n 3, 1) := by decide +kernel
theorem dLaw_law_600 : decode code 600 = .ok (.iconst 2, 1) := by decide +kernel
theorem dLaw_law_601 : decode code 601 = .ok (.iadd, 1) := by decide +kernel
theorem dLaw_law_602 : decode code 602 = .ok (.iaload, 1) := by decide +kernel
theorem dLaw_law_603 : decode code 603 = .ok (.invokevirtual 73, 3) := by decide +kernel
theorem dLaw_law_606 : decode code 606 = .ok (.aload_n 2, 1) := by decide +kernel
theorem dLaw_law_607 : decode code 607 = .ok (.aload_n 0, 1) := by decide +kernel
theorem dLaw_law_608 : decode code 608 = .ok (.iload_n 3, 1) := by decide +kernel
theorem dLaw_law_609 : decode code 609 = .ok (.iconst 1, 1) := by decide +kernel
theorem dLaw_law_610 : decode code 610 = .ok (.iadd, 1) := by decide +kernel
theorem dLaw_law_611 : decode code 611 = .ok (.iaload, 1) := by decide +kernel
theorem dLaw_law_612 : decode code 612 = .ok (.aload_n 0, 1) := by decide +kernel
theorem dLaw_law_613 : decode code 613 = .ok (.iload_n 3, 1) := by decide +kernel
theorem dLaw_law_614 : decode code 614 = .ok (.iconst 2, 1) := by decide +kernel
theorem dLaw_law_615 : decode code 615 = .ok (.iadd, 1) := by decide +kernel
theorem dLaw_law_616 : decode code 616 = .ok (.iaload, 1) := by decide +kernel
theorem dLaw_law_617 : decode code 617 = .ok (.invokevirtual 76, 3) := by decide +kernel
theorem dLaw_law_620 : decode code 620 = .ok (.if_icmp .eq 466, 3) := by decide +kernel
theorem dLaw_law_623 : decode code 623 = .ok (.iconst 0, 1) := by decide +kernel
theorem dLaw_law_624 : decode code 624 = .ok (.ireturn, 1) := by decide +kernel
theorem dLaw_law_625 : decode code 625 = .ok (.aload_n 1, 1) := by decide +kernel
theorem dLaw_law_626 : decode code 626 = .ok (.aload_n 0, 1) := by decide +kernel
theorem dLaw_law_627 : decode code 627 = .ok (.iload_n 3, 1) := by decide +kernel
theorem dLaw_law_628 : decode code 628 = .ok (.iconst 1, 1) := by decide +kernel
theorem dLaw_law_629 : decode code 629 = .ok (.iadd, 1) := by decide +kernel
theorem dLaw_law_630 : decode code 630 = .ok (.iaload, 1) := by decide +kernel
theorem dLaw_law_631 : decode code 631 = .ok (.aload_n 0, 1) := by decide +kernel
theorem dLaw_law_632 : decode code 632 = .ok (.iload_n 3, 1) := by decide +kernel
theorem dLaw_law_633 : decode code 633 = .ok (.iconst 2, 1) := by decide +kernel
theorem dLaw_law_634 : decode code 634 = .ok (.iadd, 1) := by decide +kernel
theorem dLaw_law_635 : decode code 635 = .ok (.iaload, 1) := by decide +kernel
theorem dLaw_law_636 : decode code 636 = .ok (.aload_n 0, 1) := by decide +kernel
theorem dLaw_law_637 : decode code 637 = .ok (.iload_n 3, 1) := by decide +kernel
theorem dLaw_law_638 : decode code 638 = .ok (.iconst 3, 1) := by decide +kernel
theorem dLaw_law_639 : decode code 639 = .ok (.iadd, 1) := by decide +kernel
theorem dLaw_law_640 : decode code 640 = .ok (.iaload, 1) := by decide +kernel
theorem dLaw_law_641 : decode code 641 = .ok (.invokevirtual 77, 3) := by decide +kernel
theorem dLaw_law_644 : decode code 644 = .ok (.aload_n 2, 1) := by decide +kernel
theorem dLaw_law_645 : decode code 645 = .ok (.aload_n 0, 1) := by decide +kernel
theorem dLaw_law_646 : decode code 646 = .ok (.iload_n 3, 1) := by decide +kernel
theorem dLaw_law_647 : decode code 647 = .ok (.iconst 1, 1) := by decide +kernel
theorem dLaw_law_648 : decode code 648 = .ok (.iadd, 1) := by decide +kernel
theorem dLaw_law_649 : decode code 649 = .ok (.iaload, 1) := by decide +kernel
theorem dLaw_law_650 : decode code 650 = .ok (.aload_n 0, 1) := by decide +kernel
theorem dLaw_law_651 : decode code 651 = .ok (.iload_n 3, 1) := by decide +kernel
theorem dLaw_law_652 : decode code 652 = .ok (.iconst 2, 1) := by decide +kernel
theorem dLaw_law_653 : decode code 653 = .ok (.iadd, 1) := by decide +kernel
theorem dLaw_law_654 : decode code 654 = .ok (.iaload, 1) := by decide +kernel
theorem dLaw_law_655 : decode code 655 = .ok (.aload_n 0, 1) := by decide +kernel
theorem dLaw_law_656 : decode code 656 = .ok (.iload_n 3, 1) := by decide +kernel
theorem dLaw_law_657 : decode code 657 = .ok (.iconst 3, 1) := by decide +kernel
theorem dLaw_law_658 : decode code 658 = .ok (.iadd, 1) := by decide +kernel
theorem dLaw_law_659 : decode code 659 = .ok (.iaload, 1) := by decide +kernel
theorem dLaw_law_660 : decode code 660 = .ok (.invokevirtual 80, 3) := by decide +kernel
theorem dLaw_law_663 : decode code 663 = .ok (.if_icmp .eq 423, 3) := by decide +kernel
theorem dLaw_law_666 : decode code 666 = .ok (.iconst 0, 1) := by decide +kernel
theorem dLaw_law_667 : decode code 667 = .ok (.ireturn, 1) := by decide +kernel
theorem dLaw_law_668 : decode code 668 = .ok (.aload_n 1, 1) := by decide +kernel
theorem dLaw_law_669 : decode code 669 = .ok (.aload_n 0, 1) := by decide +kernel
theorem dLaw_law_670 : decode code 670 = .ok (.iload_n 3, 1) := by decide +kernel
theorem dLaw_law_671 : decode code 671 = .ok (.iconst 1, 1) := by decide +kernel
theorem dLaw_law_672 : decode code 672 = .ok (.iadd, 1) := by decide +kernel
theorem dLaw_law_673 : decode code 673 = .ok (.iaload, 1) := by decide +kernel
theorem dLaw_law_674 : decode code 674 = .ok (.aload_n 0, 1) := by decide +kernel
theorem dLaw_law_675 : decode code 675 = .ok (.iload_n 3, 1) := by decide +kernel
theorem dLaw_law_676 : decode code 676 = .ok (.iconst 2, 1) := by decide +kernel
theorem dLaw_law_677 : decode code 677 = .ok (.iadd, 1) := by decide +kernel
theorem dLaw_law_678 : decode code 678 = .ok (.iaload, 1) := by decide +kernel
theorem dLaw_law_679 : decode code 679 = .ok (.invokevirtual 81, 3) := by decide +kernel
theorem dLaw_law_682 : decode code 682 = .ok (.aload_n 2, 1) := by decide +kernel
theorem dLaw_law_683 : decode code 683 = .ok (.aload_n 0, 1) := by decide +kernel
theorem dLaw_law_684 : decode code 684 = .ok (.iload_n 3, 1) := by decide +kernel
theorem dLaw_law_685 : decode code 685 = .ok (.iconst 1, 1) := by decide +kernel
theorem dLaw_law_686 : decode code 686 = .ok (.iadd, 1) := by decide +kernel
theorem dLaw_law_687 : decode code 687 = .ok (.iaload, 1) := by decide +kernel
theorem dLaw_law_688 : decode code 688 = .ok (.aload_n 0, 1) := by decide +kernel
theorem dLaw_law_689 : decode code 689 = .ok (.iload_n 3, 1) := by decide +kernel
theorem dLaw_law_690 : decode code 690 = .ok (.iconst 2, 1) := by decide +kernel
theorem dLaw_law_691 : decode code 691 = .ok (.iadd, 1) := by decide +kernel
theorem dLaw_law_692 : decode code 692 = .ok (.iaload, 1) := by decide +kernel
theorem dLaw_law_693 : decode code 693 = .ok (.invokevirtual 84, 3) := by decide +kernel
theorem dLaw_law_696 : decode code 696 = .ok (.if_icmp .eq 390, 3) := by decide +kernel
theorem dLaw_law_699 : decode code 699 = .ok (.iconst 0, 1) := by decide +kernel
theorem dLaw_law_700 : decode code 700 = .ok (.ireturn, 1) := by decide +kernel
theorem dLaw_law_701 : decode code 701 = .ok (.aload_n 1, 1) := by decide +kernel
theorem dLaw_law_702 : decode code 702 = .ok (.aload_n 0, 1) := by decide +kernel
theorem dLaw_law_703 : decode code 703 = .ok (.iload_n 3, 1) := by decide +kernel
theorem dLaw_law_704 : decode code 704 = .ok (.iconst 1, 1) := by decide +kernel
theorem dLaw_law_705 : decode code 705 = .ok (.iadd, 1) := by decide +kernel
theorem dLaw_law_706 : decode code 706 = .ok (.iaload, 1) := by decide +kernel
theorem dLaw_law_707 : decode code 707 = .ok (.aload_n 0, 1) := by decide +kernel
theorem dLaw_law_708 : decode code 708 = .ok (.iload_n 3, 1) := by decide +kernel
theorem dLaw_law_709 : decode code 709 = .ok (.iconst 2, 1) := by decide +kernel
theorem dLaw_law_710 : decode code 710 = .ok (.iadd, 1) := by decide +kernel
theorem dLaw_law_711 : decode code 711 = .ok (.iaload, 1) := by decide +kernel
theorem dLaw_law_712 : decode code 712 = .ok (.invokevirtual 85, 3) := by decide +kernel
theorem dLaw_law_715 : decode code 715 = .ok (.aload_n 2, 1) := by decide +kernel
theorem dLaw_law_716 : decode code 716 = .ok (.aload_n 0, 1) := by decide +kernel
theorem dLaw_law_717 : decode code 717 = .ok (.iload_n 3, 1) := by decide +kernel
theorem dLaw_law_718 : decode code 718 = .ok (.iconst 1, 1) := by decide +kernel
theorem dLaw_law_719 : decode code 719 = .ok (.iadd, 1) := by decide +kernel
theorem dLaw_law_720 : decode code 720 = .ok (.iaload, 1) := by decide +kernel
theorem dLaw_law_721 : decode code 721 = .ok (.aload_n 0, 1) := by decide +kernel
theorem dLaw_law_722 : decode code 722 = .ok (.iload_n 3, 1) := by decide +kernel
theorem dLaw_law_723 : decode code 723 = .ok (.iconst 2, 1) := by decide +kernel
theorem dLaw_law_724 : decode code 724 = .ok (.iadd, 1) := by decide +kernel
theorem dLaw_law_725 : decode code 725 = .ok (.iaload, 1) := by decide +kernel
theorem dLaw_law_726 : decode code 726 = .ok (.invokevirtual 88, 3) := by decide +kernel
theorem dLaw_law_729 : decode code 729 = .ok (.if_icmp .eq 357, 3) := by decide +kernel
theorem dLaw_law_732 : decode code 732 = .ok (.iconst 0, 1) := by decide +kernel
theorem dLaw_law_733 : decode code 733 = .ok (.ireturn, 1) := by decide +kernel
theorem dLaw_law_734 : decode code 734 = .ok (.aload_n 1, 1) := by decide +kernel
theorem dLaw_law_735 : decode code 735 = .ok (.aload_n 0, 1) := by decide +kernel
theorem dLaw_law_736 : decode code 736 = .ok (.iload_n 3, 1) := by decide +kernel
theorem dLaw_law_737 : decode code 737 = .ok (.iconst 1, 1) := by decide +kernel
theorem dLaw_law_738 : decode code 738 = .ok (.iadd, 1) := by decide +kernel
theorem dLaw_law_739 : decode code 739 = .ok (.iaload, 1) := by decide +kernel
theorem dLaw_law_740 : decode code 740 = .ok (.aload_n 0, 1) := by decide +kernel
theorem dLaw_law_741 : decode code 741 = .ok (.iload_n 3, 1) := by decide +kernel
theorem dLaw_law_742 : decode code 742 = .ok (.iconst 2, 1) := by decide +kernel
theorem dLaw_law_743 : decode code 743 = .ok (.iadd, 1) := by decide +kernel
theorem dLaw_law_744 : decode code 744 = .ok (.iaload, 1) := by decide +kernel
theorem dLaw_law_745 : decode code 745 = .ok (.invokevirtual 89, 3) := by decide +kernel
theorem dLaw_law_748 : decode code 748 = .ok (.aload_n 2, 1) := by decide +kernel
theorem dLaw_law_749 : decode code 749 = .ok (.aload_n 0, 1) := by decide +kernel
theorem dLaw_law_750 : decode code 750 = .ok (.iload_n 3, 1) := by decide +kernel
theorem dLaw_law_751 : decode code 751 = .ok (.iconst 1, 1) := by decide +kernel
theorem dLaw_law_752 : decode code 752 = .ok (.iadd, 1) := by decide +kernel
theorem dLaw_law_753 : decode code 753 = .ok (.iaload, 1) := by decide +kernel
theorem dLaw_law_754 : decode code 754 = .ok (.aload_n 0, 1) := by decide +kernel
theorem dLaw_law_755 : decode code 755 = .ok (.iload_n 3, 1) := by decide +kernel
theorem dLaw_law_756 : decode code 756 = .ok (.iconst 2, 1) := by decide +kernel
theorem dLaw_law_757 : decode code 757 = .ok (.iadd, 1) := by decide +kernel
theorem dLaw_law_758 : decode code 758 = .ok (.iaload, 1) := by decide +kernel
theorem dLaw_law_759 : decode code 759 = .ok (.invokevirtual 93, 3) := by decide +kernel
theorem dLaw_law_762 : decode code 762 = .ok (.if_icmp .eq 324, 3) := by decide +kernel
theorem dLaw_law_765 : decode code 765 = .ok (.iconst 0, 1) := by decide +kernel
theorem dLaw_law_766 : decode code 766 = .ok (.ireturn, 1) := by decide +kernel
theorem dLaw_law_767 : decode code 767 = .ok (.aload_n 1, 1) := by decide +kernel
theorem dLaw_law_768 : decode code 768 = .ok (.aload_n 0, 1) := by decide +kernel
theorem dLaw_law_769 : decode code 769 = .ok (.iload_n 3, 1) := by decide +kernel
theorem dLaw_law_770 : decode code 770 = .ok (.iconst 1, 1) := by decide +kernel
theorem dLaw_law_771 : decode code 771 = .ok (.iadd, 1) := by decide +kernel
theorem dLaw_law_772 : decode code 772 = .ok (.iaload, 1) := by decide +kernel
theorem dLaw_law_773 : decode code 773 = .ok (.aload_n 0, 1) := by decide +kernel
theorem dLaw_law_774 : decode code 774 = .ok (.iload_n 3, 1) := by decide +kernel
theorem dLaw_law_775 : decode code 775 = .ok (.iconst 2, 1) := by decide +kernel
theorem dLaw_law_776 : decode code 776 = .ok (.iadd, 1) := by decide +kernel
theorem dLaw_law_777 : decode code 777 = .ok (.iaload, 1) := by decide +kernel
theorem dLaw_law_778 : decode code 778 = .ok (.invokevirtual 94, 3) := by decide +kernel
theorem dLaw_law_781 : decode code 781 = .ok (.aload_n 2, 1) := by decide +kernel
theorem dLaw_law_782 : decode code 782 = .ok (.aload_n 0, 1) := by decide +kernel
theorem dLaw_law_783 : decode code 783 = .ok (.iload_n 3, 1) := by decide +kernel
theorem dLaw_law_784 : decode code 784 = .ok (.iconst 1, 1) := by decide +kernel
theorem dLaw_law_785 : decode code 785 = .ok (.iadd, 1) := by decide +kernel
theorem dLaw_law_786 : decode code 786 = .ok (.iaload, 1) := by decide +kernel
theorem dLaw_law_787 : decode code 787 = .ok (.aload_n 0, 1) := by decide +kernel
theorem dLaw_law_788 : decode code 788 = .ok (.iload_n 3, 1) := by decide +kernel
theorem dLaw_law_789 : decode code 789 = .ok (.iconst 2, 1) := by decide +kernel
theorem dLaw_law_790 : decode code 790 = .ok (.iadd, 1) := by decide +kernel
theorem dLaw_law_791 : decode code 791 = .ok (.iaload, 1) := by decide +kernel
theorem dLaw_law_792 : decode code 792 = .ok (.invokevirtual 97, 3) := by decide +kernel
theorem dLaw_law_795 : decode code 795 = .ok (.if_icmp .eq 291, 3) := by decide +kernel
theorem dLaw_law_798 : decode code 798 = .ok (.iconst 0, 1) := by decide +kernel
theorem dLaw_law_799 : decode code 799 = .ok (.ireturn, 1) := by decide +kernel
theorem dLaw_law_800 : decode code 800 = .ok (.aload_n 1, 1) := by decide +kernel
theorem dLaw_law_801 : decode code 801 = .ok (.aload_n 0, 1) := by decide +kernel
theorem dLaw_law_802 : decode code 802 = .ok (.iload_n 3, 1) := by decide +kernel
theorem dLaw_law_803 : decode code 803 = .ok (.iconst 1, 1) := by decide +kernel
theorem dLaw_law_804 : decode code 804 = .ok (.iadd, 1) := by decide +kernel
theorem dLaw_law_805 : decode code 805 = .ok (.iaload, 1) := by decide +kernel
theorem dLaw_law_806 : decode code 806 = .ok (.invokevirtual 98, 3) := by decide +kernel
theorem dLaw_law_809 : decode code 809 = .ok (.aload_n 2, 1) := by decide +kernel
theorem dLaw_law_810 : decode code 810 = .ok (.aload_n 0, 1) := by decide +kernel
theorem dLaw_law_811 : decode code 811 = .ok (.iload_n 3, 1) := by decide +kernel
theorem dLaw_law_812 : decode code 812 = .ok (.iconst 1, 1) := by decide +kernel
theorem dLaw_law_813 : decode code 813 = .ok (.iadd, 1) := by decide +kernel
theorem dLaw_law_814 : decode code 814 = .ok (.iaload, 1) := by decide +kernel
theorem dLaw_law_815 : decode code 815 = .ok (.invokevirtual 101, 3) := by decide +kernel
theorem dLaw_law_818 : decode code 818 = .ok (.if_icmp .eq 268, 3) := by decide +kernel
theorem dLaw_law_821 : decode code 821 = .ok (.iconst 0, 1) := by decide +kernel
theorem dLaw_law_822 : decode code 822 = .ok (.ireturn, 1) := by decide +kernel
theorem dLaw_law_823 : decode code 823 = .ok (.aload_n 1, 1) := by decide +kernel
theorem dLaw_law_824 : decode code 824 = .ok (.aload_n 0, 1) := by decide +kernel
theorem dLaw_law_825 : decode code 825 = .ok (.iload_n 3, 1) := by decide +kernel
theorem dLaw_law_826 : decode code 826 = .ok (.iconst 1, 1) := by decide +kernel
theorem dLaw_law_827 : decode code 827 = .ok (.iadd, 1) := by decide +kernel
theorem dLaw_law_828 : decode code 828 = .ok (.iaload, 1) := by decide +kernel
theorem dLaw_law_829 : decode code 829 = .ok (.aload_n 0, 1) := by decide +kernel
theorem dLaw_law_830 : decode code 830 = .ok (.iload_n 3, 1) := by decide +kernel
theorem dLaw_law_831 : decode code 831 = .ok (.iconst 2, 1) := by decide +kernel
theorem dLaw_law_832 : decode code 832 = .ok (.iadd, 1) := by decide +kernel
theorem dLaw_law_833 : decode code 833 = .ok (.iaload, 1) := by decide +kernel
theorem dLaw_law_834 : decode code 834 = .ok (.invokevirtual 102, 3) := by decide +kernel
theorem dLaw_law_837 : decode code 837 = .ok (.aload_n 2, 1) := by decide +kernel
theorem dLaw_law_838 : decode code 838 = .ok (.aload_n 0, 1) := by decide +kernel
theorem dLaw_law_839 : decode code 839 = .ok (.iload_n 3, 1) := by decide +kernel
theorem dLaw_law_840 : decode code 840 = .ok (.iconst 1, 1) := by decide +kernel
theorem dLaw_law_841 : decode code 841 = .ok (.iadd, 1) := by decide +kernel
theorem dLaw_law_842 : decode code 842 = .ok (.iaload, 1) := by decide +kernel
theorem dLaw_law_843 : decode code 843 = .ok (.aload_n 0, 1) := by decide +kernel
theorem dLaw_law_844 : decode code 844 = .ok (.iload_n 3, 1) := by decide +kernel
theorem dLaw_law_845 : decode code 845 = .ok (.iconst 2, 1) := by decide +kernel
theorem dLaw_law_846 : decode code 846 = .ok (.iadd, 1) := by decide +kernel
theorem dLaw_law_847 : decode code 847 = .ok (.iaload, 1) := by decide +kernel
theorem dLaw_law_848 : decode code 848 = .ok (.invokevirtual 105, 3) := by decide +kernel
theorem dLaw_law_851 : decode code 851 = .ok (.if_icmp .eq 235, 3) := by decide +kernel
theorem dLaw_law_854 : decode code 854 = .ok (.iconst 0, 1) := by decide +kernel
theorem dLaw_law_855 : decode code 855 = .ok (.ireturn, 1) := by decide +kernel
theorem dLaw_law_856 : decode code 856 = .ok (.aload_n 1, 1) := by decide +kernel
theorem dLaw_law_857 : decode code 857 = .ok (.aload_n 0, 1) := by decide +kernel
theorem dLaw_law_858 : decode code 858 = .ok (.iload_n 3, 1) := by decide +kernel
theorem dLaw_law_859 : decode code 859 = .ok (.iconst 1, 1) := by decide +kernel
theorem dLaw_law_860 : decode code 860 = .ok (.iadd, 1) := by decide +kernel
theorem dLaw_law_861 : decode code 861 = .ok (.iaload, 1) := by decide +kernel
theorem dLaw_law_862 : decode code 862 = .ok (.aload_n 0, 1) := by decide +kernel
theorem dLaw_law_863 : decode code 863 = .ok (.iload_n 3, 1) := by decide +kernel
theorem dLaw_law_864 : decode code 864 = .ok (.iconst 2, 1) := by decide +kernel
theorem dLaw_law_865 : decode code 865 = .ok (.iadd, 1) := by decide +kernel
theorem dLaw_law_866 : decode code 866 = .ok (.iaload, 1) := by decide +kernel
theorem dLaw_law_867 : decode code 867 = .ok (.aload_n 0, 1) := by decide +kernel
theorem dLaw_law_868 : decode code 868 = .ok (.iload_n 3, 1) := by decide +kernel
theorem dLaw_law_869 : decode code 869 = .ok (.iconst 3, 1) := by decide +kernel
theorem dLaw_law_870 : decode code 870 = .ok (.iadd, 1) := by decide +kernel
theorem dLaw_law_871 : decode code 871 = .ok (.iaload, 1) := by decide +kernel
theorem dLaw_law_872 : decode code 872 = .ok (.invokevirtual 106, 3) := by decide +kernel
theorem dLaw_law_875 : decode code 875 = .ok (.aload_n 2, 1) := by decide +kernel
theorem dLaw_law_876 : decode code 876 = .ok (.aload_n 0, 1) := by decide +kernel
theorem dLaw_law_877 : decode code 877 = .ok (.iload_n 3, 1) := by decide +kernel
theorem dLaw_law_878 : decode code 878 = .ok (.iconst 1, 1) := by decide +kernel
theorem dLaw_law_879 : decode code 879 = .ok (.iadd, 1) := by decide +kernel
theorem dLaw_law_880 : decode code 880 = .ok (.iaload, 1) := by decide +kernel
theorem dLaw_law_881 : decode code 881 = .ok (.aload_n 0, 1) := by decide +kernel
theorem dLaw_law_882 : decode code 882 = .ok (.iload_n 3, 1) := by decide +kernel
theorem dLaw_law_883 : decode code 883 = .ok (.iconst 2, 1) := by decide +kernel
theorem dLaw_law_884 : decode code 884 = .ok (.iadd, 1) := by decide +kernel
theorem dLaw_law_885 : decode code 885 = .ok (.iaload, 1) := by decide +kernel
theorem dLaw_law_886 : decode code 886 = .ok (.aload_n 0, 1) := by decide +kernel
theorem dLaw_law_887 : decode code 887 = .ok (.iload_n 3, 1) := by decide +kernel
theorem dLaw_law_888 : decode code 888 = .ok (.iconst 3, 1) := by decide +kernel
theorem dLaw_law_889 : decode code 889 = .ok (.iadd, 1) := by decide +kernel
theorem dLaw_law_890 : decode code 890 = .ok (.iaload, 1) := by decide +kernel
theorem dLaw_law_891 : decode code 891 = .ok (.invokevirtual 109, 3) := by decide +kernel
theorem dLaw_law_894 : decode code 894 = .ok (.if_icmp .eq 192, 3) := by decide +kernel
theorem dLaw_law_897 : decode code 897 = .ok (.iconst 0, 1) := by decide +kernel
theorem dLaw_law_898 : decode code 898 = .ok (.ireturn, 1) := by decide +kernel
theorem dLaw_law_899 : decode code 899 = .ok (.aload_n 1, 1) := by decide +kernel
theorem dLaw_law_900 : decode code 900 = .ok (.aload_n 0, 1) := by decide +kernel
theorem dLaw_law_901 : decode code 901 = .ok (.iload_n 3, 1) := by decide +kernel
theorem dLaw_law_902 : decode code 902 = .ok (.iconst 1, 1) := by decide +kernel
theorem dLaw_law_903 : decode code 903 = .ok (.iadd, 1) := by decide +kernel
theorem dLaw_law_904 : decode code 904 = .ok (.iaload, 1) := by decide +kernel
theorem dLaw_law_905 : decode code 905 = .ok (.aload_n 0, 1) := by decide +kernel
theorem dLaw_law_906 : decode code 906 = .ok (.iload_n 3, 1) := by decide +kernel
theorem dLaw_law_907 : decode code 907 = .ok (.iconst 2, 1) := by decide +kernel
theorem dLaw_law_908 : decode code 908 = .ok (.iadd, 1) := by decide +kernel
theorem dLaw_law_909 : decode code 909 = .ok (.iaload, 1) := by decide +kernel
theorem dLaw_law_910 : decode code 910 = .ok (.aload_n 0, 1) := by decide +kernel
theorem dLaw_law_911 : decode code 911 = .ok (.iload_n 3, 1) := by decide +kernel
theorem dLaw_law_912 : decode code 912 = .ok (.iconst 3, 1) := by decide +kernel
theorem dLaw_law_913 : decode code 913 = .ok (.iadd, 1) := by decide +kernel
theorem dLaw_law_914 : decode code 914 = .ok (.iaload, 1) := by decide +kernel
theorem dLaw_law_915 : decode code 915 = .ok (.invokevirtual 110, 3) := by decide +kernel
theorem dLaw_law_918 : decode code 918 = .ok (.aload_n 2, 1) := by decide +kernel
theorem dLaw_law_919 : decode code 919 = .ok (.aload_n 0, 1) := by decide +kernel
theorem dLaw_law_920 : decode code 920 = .ok (.iload_n 3, 1) := by decide +kernel
theorem dLaw_law_921 : decode code 921 = .ok (.iconst 1, 1) := by decide +kernel
theorem dLaw_law_922 : decode code 922 = .ok (.iadd, 1) := by decide +kernel
theorem dLaw_law_923 : decode code 923 = .ok (.iaload, 1) := by decide +kernel
theorem dLaw_law_924 : decode code 924 = .ok (.aload_n 0, 1) := by decide +kernel
theorem dLaw_law_925 : decode code 925 = .ok (.iload_n 3, 1) := by decide +kernel
theorem dLaw_law_926 : decode code 926 = .ok (.iconst 2, 1) := by decide +kernel
theorem dLaw_law_927 : decode code 927 = .ok (.iadd, 1) := by decide +kernel
theorem dLaw_law_928 : decode code 928 = .ok (.iaload, 1) := by decide +kernel
theorem dLaw_law_929 : decode code 929 = .ok (.aload_n 0, 1) := by decide +kernel
theorem dLaw_law_930 : decode code 930 = .ok (.iload_n 3, 1) := by decide +kernel
theorem dLaw_law_931 : decode code 931 = .ok (.iconst 3, 1) := by decide +kernel
theorem dLaw_law_932 : decode code 932 = .ok (.iadd, 1) := by decide +kernel
theorem dLaw_law_933 : decode code 933 = .ok (.iaload, 1) := by decide +kernel
theorem dLaw_law_934 : decode code 934 = .ok (.invokevirtual 113, 3) := by decide +kernel
theorem dLaw_law_937 : decode code 937 = .ok (.if_icmp .eq 149, 3) := by decide +kernel
theorem dLaw_law_940 : decode code 940 = .ok (.iconst 0, 1) := by decide +kernel
theorem dLaw_law_941 : decode code 941 = .ok (.ireturn, 1) := by decide +kernel
theorem dLaw_law_942 : decode code 942 = .ok (.aload_n 1, 1) := by decide +kernel
theorem dLaw_law_943 : decode code 943 = .ok (.aload_n 0, 1) := by decide +kernel
theorem dLaw_law_944 : decode code 944 = .ok (.iload_n 3, 1) := by decide +kernel
theorem dLaw_law_945 : decode code 945 = .ok (.iconst 1, 1) := by decide +kernel
theorem dLaw_law_946 : decode code 946 = .ok (.iadd, 1) := by decide +kernel
theorem dLaw_law_947 : decode code 947 = .ok (.iaload, 1) := by decide +kernel
theorem dLaw_law_948 : decode code 948 = .ok (.aload_n 0, 1) := by decide +kernel
theorem dLaw_law_949 : decode code 949 = .ok (.iload_n 3, 1) := by decide +kernel
theorem dLaw_law_950 : decode code 950 = .ok (.iconst 2, 1) := by decide +kernel
theorem dLaw_law_951 : decode code 951 = .ok (.iadd, 1) := by decide +kernel
theorem dLaw_law_952 : decode code 952 = .ok (.iaload, 1) := by decide +kernel
theorem dLaw_law_953 : decode code 953 = .ok (.invokevirtual 114, 3) := by decide +kernel
theorem dLaw_law_956 : decode code 956 = .ok (.aload_n 2, 1) := by decide +kernel
theorem dLaw_law_957 : decode code 957 = .ok (.aload_n 0, 1) := by decide +kernel
theorem dLaw_law_958 : decode code 958 = .ok (.iload_n 3, 1) := by decide +kernel
theorem dLaw_law_959 : decode code 959 = .ok (.iconst 1, 1) := by decide +kernel
theorem dLaw_law_960 : decode code 960 = .ok (.iadd, 1) := by decide +kernel
theorem dLaw_law_961 : decode code 961 = .ok (.iaload, 1) := by decide +kernel
theorem dLaw_law_962 : decode code 962 = .ok (.aload_n 0, 1) := by decide +kernel
theorem dLaw_law_963 : decode code 963 = .ok (.iload_n 3, 1) := by decide +kernel
theorem dLaw_law_964 : decode code 964 = .ok (.iconst 2, 1) := by decide +kernel
theorem dLaw_law_965 : decode code 965 = .ok (.iadd, 1) := by decide +kernel
theorem dLaw_law_966 : decode code 966 = .ok (.iaload, 1) := by decide +kernel
theorem dLaw_law_967 : decode code 967 = .ok (.invokevirtual 117, 3) := by decide +kernel
theorem dLaw_law_970 : decode code 970 = .ok (.if_icmp .eq 116, 3) := by decide +kernel
theorem dLaw_law_973 : decode code 973 = .ok (.iconst 0, 1) := by decide +kernel
theorem dLaw_law_974 : decode code 974 = .ok (.ireturn, 1) := by decide +kernel
theorem dLaw_law_975 : decode code 975 = .ok (.aload_n 1, 1) := by decide +kernel
theorem dLaw_law_976 : decode code 976 = .ok (.aload_n 0, 1) := by decide +kernel
theorem dLaw_law_977 : decode code 977 = .ok (.iload_n 3, 1) := by decide +kernel
theorem dLaw_law_978 : decode code 978 = .ok (.iconst 1, 1) := by decide +kernel
theorem dLaw_law_979 : decode code 979 = .ok (.iadd, 1) := by decide +kernel
theorem dLaw_law_980 : decode code 980 = .ok (.iaload, 1) := by decide +kernel
theorem dLaw_law_981 : decode code 981 = .ok (.invokevirtual 118, 3) := by decide +kernel
theorem dLaw_law_984 : decode code 984 = .ok (.aload_n 2, 1) := by decide +kernel
theorem dLaw_law_985 : decode code 985 = .ok (.aload_n 0, 1) := by decide +kernel
theorem dLaw_law_986 : decode code 986 = .ok (.iload_n 3, 1) := by decide +kernel
theorem dLaw_law_987 : decode code 987 = .ok (.iconst 1, 1) := by decide +kernel
theorem dLaw_law_988 : decode code 988 = .ok (.iadd, 1) := by decide +kernel
theorem dLaw_law_989 : decode code 989 = .ok (.iaload, 1) := by decide +kernel
theorem dLaw_law_990 : decode code 990 = .ok (.invokevirtual 121, 3) := by decide +kernel
theorem dLaw_law_993 : decode code 993 = .ok (.if_icmp .eq 93, 3) := by decide +kernel
theorem dLaw_law_996 : decode code 996 = .ok (.iconst 0, 1) := by decide +kernel
theorem dLaw_law_997 : decode code 997 = .ok (.ireturn, 1) := by decide +kernel
theorem dLaw_law_998 : decode code 998 = .ok (.aload_n 1, 1) := by decide +kernel
theorem dLaw_law_999 : decode code 999 = .ok (.aload_n 0, 1) := by decide +kernel
theorem dLaw_law_1000 : decode code 1000 = .ok (.iload_n 3, 1) := by decide +kernel
theorem dLaw_law_1001 : decode code 1001 = .ok (.iconst 1, 1) := by decide +kernel
theorem dLaw_law_1002 : decode code 1002 = .ok (.iadd, 1) := by decide +kernel
theorem dLaw_law_1003 : decode code 1003 = .ok (.iaload, 1) := by decide +kernel
theorem dLaw_law_1004 : decode code 1004 = .ok (.ifCond .eq 7, 3) := by decide +kernel
theorem dLaw_law_1007 : decode code 1007 = .ok (.iconst 1, 1) := by decide +kernel
theorem dLaw_law_1008 : decode code 1008 = .ok (.goto 4, 3) := by decide +kernel
theorem dLaw_law_1011 : decode code 1011 = .ok (.iconst 0, 1) := by decide +kernel
theorem dLaw_law_1012 : decode code 1012 = .ok (.invokevirtual 122, 3) := by decide +kernel
theorem dLaw_law_1015 : decode code 1015 = .ok (.aload_n 2, 1) := by decide +kernel
theorem dLaw_law_1016 : decode code 1016 = .ok (.aload_n 0, 1) := by decide +kernel
theorem dLaw_law_1017 : decode code 1017 = .ok (.iload_n 3, 1) := by decide +kernel
theorem dLaw_law_1018 : decode code 1018 = .ok (.iconst 1, 1) := by decide +kernel
theorem dLaw_law_1019 : decode code 1019 = .ok (.iadd, 1) := by decide +kernel
theorem dLaw_law_1020 : decode code 1020 = .ok (.iaload, 1) := by decide +kernel
theorem dLaw_law_1021 : decode code 1021 = .ok (.ifCond .eq 7, 3) := by decide +kernel
theorem dLaw_law_1024 : decode code 1024 = .ok (.iconst 1, 1) := by decide +kernel
theorem dLaw_law_1025 : decode code 1025 = .ok (.goto 4, 3) := by decide +kernel
theorem dLaw_law_1028 : decode code 1028 = .ok (.iconst 0, 1) := by decide +kernel
theorem dLaw_law_1029 : decode code 1029 = .ok (.invokevirtual 126, 3) := by decide +kernel
theorem dLaw_law_1032 : decode code 1032 = .ok (.if_icmp .eq 54, 3) := by decide +kernel
theorem dLaw_law_1035 : decode code 1035 = .ok (.iconst 0, 1) := by decide +kernel
theorem dLaw_law_1036 : decode code 1036 = .ok (.ireturn, 1) := by decide +kernel
theorem dLaw_law_1037 : decode code 1037 = .ok (.aload_n 1, 1) := by decide +kernel
theorem dLaw_law_1038 : decode code 1038 = .ok (.aload_n 0, 1) := by decide +kernel
theorem dLaw_law_1039 : decode code 1039 = .ok (.iload_n 3, 1) := by decide +kernel
theorem dLaw_law_1040 : decode code 1040 = .ok (.iconst 1, 1) := by decide +kernel
theorem dLaw_law_1041 : decode code 1041 = .ok (.iadd, 1) := by decide +kernel
theorem dLaw_law_1042 : decode code 1042 = .ok (.iaload, 1) := by decide +kernel
theorem dLaw_law_1043 : decode code 1043 = .ok (.ifCond .eq 7, 3) := by decide +kernel
theorem dLaw_law_1046 : decode code 1046 = .ok (.iconst 1, 1) := by decide +kernel
theorem dLaw_law_1047 : decode code 1047 = .ok (.goto 4, 3) := by decide +kernel
theorem dLaw_law_1050 : decode code 1050 = .ok (.iconst 0, 1) := by decide +kernel
theorem dLaw_law_1051 : decode code 1051 = .ok (.aload_n 0, 1) := by decide +kernel
theorem dLaw_law_1052 : decode code 1052 = .ok (.iload_n 3, 1) := by decide +kernel
theorem dLaw_law_1053 : decode code 1053 = .ok (.iconst 2, 1) := by decide +kernel
theorem dLaw_law_1054 : decode code 1054 = .ok (.iadd, 1) := by decide +kernel
theorem dLaw_law_1055 : decode code 1055 = .ok (.iaload, 1) := by decide +kernel
theorem dLaw_law_1056 : decode code 1056 = .ok (.invokevirtual 127, 3) := by decide +kernel
theorem dLaw_law_1059 : decode code 1059 = .ok (.aload_n 2, 1) := by decide +kernel
theorem dLaw_law_1060 : decode code 1060 = .ok (.aload_n 0, 1) := by decide +kernel
theorem dLaw_law_1061 : decode code 1061 = .ok (.iload_n 3, 1) := by decide +kernel
theorem dLaw_law_1062 : decode code 1062 = .ok (.iconst 1, 1) := by decide +kernel
theorem dLaw_law_1063 : decode code 1063 = .ok (.iadd, 1) := by decide +kernel
theorem dLaw_law_1064 : decode code 1064 = .ok (.iaload, 1) := by decide +kernel
theorem dLaw_law_1065 : decode code 1065 = .ok (.ifCond .eq 7, 3) := by decide +kernel
theorem dLaw_law_1068 : decode code 1068 = .ok (.iconst 1, 1) := by decide +kernel
theorem dLaw_law_1069 : decode code 1069 = .ok (.goto 4, 3) := by decide +kernel
theorem dLaw_law_1072 : decode code 1072 = .ok (.iconst 0, 1) := by decide +kernel
theorem dLaw_law_1073 : decode code 1073 = .ok (.aload_n 0, 1) := by decide +kernel
theorem dLaw_law_1074 : decode code 1074 = .ok (.iload_n 3, 1) := by decide +kernel
theorem dLaw_law_1075 : decode code 1075 = .ok (.iconst 2, 1) := by decide +kernel
theorem dLaw_law_1076 : decode code 1076 = .ok (.iadd, 1) := by decide +kernel
theorem dLaw_law_1077 : decode code 1077 = .ok (.iaload, 1) := by decide +kernel
theorem dLaw_law_1078 : decode code 1078 = .ok (.invokevirtual 131, 3) := by decide +kernel
theorem dLaw_law_1081 : decode code 1081 = .ok (.if_icmp .eq 5, 3) := by decide +kernel
theorem dLaw_law_1084 : decode code 1084 = .ok (.iconst 0, 1) := by decide +kernel
theorem dLaw_law_1085 : decode code 1085 = .ok (.ireturn, 1) := by decide +kernel
theorem dLaw_law_1086 : decode code 1086 = .ok (.iinc 3 4, 3) := by decide +kernel
theorem dLaw_law_1089 : decode code 1089 = .ok (.goto (-1071), 3) := by decide +kernel
theorem dLaw_law_1092 : decode code 1092 = .ok (.iconst 1, 1) := by decide +kernel
theorem dLaw_law_1093 : decode code 1093 = .ok (.ireturn, 1) := by decide +kernel
