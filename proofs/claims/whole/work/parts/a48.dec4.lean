theorem d_L_law_0 : decode code 0 = .ok (.new 7, 3) := by decide +kernel
theorem d_L_law_3 : decode code 3 = .ok (.dup, 1) := by decide +kernel
theorem d_L_law_4 : decode code 4 = .ok (.invokespecial 9, 3) := by decide +kernel
theorem d_L_law_7 : decode code 7 = .ok (.astore_n 1, 1) := by decide +kernel
theorem d_L_law_8 : decode code 8 = .ok (.new 10, 3) := by decide +kernel
theorem d_L_law_11 : decode code 11 = .ok (.dup, 1) := by decide +kernel
theorem d_L_law_12 : decode code 12 = .ok (.invokespecial 12, 3) := by decide +kernel
theorem d_L_law_15 : decode code 15 = .ok (.astore_n 2, 1) := by decide +kernel
theorem d_L_law_16 : decode code 16 = .ok (.iconst 0, 1) := by decide +kernel
theorem d_L_law_17 : decode code 17 = .ok (.istore_n 3, 1) := by decide +kernel
theorem d_L_law_18 : decode code 18 = .ok (.iload_n 3, 1) := by decide +kernel
theorem d_L_law_19 : decode code 19 = .ok (.aload_n 0, 1) := by decide +kernel
theorem d_L_law_20 : decode code 20 = .ok (.arraylength, 1) := by decide +kernel
theorem d_L_law_21 : decode code 21 = .ok (.bipush 7, 2) := by decide +kernel
theorem d_L_law_23 : decode code 23 = .ok (.isub, 1) := by decide +kernel
theorem d_L_law_24 : decode code 24 = .ok (.if_icmp .gt 1388, 3) := by decide +kernel
theorem d_L_law_27 : decode code 27 = .ok (.aload_n 0, 1) := by decide +kernel
theorem d_L_law_28 : decode code 28 = .ok (.iload_n 3, 1) := by decide +kernel
theorem d_L_law_29 : decode code 29 = .ok (.iaload, 1) := by decide +kernel
theorem d_L_law_30 : decode code 30 = .ok (.bipush 31, 2) := by decide +kernel
theorem d_L_law_32 : decode code 32 = .ok (.iand, 1) := by decide +kernel
theorem d_L_law_33 : decode code 33 = .ok (.tableswitch 1373 0 28 #[131, 194, 217, 250, 273, 306, 349, 382, 425, 468, 511, 564, 588, 621, 664, 707, 750, 803, 846, 889, 948, 991, 1044, 1087, 1178, 1241, 1304, 1327, 1350], 131) := by decide +kernel
theorem d_L_law_164 : decode code 164 = .ok (.aload_n 1, 1) := by decide +kernel
theorem d_L_law_165 : decode code 165 = .ok (.aload_n 0, 1) := by decide +kernel
theorem d_L_law_166 : decode code 166 = .ok (.iload_n 3, 1) := by decide +kernel
theorem d_L_law_167 : decode code 167 = .ok (.iconst 1, 1) := by decide +kernel
theorem d_L_law_168 : decode code 168 = .ok (.iadd, 1) := by decide +kernel
theorem d_L_law_169 : decode code 169 = .ok (.iaload, 1) := by decide +kernel
theorem d_L_law_170 : decode code 170 = .ok (.aload_n 0, 1) := by decide +kernel
theorem d_L_law_171 : decode code 171 = .ok (.iload_n 3, 1) := by decide +kernel
theorem d_L_law_172 : decode code 172 = .ok (.iconst 2, 1) := by decide +kernel
theorem d_L_law_173 : decode code 173 = .ok (.iadd, 1) := by decide +kernel
theorem d_L_law_174 : decode code 174 = .ok (.iaload, 1) := by decide +kernel
theorem d_L_law_175 : decode code 175 = .ok (.aload_n 0, 1) := by decide +kernel
theorem d_L_law_176 : decode code 176 = .ok (.iload_n 3, 1) := by decide +kernel
theorem d_L_law_177 : decode code 177 = .ok (.iconst 3, 1) := by decide +kernel
theorem d_L_law_178 : decode code 178 = .ok (.iadd, 1) := by decide +kernel
theorem d_L_law_179 : decode code 179 = .ok (.iaload, 1) := by decide +kernel
theorem d_L_law_180 : decode code 180 = .ok (.aload_n 0, 1) := by decide +kernel
theorem d_L_law_181 : decode code 181 = .ok (.iload_n 3, 1) := by decide +kernel
theorem d_L_law_182 : decode code 182 = .ok (.iconst 4, 1) := by decide +kernel
theorem d_L_law_183 : decode code 183 = .ok (.iadd, 1) := by decide +kernel
theorem d_L_law_184 : decode code 184 = .ok (.iaload, 1) := by decide +kernel
theorem d_L_law_185 : decode code 185 = .ok (.aload_n 0, 1) := by decide +kernel
theorem d_L_law_186 : decode code 186 = .ok (.iload_n 3, 1) := by decide +kernel
theorem d_L_law_187 : decode code 187 = .ok (.iconst 5, 1) := by decide +kernel
theorem d_L_law_188 : decode code 188 = .ok (.iadd, 1) := by decide +kernel
theorem d_L_law_189 : decode code 189 = .ok (.iaload, 1) := by decide +kernel
theorem d_L_law_190 : decode code 190 = .ok (.invokevirtual 13, 3) := by decide +kernel
theorem d_L_law_193 : decode code 193 = .ok (.aload_n 2, 1) := by decide +kernel
theorem d_L_law_194 : decode code 194 = .ok (.aload_n 0, 1) := by decide +kernel
theorem d_L_law_195 : decode code 195 = .ok (.iload_n 3, 1) := by decide +kernel
theorem d_L_law_196 : decode code 196 = .ok (.iconst 1, 1) := by decide +kernel
theorem d_L_law_197 : decode code 197 = .ok (.iadd, 1) := by decide +kernel
theorem d_L_law_198 : decode code 198 = .ok (.iaload, 1) := by decide +kernel
theorem d_L_law_199 : decode code 199 = .ok (.aload_n 0, 1) := by decide +kernel
theorem d_L_law_200 : decode code 200 = .ok (.iload_n 3, 1) := by decide +kernel
theorem d_L_law_201 : decode code 201 = .ok (.iconst 2, 1) := by decide +kernel
theorem d_L_law_202 : decode code 202 = .ok (.iadd, 1) := by decide +kernel
theorem d_L_law_203 : decode code 203 = .ok (.iaload, 1) := by decide +kernel
theorem d_L_law_204 : decode code 204 = .ok (.aload_n 0, 1) := by decide +kernel
theorem d_L_law_205 : decode code 205 = .ok (.iload_n 3, 1) := by decide +kernel
theorem d_L_law_206 : decode code 206 = .ok (.iconst 3, 1) := by decide +kernel
theorem d_L_law_207 : decode code 207 = .ok (.iadd, 1) := by decide +kernel
theorem d_L_law_208 : decode code 208 = .ok (.iaload, 1) := by decide +kernel
theorem d_L_law_209 : decode code 209 = .ok (.aload_n 0, 1) := by decide +kernel
theorem d_L_law_210 : decode code 210 = .ok (.iload_n 3, 1) := by decide +kernel
theorem d_L_law_211 : decode code 211 = .ok (.iconst 4, 1) := by decide +kernel
theorem d_L_law_212 : decode code 212 = .ok (.iadd, 1) := by decide +kernel
theorem d_L_law_213 : decode code 213 = .ok (.iaload, 1) := by decide +kernel
theorem d_L_law_214 : decode code 214 = .ok (.aload_n 0, 1) := by decide +kernel
theorem d_L_law_215 : decode code 215 = .ok (.iload_n 3, 1) := by decide +kernel
theorem d_L_law_216 : decode code 216 = .ok (.iconst 5, 1) := by decide +kernel
theorem d_L_law_217 : decode code 217 = .ok (.iadd, 1) := by decide +kernel
theorem d_L_law_218 : decode code 218 = .ok (.iaload, 1) := by decide +kernel
theorem d_L_law_219 : decode code 219 = .ok (.invokevirtual 17, 3) := by decide +kernel
theorem d_L_law_222 : decode code 222 = .ok (.if_icmp .eq 1184, 3) := by decide +kernel
theorem d_L_law_225 : decode code 225 = .ok (.iconst 0, 1) := by decide +kernel
theorem d_L_law_226 : decode code 226 = .ok (.ireturn, 1) := by decide +kernel
theorem d_L_law_227 : decode code 227 = .ok (.aload_n 1, 1) := by decide +kernel
theorem d_L_law_228 : decode code 228 = .ok (.aload_n 0, 1) := by decide +kernel
theorem d_L_law_229 : decode code 229 = .ok (.iload_n 3, 1) := by decide +kernel
theorem d_L_law_230 : decode code 230 = .ok (.iconst 1, 1) := by decide +kernel
theorem d_L_law_231 : decode code 231 = .ok (.iadd, 1) := by decide +kernel
theorem d_L_law_232 : decode code 232 = .ok (.iaload, 1) := by decide +kernel
theorem d_L_law_233 : decode code 233 = .ok (.invokevirtual 18, 3) := by decide +kernel
theorem d_L_law_236 : decode code 236 = .ok (.aload_n 2, 1) := by decide +kernel
theorem d_L_law_237 : decode code 237 = .ok (.aload_n 0, 1) := by decide +kernel
theorem d_L_law_238 : decode code 238 = .ok (.iload_n 3, 1) := by decide +kernel
theorem d_L_law_239 : decode code 239 = .ok (.iconst 1, 1) := by decide +kernel
theorem d_L_law_240 : decode code 240 = .ok (.iadd, 1) := by decide +kernel
theorem d_L_law_241 : decode code 241 = .ok (.iaload, 1) := by decide +kernel
theorem d_L_law_242 : decode code 242 = .ok (.invokevirtual 22, 3) := by decide +kernel
theorem d_L_law_245 : decode code 245 = .ok (.if_icmp .eq 1161, 3) := by decide +kernel
theorem d_L_law_248 : decode code 248 = .ok (.iconst 0, 1) := by decide +kernel
theorem d_L_law_249 : decode code 249 = .ok (.ireturn, 1) := by decide +kernel
theorem d_L_law_250 : decode code 250 = .ok (.aload_n 1, 1) := by decide +kernel
theorem d_L_law_251 : decode code 251 = .ok (.aload_n 0, 1) := by decide +kernel
theorem d_L_law_252 : decode code 252 = .ok (.iload_n 3, 1) := by decide +kernel
theorem d_L_law_253 : decode code 253 = .ok (.iconst 1, 1) := by decide +kernel
theorem d_L_law_254 : decode code 254 = .ok (.iadd, 1) := by decide +kernel
theorem d_L_law_255 : decode code 255 = .ok (.iaload, 1) := by decide +kernel
theorem d_L_law_256 : decode code 256 = .ok (.aload_n 0, 1) := by decide +kernel
theorem d_L_law_257 : decode code 257 = .ok (.iload_n 3, 1) := by decide +kernel
theorem d_L_law_258 : decode code 258 = .ok (.iconst 2, 1) := by decide +kernel
theorem d_L_law_259 : decode code 259 = .ok (.iadd, 1) := by decide +kernel
theorem d_L_law_260 : decode code 260 = .ok (.iaload, 1) := by decide +kernel
theorem d_L_law_261 : decode code 261 = .ok (.invokevirtual 23, 3) := by decide +kernel
theorem d_L_law_264 : decode code 264 = .ok (.aload_n 2, 1) := by decide +kernel
theorem d_L_law_265 : decode code 265 = .ok (.aload_n 0, 1) := by decide +kernel
theorem d_L_law_266 : decode code 266 = .ok (.iload_n 3, 1) := by decide +kernel
theorem d_L_law_267 : decode code 267 = .ok (.iconst 1, 1) := by decide +kernel
theorem d_L_law_268 : decode code 268 = .ok (.iadd, 1) := by decide +kernel
theorem d_L_law_269 : decode code 269 = .ok (.iaload, 1) := by decide +kernel
theorem d_L_law_270 : decode code 270 = .ok (.aload_n 0, 1) := by decide +kernel
theorem d_L_law_271 : decode code 271 = .ok (.iload_n 3, 1) := by decide +kernel
theorem d_L_law_272 : decode code 272 = .ok (.iconst 2, 1) := by decide +kernel
theorem d_L_law_273 : decode code 273 = .ok (.iadd, 1) := by decide +kernel
theorem d_L_law_274 : decode code 274 = .ok (.iaload, 1) := by decide +kernel
theorem d_L_law_275 : decode code 275 = .ok (.invokevirtual 27, 3) := by decide +kernel
theorem d_L_law_278 : decode code 278 = .ok (.if_icmp .eq 1128, 3) := by decide +kernel
theorem d_L_law_281 : decode code 281 = .ok (.iconst 0, 1) := by decide +kernel
theorem d_L_law_282 : decode code 282 = .ok (.ireturn, 1) := by decide +kernel
theorem d_L_law_283 : decode code 283 = .ok (.aload_n 1, 1) := by decide +kernel
theorem d_L_law_284 : decode code 284 = .ok (.aload_n 0, 1) := by decide +kernel
theorem d_L_law_285 : decode code 285 = .ok (.iload_n 3, 1) := by decide +kernel
theorem d_L_law_286 : decode code 286 = .ok (.iconst 1, 1) := by decide +kernel
theorem d_L_law_287 : decode code 287 = .ok (.iadd, 1) := by decide +kernel
theorem d_L_law_288 : decode code 288 = .ok (.iaload, 1) := by decide +kernel
theorem d_L_law_289 : decode code 289 = .ok (.invokevirtual 28, 3) := by decide +kernel
theorem d_L_law_292 : decode code 292 = .ok (.aload_n 2, 1) := by decide +kernel
theorem d_L_law_293 : decode code 293 = .ok (.aload_n 0, 1) := by decide +kernel
theorem d_L_law_294 : decode code 294 = .ok (.iload_n 3, 1) := by decide +kernel
theorem d_L_law_295 : decode code 295 = .ok (.iconst 1, 1) := by decide +kernel
theorem d_L_law_296 : decode code 296 = .ok (.iadd, 1) := by decide +kernel
theorem d_L_law_297 : decode code 297 = .ok (.iaload, 1) := by decide +kernel
theorem d_L_law_298 : decode code 298 = .ok (.invokevirtual 31, 3) := by decide +kernel
theorem d_L_law_301 : decode code 301 = .ok (.if_icmp .eq 1105, 3) := by decide +kernel
theorem d_L_law_304 : decode code 304 = .ok (.iconst 0, 1) := by decide +kernel
theorem d_L_law_305 : decode code 305 = .ok (.ireturn, 1) := by decide +kernel
theorem d_L_law_306 : decode code 306 = .ok (.aload_n 1, 1) := by decide +kernel
theorem d_L_law_307 : decode code 307 = .ok (.aload_n 0, 1) := by decide +kernel
theorem d_L_law_308 : decode code 308 = .ok (.iload_n 3, 1) := by decide +kernel
theorem d_L_law_309 : decode code 309 = .ok (.iconst 1, 1) := by decide +kernel
theorem d_L_law_310 : decode code 310 = .ok (.iadd, 1) := by decide +kernel
theorem d_L_law_311 : decode code 311 = .ok (.iaload, 1) := by decide +kernel
theorem d_L_law_312 : decode code 312 = .ok (.aload_n 0, 1) := by decide +kernel
theorem d_L_law_313 : decode code 313 = .ok (.iload_n 3, 1) := by decide +kernel
theorem d_L_law_314 : decode code 314 = .ok (.iconst 2, 1) := by decide +kernel
theorem d_L_law_315 : decode code 315 = .ok (.iadd, 1) := by decide +kernel
theorem d_L_law_316 : decode code 316 = .ok (.iaload, 1) := by decide +kernel
theorem d_L_law_317 : decode code 317 = .ok (.invokevirtual 32, 3) := by decide +kernel
theorem d_L_law_320 : decode code 320 = .ok (.aload_n 2, 1) := by decide +kernel
theorem d_L_law_321 : decode code 321 = .ok (.aload_n 0, 1) := by decide +kernel
theorem d_L_law_322 : decode code 322 = .ok (.iload_n 3, 1) := by decide +kernel
theorem d_L_law_323 : decode code 323 = .ok (.iconst 1, 1) := by decide +kernel
theorem d_L_law_324 : decode code 324 = .ok (.iadd, 1) := by decide +kernel
theorem d_L_law_325 : decode code 325 = .ok (.iaload, 1) := by decide +kernel
theorem d_L_law_326 : decode code 326 = .ok (.aload_n 0, 1) := by decide +kernel
theorem d_L_law_327 : decode code 327 = .ok (.iload_n 3, 1) := by decide +kernel
theorem d_L_law_328 : decode code 328 = .ok (.iconst 2, 1) := by decide +kernel
theorem d_L_law_329 : decode code 329 = .ok (.iadd, 1) := by decide +kernel
theorem d_L_law_330 : decode code 330 = .ok (.iaload, 1) := by decide +kernel
theorem d_L_law_331 : decode code 331 = .ok (.invokevirtual 35, 3) := by decide +kernel
theorem d_L_law_334 : decode code 334 = .ok (.if_icmp .eq 1072, 3) := by decide +kernel
theorem d_L_law_337 : decode code 337 = .ok (.iconst 0, 1) := by decide +kernel
theorem d_L_law_338 : decode code 338 = .ok (.ireturn, 1) := by decide +kernel
theorem d_L_law_339 : decode code 339 = .ok (.aload_n 1, 1) := by decide +kernel
theorem d_L_law_340 : decode code 340 = .ok (.aload_n 0, 1) := by decide +kernel
theorem d_L_law_341 : decode code 341 = .ok (.iload_n 3, 1) := by decide +kernel
theorem d_L_law_342 : decode code 342 = .ok (.iconst 1, 1) := by decide +kernel
theorem d_L_law_343 : decode code 343 = .ok (.iadd, 1) := by decide +kernel
theorem d_L_law_344 : decode code 344 = .ok (.iaload, 1) := by decide +kernel
theorem d_L_law_345 : decode code 345 = .ok (.aload_n 0, 1) := by decide +kernel
theorem d_L_law_346 : decode code 346 = .ok (.iload_n 3, 1) := by decide +kernel
theorem d_L_law_347 : decode code 347 = .ok (.iconst 2, 1) := by decide +kernel
theorem d_L_law_348 : decode code 348 = .ok (.iadd, 1) := by decide +kernel
theorem d_L_law_349 : decode code 349 = .ok (.iaload, 1) := by decide +kernel
theorem d_L_law_350 : decode code 350 = .ok (.aload_n 0, 1) := by decide +kernel
theorem d_L_law_351 : decode code 351 = .ok (.iload_n 3, 1) := by decide +kernel
theorem d_L_law_352 : decode code 352 = .ok (.iconst 3, 1) := by decide +kernel
theorem d_L_law_353 : decode code 353 = .ok (.iadd, 1) := by decide +kernel
theorem d_L_law_354 : decode code 354 = .ok (.iaload, 1) := by decide +kernel
theorem d_L_law_355 : decode code 355 = .ok (.invokevirtual 36, 3) := by decide +kernel
theorem d_L_law_358 : decode code 358 = .ok (.aload_n 2, 1) := by decide +kernel
theorem d_L_law_359 : decode code 359 = .ok (.aload_n 0, 1) := by decide +kernel
theorem d_L_law_360 : decode code 360 = .ok (.iload_n 3, 1) := by decide +kernel
theorem d_L_law_361 : decode code 361 = .ok (.iconst 1, 1) := by decide +kernel
theorem d_L_law_362 : decode code 362 = .ok (.iadd, 1) := by decide +kernel
theorem d_L_law_363 : decode code 363 = .ok (.iaload, 1) := by decide +kernel
theorem d_L_law_364 : decode code 364 = .ok (.aload_n 0, 1) := by decide +kernel
theorem d_L_law_365 : decode code 365 = .ok (.iload_n 3, 1) := by decide +kernel
theorem d_L_law_366 : decode code 366 = .ok (.iconst 2, 1) := by decide +kernel
theorem d_L_law_367 : decode code 367 = .ok (.iadd, 1) := by decide +kernel
theorem d_L_law_368 : decode code 368 = .ok (.iaload, 1) := by decide +kernel
theorem d_L_law_369 : decode code 369 = .ok (.aload_n 0, 1) := by decide +kernel
theorem d_L_law_370 : decode code 370 = .ok (.iload_n 3, 1) := by decide +kernel
theorem d_L_law_371 : decode code 371 = .ok (.iconst 3, 1) := by decide +kernel
theorem d_L_law_372 : decode code 372 = .ok (.iadd, 1) := by decide +kernel
theorem d_L_law_373 : decode code 373 = .ok (.iaload, 1) := by decide +kernel
theorem d_L_law_374 : decode code 374 = .ok (.invokevirtual 40, 3) := by decide +kernel
theorem d_L_law_377 : decode code 377 = .ok (.if_icmp .eq 1029, 3) := by decide +kernel
theorem d_L_law_380 : decode code 380 = .ok (.iconst 0, 1) := by decide +kernel
theorem d_L_law_381 : decode code 381 = .ok (.ireturn, 1) := by decide +kernel
theorem d_L_law_382 : decode code 382 = .ok (.aload_n 1, 1) := by decide +kernel
theorem d_L_law_383 : decode code 383 = .ok (.aload_n 0, 1) := by decide +kernel
theorem d_L_law_384 : decode code 384 = .ok (.iload_n 3, 1) := by decide +kernel
theorem d_L_law_385 : decode code 385 = .ok (.iconst 1, 1) := by decide +kernel
theorem d_L_law_386 : decode code 386 = .ok (.iadd, 1) := by decide +kernel
theorem d_L_law_387 : decode code 387 = .ok (.iaload, 1) := by decide +kernel
theorem d_L_law_388 : decode code 388 = .ok (.aload_n 0, 1) := by decide +kernel
theorem d_L_law_389 : decode code 389 = .ok (.iload_n 3, 1) := by decide +kernel
theorem d_L_law_390 : decode code 390 = .ok (.iconst 2, 1) := by decide +kernel
theorem d_L_law_391 : decode code 391 = .ok (.iadd, 1) := by decide +kernel
theorem d_L_law_392 : decode code 392 = .ok (.iaload, 1) := by decide +kernel
theorem d_L_law_393 : decode code 393 = .ok (.invokevirtual 41, 3) := by decide +kernel
theorem d_L_law_396 : decode code 396 = .ok (.aload_n 2, 1) := by decide +kernel
theorem d_L_law_397 : decode code 397 = .ok (.aload_n 0, 1) := by decide +kernel
theorem d_L_law_398 : decode code 398 = .ok (.iload_n 3, 1) := by decide +kernel
theorem d_L_law_399 : decode code 399 = .ok (.iconst 1, 1) := by decide +kernel
theorem d_L_law_400 : decode code 400 = .ok (.iadd, 1) := by decide +kernel
theorem d_L_law_401 : decode code 401 = .ok (.iaload, 1) := by decide +kernel
theorem d_L_law_402 : decode code 402 = .ok (.aload_n 0, 1) := by decide +kernel
theorem d_L_law_403 : decode code 403 = .ok (.iload_n 3, 1) := by decide +kernel
theorem d_L_law_404 : decode code 404 = .ok (.iconst 2, 1) := by decide +kernel
theorem d_L_law_405 : decode code 405 = .ok (.iadd, 1) := by decide +kernel
theorem d_L_law_406 : decode code 406 = .ok (.iaload, 1) := by decide +kernel
theorem d_L_law_407 : decode code 407 = .ok (.invokevirtual 44, 3) := by decide +kernel
theorem d_L_law_410 : decode code 410 = .ok (.if_icmp .eq 996, 3) := by decide +kernel
theorem d_L_law_413 : decode code 413 = .ok (.iconst 0, 1) := by decide +kernel
theorem d_L_law_414 : decode code 414 = .ok (.ireturn, 1) := by decide +kernel
theorem d_L_law_415 : decode code 415 = .ok (.aload_n 1, 1) := by decide +kernel
theorem d_L_law_416 : decode code 416 = .ok (.aload_n 0, 1) := by decide +kernel
theorem d_L_law_417 : decode code 417 = .ok (.iload_n 3, 1) := by decide +kernel
theorem d_L_law_418 : decode code 418 = .ok (.iconst 1, 1) := by decide +kernel
theorem d_L_law_419 : decode code 419 = .ok (.iadd, 1) := by decide +kernel
theorem d_L_law_420 : decode code 420 = .ok (.iaload, 1) := by decide +kernel
theorem d_L_law_421 : decode code 421 = .ok (.aload_n 0, 1) := by decide +kernel
theorem d_L_law_422 : decode code 422 = .ok (.iload_n 3, 1) := by decide +kernel
theorem d_L_law_423 : decode code 423 = .ok (.iconst 2, 1) := by decide +kernel
theorem d_L_law_424 : decode code 424 = .ok (.iadd, 1) := by decide +kernel
theorem d_L_law_425 : decode code 425 = .ok (.iaload, 1) := by decide +kernel
theorem d_L_law_426 : decode code 426 = .ok (.aload_n 0, 1) := by decide +kernel
theorem d_L_law_427 : decode code 427 = .ok (.iload_n 3, 1) := by decide +kernel
theorem d_L_law_428 : decode code 428 = .ok (.iconst 3, 1) := by decide +kernel
theorem d_L_law_429 : decode code 429 = .ok (.iadd, 1) := by decide +kernel
theorem d_L_law_430 : decode code 430 = .ok (.iaload, 1) := by decide +kernel
theorem d_L_law_431 : decode code 431 = .ok (.invokevirtual 45, 3) := by decide +kernel
theorem d_L_law_434 : decode code 434 = .ok (.aload_n 2, 1) := by decide +kernel
theorem d_L_law_435 : decode code 435 = .ok (.aload_n 0, 1) := by decide +kernel
theorem d_L_law_436 : decode code 436 = .ok (.iload_n 3, 1) := by decide +kernel
theorem d_L_law_437 : decode code 437 = .ok (.iconst 1, 1) := by decide +kernel
theorem d_L_law_438 : decode code 438 = .ok (.iadd, 1) := by decide +kernel
theorem d_L_law_439 : decode code 439 = .ok (.iaload, 1) := by decide +kernel
theorem d_L_law_440 : decode code 440 = .ok (.aload_n 0, 1) := by decide +kernel
theorem d_L_law_441 : decode code 441 = .ok (.iload_n 3, 1) := by decide +kernel
theorem d_L_law_442 : decode code 442 = .ok (.iconst 2, 1) := by decide +kernel
theorem d_L_law_443 : decode code 443 = .ok (.iadd, 1) := by decide +kernel
theorem d_L_law_444 : decode code 444 = .ok (.iaload, 1) := by decide +kernel
theorem d_L_law_445 : decode code 445 = .ok (.aload_n 0, 1) := by decide +kernel
theorem d_L_law_446 : decode code 446 = .ok (.iload_n 3, 1) := by decide +kernel
theorem d_L_law_447 : decode code 447 = .ok (.iconst 3, 1) := by decide +kernel
theorem d_L_law_448 : decode code 448 = .ok (.iadd, 1) := by decide +kernel
theorem d_L_law_449 : decode code 449 = .ok (.iaload, 1) := by decide +kernel
theorem d_L_law_450 : decode code 450 = .ok (.invokevirtual 48, 3) := by decide +kernel
theorem d_L_law_453 : decode code 453 = .ok (.if_icmp .eq 953, 3) := by decide +kernel
theorem d_L_law_456 : decode code 456 = .ok (.iconst 0, 1) := by decide +kernel
theorem d_L_law_457 : decode code 457 = .ok (.ireturn, 1) := by decide +kernel
theorem d_L_law_458 : decode code 458 = .ok (.aload_n 1, 1) := by decide +kernel
theorem d_L_law_459 : decode code 459 = .ok (.aload_n 0, 1) := by decide +kernel
theorem d_L_law_460 : decode code 460 = .ok (.iload_n 3, 1) := by decide +kernel
theorem d_L_law_461 : decode code 461 = .ok (.iconst 1, 1) := by decide +kernel
theorem d_L_law_462 : decode code 462 = .ok (.iadd, 1) := by decide +kernel
theorem d_L_law_463 : decode code 463 = .ok (.iaload, 1) := by decide +kernel
theorem d_L_law_464 : decode code 464 = .ok (.aload_n 0, 1) := by decide +kernel
theorem d_L_law_465 : decode code 465 = .ok (.iload_n 3, 1) := by decide +kernel
theorem d_L_law_466 : decode code 466 = .ok (.iconst 2, 1) := by decide +kernel
theorem d_L_law_467 : decode code 467 = .ok (.iadd, 1) := by decide +kernel
theorem d_L_law_468 : decode code 468 = .ok (.iaload, 1) := by decide +kernel
theorem d_L_law_469 : decode code 469 = .ok (.aload_n 0, 1) := by decide +kernel
theorem d_L_law_470 : decode code 470 = .ok (.iload_n 3, 1) := by decide +kernel
theorem d_L_law_471 : decode code 471 = .ok (.iconst 3, 1) := by decide +kernel
theorem d_L_law_472 : decode code 472 = .ok (.iadd, 1) := by decide +kernel
theorem d_L_law_473 : decode code 473 = .ok (.iaload, 1) := by decide +kernel
theorem d_L_law_474 : decode code 474 = .ok (.invokevirtual 49, 3) := by decide +kernel
theorem d_L_law_477 : decode code 477 = .ok (.aload_n 2, 1) := by decide +kernel
theorem d_L_law_478 : decode code 478 = .ok (.aload_n 0, 1) := by decide +kernel
theorem d_L_law_479 : decode code 479 = .ok (.iload_n 3, 1) := by decide +kernel
theorem d_L_law_480 : decode code 480 = .ok (.iconst 1, 1) := by decide +kernel
theorem d_L_law_481 : decode code 481 = .ok (.iadd, 1) := by decide +kernel
theorem d_L_law_482 : decode code 482 = .ok (.iaload, 1) := by decide +kernel
theorem d_L_law_483 : decode code 483 = .ok (.aload_n 0, 1) := by decide +kernel
theorem d_L_law_484 : decode code 484 = .ok (.iload_n 3, 1) := by decide +kernel
theorem d_L_law_485 : decode code 485 = .ok (.iconst 2, 1) := by decide +kernel
theorem d_L_law_486 : decode code 486 = .ok (.iadd, 1) := by decide +kernel
theorem d_L_law_487 : decode code 487 = .ok (.iaload, 1) := by decide +kernel
theorem d_L_law_488 : decode code 488 = .ok (.aload_n 0, 1) := by decide +kernel
theorem d_L_law_489 : decode code 489 = .ok (.iload_n 3, 1) := by decide +kernel
theorem d_L_law_490 : decode code 490 = .ok (.iconst 3, 1) := by decide +kernel
theorem d_L_law_491 : decode code 491 = .ok (.iadd, 1) := by decide +kernel
theorem d_L_law_492 : decode code 492 = .ok (.iaload, 1) := by decide +kernel
theorem d_L_law_493 : decode code 493 = .ok (.invokevirtual 52, 3) := by decide +kernel
theorem d_L_law_496 : decode code 496 = .ok (.if_icmp .eq 910, 3) := by decide +kernel
theorem d_L_law_499 : decode code 499 = .ok (.iconst 0, 1) := by decide +kernel
theorem d_L_law_500 : decode code 500 = .ok (.ireturn, 1) := by decide +kernel
theorem d_L_law_501 : decode code 501 = .ok (.aload_n 1, 1) := by decide +kernel
theorem d_L_law_502 : decode code 502 = .ok (.aload_n 0, 1) := by decide +kernel
theorem d_L_law_503 : decode code 503 = .ok (.iload_n 3, 1) := by decide +kernel
theorem d_L_law_504 : decode code 504 = .ok (.iconst 1, 1) := by decide +kernel
theorem d_L_law_505 : decode code 505 = .ok (.iadd, 1) := by decide +kernel
theorem d_L_law_506 : decode code 506 = .ok (.iaload, 1) := by decide +kernel
theorem d_L_law_507 : decode code 507 = .ok (.aload_n 0, 1) := by decide +kernel
theorem d_L_law_508 : decode code 508 = .ok (.iload_n 3, 1) := by decide +kernel
theorem d_L_law_509 : decode code 509 = .ok (.iconst 2, 1) := by decide +kernel
theorem d_L_law_510 : decode code 510 = .ok (.iadd, 1) := by decide +kernel
theorem d_L_law_511 : decode code 511 = .ok (.iaload, 1) := by decide +kernel
theorem d_L_law_512 : decode code 512 = .ok (.aload_n 0, 1) := by decide +kernel
theorem d_L_law_513 : decode code 513 = .ok (.iload_n 3, 1) := by decide +kernel
theorem d_L_law_514 : decode code 514 = .ok (.iconst 3, 1) := by decide +kernel
theorem d_L_law_515 : decode code 515 = .ok (.iadd, 1) := by decide +kernel
theorem d_L_law_516 : decode code 516 = .ok (.iaload, 1) := by decide +kernel
theorem d_L_law_517 : decode code 517 = .ok (.invokevirtual 53, 3) := by decide +kernel
theorem d_L_law_520 : decode code 520 = .ok (.aload_n 2, 1) := by decide +kernel
theorem d_L_law_521 : decode code 521 = .ok (.aload_n 0, 1) := by decide +kernel
theorem d_L_law_522 : decode code 522 = .ok (.iload_n 3, 1) := by decide +kernel
theorem d_L_law_523 : decode code 523 = .ok (.iconst 1, 1) := by decide +kernel
theorem d_L_law_524 : decode code 524 = .ok (.iadd, 1) := by decide +kernel
theorem d_L_law_525 : decode code 525 = .ok (.iaload, 1) := by decide +kernel
theorem d_L_law_526 : decode code 526 = .ok (.aload_n 0, 1) := by decide +kernel
theorem d_L_law_527 : decode code 527 = .ok (.iload_n 3, 1) := by decide +kernel
theorem d_L_law_528 : decode code 528 = .ok (.iconst 2, 1) := by decide +kernel
theorem d_L_law_529 : decode code 529 = .ok (.iadd, 1) := by decide +kernel
theorem d_L_law_530 : decode code 530 = .ok (.iaload, 1) := by decide +kernel
theorem d_L_law_531 : decode code 531 = .ok (.aload_n 0, 1) := by decide +kernel
theorem d_L_law_532 : decode code 532 = .ok (.iload_n 3, 1) := by decide +kernel
theorem d_L_law_533 : decode code 533 = .ok (.iconst 3, 1) := by decide +kernel
theorem d_L_law_534 : decode code 534 = .ok (.iadd, 1) := by decide +kernel
theorem d_L_law_535 : decode code 535 = .ok (.iaload, 1) := by decide +kernel
theorem d_L_law_536 : decode code 536 = .ok (.invokevirtual 56, 3) := by decide +kernel
theorem d_L_law_539 : decode code 539 = .ok (.if_icmp .eq 867, 3) := by decide +kernel
theorem d_L_law_542 : decode code 542 = .ok (.iconst 0, 1) := by decide +kernel
theorem d_L_law_543 : decode code 543 = .ok (.ireturn, 1) := by decide +kernel
theorem d_L_law_544 : decode code 544 = .ok (.aload_n 1, 1) := by decide +kernel
theorem d_L_law_545 : decode code 545 = .ok (.aload_n 0, 1) := by decide +kernel
theorem d_L_law_546 : decode code 546 = .ok (.iload_n 3, 1) := by decide +kernel
theorem d_L_law_547 : decode code 547 = .ok (.iconst 1, 1) := by decide +kernel
theorem d_L_law_548 : decode code 548 = .ok (.iadd, 1) := by decide +kernel
theorem d_L_law_549 : decode code 549 = .ok (.iaload, 1) := by decide +kernel
theorem d_L_law_550 : decode code 550 = .ok (.aload_n 0, 1) := by decide +kernel
theorem d_L_law_551 : decode code 551 = .ok (.iload_n 3, 1) := by decide +kernel
theorem d_L_law_552 : decode code 552 = .ok (.iconst 2, 1) := by decide +kernel
theorem d_L_law_553 : decode code 553 = .ok (.iadd, 1) := by decide +kernel
theorem d_L_law_554 : decode code 554 = .ok (.iaload, 1) := by decide +kernel
theorem d_L_law_555 : decode code 555 = .ok (.aload_n 0, 1) := by decide +kernel
theorem d_L_law_556 : decode code 556 = .ok (.iload_n 3, 1) := by decide +kernel
theorem d_L_law_557 : decode code 557 = .ok (.iconst 3, 1) := by decide +kernel
theorem d_L_law_558 : decode code 558 = .ok (.iadd, 1) := by decide +kernel
theorem d_L_law_559 : decode code 559 = .ok (.iaload, 1) := by decide +kernel
theorem d_L_law_560 : decode code 560 = .ok (.aload_n 0, 1) := by decide +kernel
theorem d_L_law_561 : decode code 561 = .ok (.iload_n 3, 1) := by decide +kernel
theorem d_L_law_562 : decode code 562 = .ok (.iconst 4, 1) := by decide +kernel
theorem d_L_law_563 : decode code 563 = .ok (.iadd, 1) := by decide +kernel
theorem d_L_law_564 : decode code 564 = .ok (.iaload, 1) := by decide +kernel
theorem d_L_law_565 : decode code 565 = .ok (.invokevirtual 57, 3) := by decide +kernel
theorem d_L_law_568 : decode code 568 = .ok (.aload_n 2, 1) := by decide +kernel
theorem d_L_law_569 : decode code 569 = .ok (.aload_n 0, 1) := by decide +kernel
theorem d_L_law_570 : decode code 570 = .ok (.iload_n 3, 1) := by decide +kernel
theorem d_L_law_571 : decode code 571 = .ok (.iconst 1, 1) := by decide +kernel
theorem d_L_law_572 : decode code 572 = .ok (.iadd, 1) := by decide +kernel
theorem d_L_law_573 : decode code 573 = .ok (.iaload, 1) := by decide +kernel
theorem d_L_law_574 : decode code 574 = .ok (.aload_n 0, 1) := by decide +kernel
theorem d_L_law_575 : decode code 575 = .ok (.iload_n 3, 1) := by decide +kernel
theorem d_L_law_576 : decode code 576 = .ok (.iconst 2, 1) := by decide +kernel
theorem d_L_law_577 : decode code 577 = .ok (.iadd, 1) := by decide +kernel
theorem d_L_law_578 : decode code 578 = .ok (.iaload, 1) := by decide +kernel
theorem d_L_law_579 : decode code 579 = .ok (.aload_n 0, 1) := by decide +kernel
theorem d_L_law_580 : decode code 580 = .ok (.iload_n 3, 1) := by decide +kernel
theorem d_L_law_581 : decode code 581 = .ok (.iconst 3, 1) := by decide +kernel
theorem d_L_law_582 : decode code 582 = .ok (.iadd, 1) := by decide +kernel
theorem d_L_law_583 : decode code 583 = .ok (.iaload, 1) := by decide +kernel
theorem d_L_law_584 : decode code 584 = .ok (.aload_n 0, 1) := by decide +kernel
theorem d_L_law_585 : decode code 585 = .ok (.iload_n 3, 1) := by decide +kernel
theorem d_L_law_586 : decode code 586 = .ok (.iconst 4, 1) := by decide +kernel
theorem d_L_law_587 : decode code 587 = .ok (.iadd, 1) := by decide +kernel
theorem d_L_law_588 : decode code 588 = .ok (.iaload, 1) := by decide +kernel
theorem d_L_law_589 : decode code 589 = .ok (.invokevirtual 61, 3) := by decide +kernel
theorem d_L_law_592 : decode code 592 = .ok (.if_icmp .eq 814, 3) := by decide +kernel
theorem d_L_law_595 : decode code 595 = .ok (.iconst 0, 1) := by decide +kernel
theorem d_L_law_596 : decode code 596 = .ok (.ireturn, 1) := by decide +kernel
theorem d_L_law_597 : decode code 597 = .ok (.aload_n 1, 1) := by decide +kernel
theorem d_L_law_598 : decode code 598 = .ok (.aload_n 0, 1) := by decide +kernel
theorem d_L_law_599 : decode code 599 = .ok (.iload_n 3, 1) := by decide +kernel
theorem d_L_law_600 : decode code 600 = .ok (.iconst 1, 1) := by decide +kernel
theorem d_L_law_601 : decode code 601 = .ok (.iadd, 1) := by decide +kernel
theorem d_L_law_602 : decode code 602 = .ok (.iaload, 1) := by decide +kernel
theorem d_L_law_603 : decode code 603 = .ok (.invokevirtual 62, 3) := by decide +kernel
theorem d_L_law_606 : decode code 606 = .ok (.aload_n 2, 1) := by decide +kernel
theorem d_L_law_607 : decode code 607 = .ok (.aload_n 0, 1) := by decide +kernel
theorem d_L_law_608 : decode code 608 = .ok (.iload_n 3, 1) := by decide +kernel
theorem d_L_law_609 : decode code 609 = .ok (.iconst 1, 1) := by decide +kernel
theorem d_L_law_610 : decode code 610 = .ok (.iadd, 1) := by decide +kernel
theorem d_L_law_611 : decode code 611 = .ok (.iaload, 1) := by decide +kernel
theorem d_L_law_612 : decode code 612 = .ok (.invokevirtual 66, 3) := by decide +kernel
theorem d_L_law_615 : decode code 615 = .ok (.lcmp, 1) := by decide +kernel
theorem d_L_law_616 : decode code 616 = .ok (.ifCond .eq 790, 3) := by decide +kernel
theorem d_L_law_619 : decode code 619 = .ok (.iconst 0, 1) := by decide +kernel
theorem d_L_law_620 : decode code 620 = .ok (.ireturn, 1) := by decide +kernel
theorem d_L_law_621 : decode code 621 = .ok (.aload_n 1, 1) := by decide +kernel
theorem d_L_law_622 : decode code 622 = .ok (.aload_n 0, 1) := by decide +kernel
theorem d_L_law_623 : decode code 623 = .ok (.iload_n 3, 1) := by decide +kernel
theorem d_L_law_624 : decode code 624 = .ok (.iconst 1, 1) := by decide +kernel
theorem d_L_law_625 : decode code 625 = .ok (.iadd, 1) := by decide +kernel
theorem d_L_law_626 : decode code 626 = .ok (.iaload, 1) := by decide +kernel
theorem d_L_law_627 : decode code 627 = .ok (.aload_n 0, 1) := by decide +kernel
theorem d_L_law_628 : decode code 628 = .ok (.iload_n 3, 1) := by decide +kernel
theorem d_L_law_629 : decode code 629 = .ok (.iconst 2, 1) := by decide +kernel
theorem d_L_law_630 : decode code 630 = .ok (.iadd, 1) := by decide +kernel
theorem d_L_law_631 : decode code 631 = .ok (.iaload, 1) := by decide +kernel
theorem d_L_law_632 : decode code 632 = .ok (.invokevirtual 67, 3) := by decide +kernel
theorem d_L_law_635 : decode code 635 = .ok (.aload_n 2, 1) := by decide +kernel
theorem d_L_law_636 : decode code 636 = .ok (.aload_n 0, 1) := by decide +kernel
theorem d_L_law_637 : decode code 637 = .ok (.iload_n 3, 1) := by decide +kernel
theorem d_L_law_638 : decode code 638 = .ok (.iconst 1, 1) := by decide +kernel
theorem d_L_law_639 : decode code 639 = .ok (.iadd, 1) := by decide +kernel
theorem d_L_law_640 : decode code 640 = .ok (.iaload, 1) := by decide +kernel
theorem d_L_law_641 : decode code 641 = .ok (.aload_n 0, 1) := by decide +kernel
theorem d_L_law_642 : decode code 642 = .ok (.iload_n 3, 1) := by decide +kernel
theorem d_L_law_643 : decode code 643 = .ok (.iconst 2, 1) := by decide +kernel
theorem d_L_law_644 : decode code 644 = .ok (.iadd, 1) := by decide +kernel
theorem d_L_law_645 : decode code 645 = .ok (.iaload, 1) := by decide +kernel
theorem d_L_law_646 : decode code 646 = .ok (.invokevirtual 70, 3) := by decide +kernel
theorem d_L_law_649 : decode code 649 = .ok (.if_icmp .eq 757, 3) := by decide +kernel
theorem d_L_law_652 : decode code 652 = .ok (.iconst 0, 1) := by decide +kernel
theorem d_L_law_653 : decode code 653 = .ok (.ireturn, 1) := by decide +kernel
theorem d_L_law_654 : decode code 654 = .ok (.aload_n 1, 1) := by decide +kernel
theorem d_L_law_655 : decode code 655 = .ok (.aload_n 0, 1) := by decide +kernel
theorem d_L_law_656 : decode code 656 = .ok (.iload_n 3, 1) := by decide +kernel
theorem d_L_law_657 : decode code 657 = .ok (.iconst 1, 1) := by decide +kernel
theorem d_L_law_658 : decode code 658 = .ok (.iadd, 1) := by decide +kernel
theorem d_L_law_659 : decode code 659 = .ok (.iaload, 1) := by decide +kernel
theorem d_L_law_660 : decode code 660 = .ok (.aload_n 0, 1) := by decide +kernel
theorem d_L_law_661 : decode code 661 = .ok (.iload_n 3, 1) := by decide +kernel
theorem d_L_law_662 : decode code 662 = .ok (.iconst 2, 1) := by decide +kernel
theorem d_L_law_663 : decode code 663 = .ok (.iadd, 1) := by decide +kernel
theorem d_L_law_664 : decode code 664 = .ok (.iaload, 1) := by decide +kernel
theorem d_L_law_665 : decode code 665 = .ok (.aload_n 0, 1) := by decide +kernel
theorem d_L_law_666 : decode code 666 = .ok (.iload_n 3, 1) := by decide +kernel
theorem d_L_law_667 : decode code 667 = .ok (.iconst 3, 1) := by decide +kernel
theorem d_L_law_668 : decode code 668 = .ok (.iadd, 1) := by decide +kernel
theorem d_L_law_669 : decode code 669 = .ok (.iaload, 1) := by decide +kernel
theorem d_L_law_670 : decode code 670 = .ok (.invokevirtual 71, 3) := by decide +kernel
theorem d_L_law_673 : decode code 673 = .ok (.aload_n 2, 1) := by decide +kernel
theorem d_L_law_674 : decode code 674 = .ok (.aload_n 0, 1) := by decide +kernel
theorem d_L_law_675 : decode code 675 = .ok (.iload_n 3, 1) := by decide +kernel
theorem d_L_law_676 : decode code 676 = .ok (.iconst 1, 1) := by decide +kernel
theorem d_L_law_677 : decode code 677 = .ok (.iadd, 1) := by decide +kernel
theorem d_L_law_678 : decode code 678 = .ok (.iaload, 1) := by decide +kernel
theorem d_L_law_679 : decode code 679 = .ok (.aload_n 0, 1) := by decide +kernel
theorem d_L_law_680 : decode code 680 = .ok (.iload_n 3, 1) := by decide +kernel
theorem d_L_law_681 : decode code 681 = .ok (.iconst 2, 1) := by decide +kernel
theorem d_L_law_682 : decode code 682 = .ok (.iadd, 1) := by decide +kernel
theorem d_L_law_683 : decode code 683 = .ok (.iaload, 1) := by decide +kernel
theorem d_L_law_684 : decode code 684 = .ok (.aload_n 0, 1) := by decide +kernel
theorem d_L_law_685 : decode code 685 = .ok (.iload_n 3, 1) := by decide +kernel
theorem d_L_law_686 : decode code 686 = .ok (.iconst 3, 1) := by decide +kernel
theorem d_L_law_687 : decode code 687 = .ok (.iadd, 1) := by decide +kernel
theorem d_L_law_688 : decode code 688 = .ok (.iaload, 1) := by decide +kernel
theorem d_L_law_689 : decode code 689 = .ok (.invokevirtual 74, 3) := by decide +kernel
theorem d_L_law_692 : decode code 692 = .ok (.if_icmp .eq 714, 3) := by decide +kernel
theorem d_L_law_695 : decode code 695 = .ok (.iconst 0, 1) := by decide +kernel
theorem d_L_law_696 : decode code 696 = .ok (.ireturn, 1) := by decide +kernel
theorem d_L_law_697 : decode code 697 = .ok (.aload_n 1, 1) := by decide +kernel
theorem d_L_law_698 : decode code 698 = .ok (.aload_n 0, 1) := by decide +kernel
theorem d_L_law_699 : decode code 699 = .ok (.iload_n 3, 1) := by decide +kernel
theorem d_L_law_700 : decode code 700 = .ok (.iconst 1, 1) := by decide +kernel
theorem d_L_law_701 : decode code 701 = .ok (.iadd, 1) := by decide +kernel
theorem d_L_law_702 : decode code 702 = .ok (.iaload, 1) := by decide +kernel
theorem d_L_law_703 : decode code 703 = .ok (.aload_n 0, 1) := by decide +kernel
theorem d_L_law_704 : decode code 704 = .ok (.iload_n 3, 1) := by decide +kernel
theorem d_L_law_705 : decode code 705 = .ok (.iconst 2, 1) := by decide +kernel
theorem d_L_law_706 : decode code 706 = .ok (.iadd, 1) := by decide +kernel
theorem d_L_law_707 : decode code 707 = .ok (.iaload, 1) := by decide +kernel
theorem d_L_law_708 : decode code 708 = .ok (.aload_n 0, 1) := by decide +kernel
theorem d_L_law_709 : decode code 709 = .ok (.iload_n 3, 1) := by decide +kernel
theorem d_L_law_710 : decode code 710 = .ok (.iconst 3, 1) := by decide +kernel
theorem d_L_law_711 : decode code 711 = .ok (.iadd, 1) := by decide +kernel
theorem d_L_law_712 : decode code 712 = .ok (.iaload, 1) := by decide +kernel
theorem d_L_law_713 : decode code 713 = .ok (.invokevirtual 75, 3) := by decide +kernel
theorem d_L_law_716 : decode code 716 = .ok (.aload_n 2, 1) := by decide +kernel
theorem d_L_law_717 : decode code 717 = .ok (.aload_n 0, 1) := by decide +kernel
theorem d_L_law_718 : decode code 718 = .ok (.iload_n 3, 1) := by decide +kernel
theorem d_L_law_719 : decode code 719 = .ok (.iconst 1, 1) := by decide +kernel
theorem d_L_law_720 : decode code 720 = .ok (.iadd, 1) := by decide +kernel
theorem d_L_law_721 : decode code 721 = .ok (.iaload, 1) := by decide +kernel
theorem d_L_law_722 : decode code 722 = .ok (.aload_n 0, 1) := by decide +kernel
theorem d_L_law_723 : decode code 723 = .ok (.iload_n 3, 1) := by decide +kernel
theorem d_L_law_724 : decode code 724 = .ok (.iconst 2, 1) := by decide +kernel
theorem d_L_law_725 : decode code 725 = .ok (.iadd, 1) := by decide +kernel
theorem d_L_law_726 : decode code 726 = .ok (.iaload, 1) := by decide +kernel
theorem d_L_law_727 : decode code 727 = .ok (.aload_n 0, 1) := by decide +kernel
theorem d_L_law_728 : decode code 728 = .ok (.iload_n 3, 1) := by decide +kernel
theorem d_L_law_729 : decode code 729 = .ok (.iconst 3, 1) := by decide +kernel
theorem d_L_law_730 : decode code 730 = .ok (.iadd, 1) := by decide +kernel
theorem d_L_law_731 : decode code 731 = .ok (.iaload, 1) := by decide +kernel
theorem d_L_law_732 : decode code 732 = .ok (.invokevirtual 78, 3) := by decide +kernel
theorem d_L_law_735 : decode code 735 = .ok (.if_icmp .eq 671, 3) := by decide +kernel
theorem d_L_law_738 : decode code 738 = .ok (.iconst 0, 1) := by decide +kernel
theorem d_L_law_739 : decode code 739 = .ok (.ireturn, 1) := by decide +kernel
theorem d_L_law_740 : decode code 740 = .ok (.aload_n 1, 1) := by decide +kernel
theorem d_L_law_741 : decode code 741 = .ok (.aload_n 0, 1) := by decide +kernel
theorem d_L_law_742 : decode code 742 = .ok (.iload_n 3, 1) := by decide +kernel
theorem d_L_law_743 : decode code 743 = .ok (.iconst 1, 1) := by decide +kernel
theorem d_L_law_744 : decode code 744 = .ok (.iadd, 1) := by decide +kernel
theorem d_L_law_745 : decode code 745 = .ok (.iaload, 1) := by decide +kernel
theorem d_L_law_746 : decode code 746 = .ok (.aload_n 0, 1) := by decide +kernel
theorem d_L_law_747 : decode code 747 = .ok (.iload_n 3, 1) := by decide +kernel
theorem d_L_law_748 : decode code 748 = .ok (.iconst 2, 1) := by decide +kernel
theorem d_L_law_749 : decode code 749 = .ok (.iadd, 1) := by decide +kernel
theorem d_L_law_750 : decode code 750 = .ok (.iaload, 1) := by decide +kernel
theorem d_L_law_751 : decode code 751 = .ok (.aload_n 0, 1) := by decide +kernel
theorem d_L_law_752 : decode code 752 = .ok (.iload_n 3, 1) := by decide +kernel
theorem d_L_law_753 : decode code 753 = .ok (.iconst 3, 1) := by decide +kernel
theorem d_L_law_754 : decode code 754 = .ok (.iadd, 1) := by decide +kernel
theorem d_L_law_755 : decode code 755 = .ok (.iaload, 1) := by decide +kernel
theorem d_L_law_756 : decode code 756 = .ok (.invokevirtual 79, 3) := by decide +kernel
theorem d_L_law_759 : decode code 759 = .ok (.aload_n 2, 1) := by decide +kernel
theorem d_L_law_760 : decode code 760 = .ok (.aload_n 0, 1) := by decide +kernel
theorem d_L_law_761 : decode code 761 = .ok (.iload_n 3, 1) := by decide +kernel
theorem d_L_law_762 : decode code 762 = .ok (.iconst 1, 1) := by decide +kernel
theorem d_L_law_763 : decode code 763 = .ok (.iadd, 1) := by decide +kernel
theorem d_L_law_764 : decode code 764 = .ok (.iaload, 1) := by decide +kernel
theorem d_L_law_765 : decode code 765 = .ok (.aload_n 0, 1) := by decide +kernel
theorem d_L_law_766 : decode code 766 = .ok (.iload_n 3, 1) := by decide +kernel
theorem d_L_law_767 : decode code 767 = .ok (.iconst 2, 1) := by decide +kernel
theorem d_L_law_768 : decode code 768 = .ok (.iadd, 1) := by decide +kernel
theorem d_L_law_769 : decode code 769 = .ok (.iaload, 1) := by decide +kernel
theorem d_L_law_770 : decode code 770 = .ok (.aload_n 0, 1) := by decide +kernel
theorem d_L_law_771 : decode code 771 = .ok (.iload_n 3, 1) := by decide +kernel
theorem d_L_law_772 : decode code 772 = .ok (.iconst 3, 1) := by decide +kernel
theorem d_L_law_773 : decode code 773 = .ok (.iadd, 1) := by decide +kernel
theorem d_L_law_774 : decode code 774 = .ok (.iaload, 1) := by decide +kernel
theorem d_L_law_775 : decode code 775 = .ok (.invokevirtual 82, 3) := by decide +kernel
theorem d_L_law_778 : decode code 778 = .ok (.if_icmp .eq 628, 3) := by decide +kernel
theorem d_L_law_781 : decode code 781 = .ok (.iconst 0, 1) := by decide +kernel
theorem d_L_law_782 : decode code 782 = .ok (.ireturn, 1) := by decide +kernel
theorem d_L_law_783 : decode code 783 = .ok (.aload_n 1, 1) := by decide +kernel
theorem d_L_law_784 : decode code 784 = .ok (.aload_n 0, 1) := by decide +kernel
theorem d_L_law_785 : decode code 785 = .ok (.iload_n 3, 1) := by decide +kernel
theorem d_L_law_786 : decode code 786 = .ok (.iconst 1, 1) := by decide +kernel
theorem d_L_law_787 : decode code 787 = .ok (.iadd, 1) := by decide +kernel
theorem d_L_law_788 : decode code 788 = .ok (.iaload, 1) := by decide +kernel
theorem d_L_law_789 : decode code 789 = .ok (.aload_n 0, 1) := by decide +kernel
theorem d_L_law_790 : decode code 790 = .ok (.iload_n 3, 1) := by decide +kernel
theorem d_L_law_791 : decode code 791 = .ok (.iconst 2, 1) := by decide +kernel
theorem d_L_law_792 : decode code 792 = .ok (.iadd, 1) := by decide +kernel
theorem d_L_law_793 : decode code 793 = .ok (.iaload, 1) := by decide +kernel
theorem d_L_law_794 : decode code 794 = .ok (.aload_n 0, 1) := by decide +kernel
theorem d_L_law_795 : decode code 795 = .ok (.iload_n 3, 1) := by decide +kernel
theorem d_L_law_796 : decode code 796 = .ok (.iconst 3, 1) := by decide +kernel
theorem d_L_law_797 : decode code 797 = .ok (.iadd, 1) := by decide +kernel
theorem d_L_law_798 : decode code 798 = .ok (.iaload, 1) := by decide +kernel
theorem d_L_law_799 : decode code 799 = .ok (.aload_n 0, 1) := by decide +kernel
theorem d_L_law_800 : decode code 800 = .ok (.iload_n 3, 1) := by decide +kernel
theorem d_L_law_801 : decode code 801 = .ok (.iconst 4, 1) := by decide +kernel
theorem d_L_law_802 : decode code 802 = .ok (.iadd, 1) := by decide +kernel
theorem d_L_law_803 : decode code 803 = .ok (.iaload, 1) := by decide +kernel
theorem d_L_law_804 : decode code 804 = .ok (.invokevirtual 83, 3) := by decide +kernel
theorem d_L_law_807 : decode code 807 = .ok (.aload_n 2, 1) := by decide +kernel
theorem d_L_law_808 : decode code 808 = .ok (.aload_n 0, 1) := by decide +kernel
theorem d_L_law_809 : decode code 809 = .ok (.iload_n 3, 1) := by decide +kernel
theorem d_L_law_810 : decode code 810 = .ok (.iconst 1, 1) := by decide +kernel
theorem d_L_law_811 : decode code 811 = .ok (.iadd, 1) := by decide +kernel
theorem d_L_law_812 : decode code 812 = .ok (.iaload, 1) := by decide +kernel
theorem d_L_law_813 : decode code 813 = .ok (.aload_n 0, 1) := by decide +kernel
theorem d_L_law_814 : decode code 814 = .ok (.iload_n 3, 1) := by decide +kernel
theorem d_L_law_815 : decode code 815 = .ok (.iconst 2, 1) := by decide +kernel
theorem d_L_law_816 : decode code 816 = .ok (.iadd, 1) := by decide +kernel
theorem d_L_law_817 : decode code 817 = .ok (.iaload, 1) := by decide +kernel
theorem d_L_law_818 : decode code 818 = .ok (.aload_n 0, 1) := by decide +kernel
theorem d_L_law_819 : decode code 819 = .ok (.iload_n 3, 1) := by decide +kernel
theorem d_L_law_820 : decode code 820 = .ok (.iconst 3, 1) := by decide +kernel
theorem d_L_law_821 : decode code 821 = .ok (.iadd, 1) := by decide +kernel
theorem d_L_law_822 : decode code 822 = .ok (.iaload, 1) := by decide +kernel
theorem d_L_law_823 : decode code 823 = .ok (.aload_n 0, 1) := by decide +kernel
theorem d_L_law_824 : decode code 824 = .ok (.iload_n 3, 1) := by decide +kernel
theorem d_L_law_825 : decode code 825 = .ok (.iconst 4, 1) := by decide +kernel
theorem d_L_law_826 : decode code 826 = .ok (.iadd, 1) := by decide +kernel
theorem d_L_law_827 : decode code 827 = .ok (.iaload, 1) := by decide +kernel
theorem d_L_law_828 : decode code 828 = .ok (.invokevirtual 86, 3) := by decide +kernel
theorem d_L_law_831 : decode code 831 = .ok (.if_icmp .eq 575, 3) := by decide +kernel
theorem d_L_law_834 : decode code 834 = .ok (.iconst 0, 1) := by decide +kernel
theorem d_L_law_835 : decode code 835 = .ok (.ireturn, 1) := by decide +kernel
theorem d_L_law_836 : decode code 836 = .ok (.aload_n 1, 1) := by decide +kernel
theorem d_L_law_837 : decode code 837 = .ok (.aload_n 0, 1) := by decide +kernel
theorem d_L_law_838 : decode code 838 = .ok (.iload_n 3, 1) := by decide +kernel
theorem d_L_law_839 : decode code 839 = .ok (.iconst 1, 1) := by decide +kernel
theorem d_L_law_840 : decode code 840 = .ok (.iadd, 1) := by decide +kernel
theorem d_L_law_841 : decode code 841 = .ok (.iaload, 1) := by decide +kernel
theorem d_L_law_842 : decode code 842 = .ok (.aload_n 0, 1) := by decide +kernel
theorem d_L_law_843 : decode code 843 = .ok (.iload_n 3, 1) := by decide +kernel
theorem d_L_law_844 : decode code 844 = .ok (.iconst 2, 1) := by decide +kernel
theorem d_L_law_845 : decode code 845 = .ok (.iadd, 1) := by decide +kernel
theorem d_L_law_846 : decode code 846 = .ok (.iaload, 1) := by decide +kernel
theorem d_L_law_847 : decode code 847 = .ok (.aload_n 0, 1) := by decide +kernel
theorem d_L_law_848 : decode code 848 = .ok (.iload_n 3, 1) := by decide +kernel
theorem d_L_law_849 : decode code 849 = .ok (.iconst 3, 1) := by decide +kernel
theorem d_L_law_850 : decode code 850 = .ok (.iadd, 1) := by decide +kernel
theorem d_L_law_851 : decode code 851 = .ok (.iaload, 1) := by decide +kernel
theorem d_L_law_852 : decode code 852 = .ok (.invokevirtual 87, 3) := by decide +kernel
theorem d_L_law_855 : decode code 855 = .ok (.aload_n 2, 1) := by decide +kernel
theorem d_L_law_856 : decode code 856 = .ok (.aload_n 0, 1) := by decide +kernel
theorem d_L_law_857 : decode code 857 = .ok (.iload_n 3, 1) := by decide +kernel
theorem d_L_law_858 : decode code 858 = .ok (.iconst 1, 1) := by decide +kernel
theorem d_L_law_859 : decode code 859 = .ok (.iadd, 1) := by decide +kernel
theorem d_L_law_860 : decode code 860 = .ok (.iaload, 1) := by decide +kernel
theorem d_L_law_861 : decode code 861 = .ok (.aload_n 0, 1) := by decide +kernel
theorem d_L_law_862 : decode code 862 = .ok (.iload_n 3, 1) := by decide +kernel
theorem d_L_law_863 : decode code 863 = .ok (.iconst 2, 1) := by decide +kernel
theorem d_L_law_864 : decode code 864 = .ok (.iadd, 1) := by decide +kernel
theorem d_L_law_865 : decode code 865 = .ok (.iaload, 1) := by decide +kernel
theorem d_L_law_866 : decode code 866 = .ok (.aload_n 0, 1) := by decide +kernel
theorem d_L_law_867 : decode code 867 = .ok (.iload_n 3, 1) := by decide +kernel
theorem d_L_law_868 : decode code 868 = .ok (.iconst 3, 1) := by decide +kernel
theorem d_L_law_869 : decode code 869 = .ok (.iadd, 1) := by decide +kernel
theorem d_L_law_870 : decode code 870 = .ok (.iaload, 1) := by decide +kernel
theorem d_L_law_871 : decode code 871 = .ok (.invokevirtual 90, 3) := by decide +kernel
theorem d_L_law_874 : decode code 874 = .ok (.if_icmp .eq 532, 3) := by decide +kernel
theorem d_L_law_877 : decode code 877 = .ok (.iconst 0, 1) := by decide +kernel
theorem d_L_law_878 : decode code 878 = .ok (.ireturn, 1) := by decide +kernel
theorem d_L_law_879 : decode code 879 = .ok (.aload_n 1, 1) := by decide +kernel
theorem d_L_law_880 : decode code 880 = .ok (.aload_n 0, 1) := by decide +kernel
theorem d_L_law_881 : decode code 881 = .ok (.iload_n 3, 1) := by decide +kernel
theorem d_L_law_882 : decode code 882 = .ok (.iconst 1, 1) := by decide +kernel
theorem d_L_law_883 : decode code 883 = .ok (.iadd, 1) := by decide +kernel
theorem d_L_law_884 : decode code 884 = .ok (.iaload, 1) := by decide +kernel
theorem d_L_law_885 : decode code 885 = .ok (.aload_n 0, 1) := by decide +kernel
theorem d_L_law_886 : decode code 886 = .ok (.iload_n 3, 1) := by decide +kernel
theorem d_L_law_887 : decode code 887 = .ok (.iconst 2, 1) := by decide +kernel
theorem d_L_law_888 : decode code 888 = .ok (.iadd, 1) := by decide +kernel
theorem d_L_law_889 : decode code 889 = .ok (.iaload, 1) := by decide +kernel
theorem d_L_law_890 : decode code 890 = .ok (.aload_n 0, 1) := by decide +kernel
theorem d_L_law_891 : decode code 891 = .ok (.iload_n 3, 1) := by decide +kernel
theorem d_L_law_892 : decode code 892 = .ok (.iconst 3, 1) := by decide +kernel
theorem d_L_law_893 : decode code 893 = .ok (.iadd, 1) := by decide +kernel
theorem d_L_law_894 : decode code 894 = .ok (.iaload, 1) := by decide +kernel
theorem d_L_law_895 : decode code 895 = .ok (.invokevirtual 91, 3) := by decide +kernel
theorem d_L_law_898 : decode code 898 = .ok (.aload_n 2, 1) := by decide +kernel
theorem d_L_law_899 : decode code 899 = .ok (.aload_n 0, 1) := by decide +kernel
theorem d_L_law_900 : decode code 900 = .ok (.iload_n 3, 1) := by decide +kernel
theorem d_L_law_901 : decode code 901 = .ok (.iconst 1, 1) := by decide +kernel
theorem d_L_law_902 : decode code 902 = .ok (.iadd, 1) := by decide +kernel
theorem d_L_law_903 : decode code 903 = .ok (.iaload, 1) := by decide +kernel
theorem d_L_law_904 : decode code 904 = .ok (.aload_n 0, 1) := by decide +kernel
theorem d_L_law_905 : decode code 905 = .ok (.iload_n 3, 1) := by decide +kernel
theorem d_L_law_906 : decode code 906 = .ok (.iconst 2, 1) := by decide +kernel
theorem d_L_law_907 : decode code 907 = .ok (.iadd, 1) := by decide +kernel
theorem d_L_law_908 : decode code 908 = .ok (.iaload, 1) := by decide +kernel
theorem d_L_law_909 : decode code 909 = .ok (.aload_n 0, 1) := by decide +kernel
theorem d_L_law_910 : decode code 910 = .ok (.iload_n 3, 1) := by decide +kernel
theorem d_L_law_911 : decode code 911 = .ok (.iconst 3, 1) := by decide +kernel
theorem d_L_law_912 : decode code 912 = .ok (.iadd, 1) := by decide +kernel
theorem d_L_law_913 : decode code 913 = .ok (.iaload, 1) := by decide +kernel
theorem d_L_law_914 : decode code 914 = .ok (.invokevirtual 94, 3) := by decide +kernel
theorem d_L_law_917 : decode code 917 = .ok (.if_icmp .eq 489, 3) := by decide +kernel
theorem d_L_law_920 : decode code 920 = .ok (.iconst 0, 1) := by decide +kernel
theorem d_L_law_921 : decode code 921 = .ok (.ireturn, 1) := by decide +kernel
theorem d_L_law_922 : decode code 922 = .ok (.aload_n 1, 1) := by decide +kernel
theorem d_L_law_923 : decode code 923 = .ok (.aload_n 0, 1) := by decide +kernel
theorem d_L_law_924 : decode code 924 = .ok (.iload_n 3, 1) := by decide +kernel
theorem d_L_law_925 : decode code 925 = .ok (.iconst 1, 1) := by decide +kernel
theorem d_L_law_926 : decode code 926 = .ok (.iadd, 1) := by decide +kernel
theorem d_L_law_927 : decode code 927 = .ok (.iaload, 1) := by decide +kernel
theorem d_L_law_928 : decode code 928 = .ok (.aload_n 0, 1) := by decide +kernel
theorem d_L_law_929 : decode code 929 = .ok (.iload_n 3, 1) := by decide +kernel
theorem d_L_law_930 : decode code 930 = .ok (.iconst 2, 1) := by decide +kernel
theorem d_L_law_931 : decode code 931 = .ok (.iadd, 1) := by decide +kernel
theorem d_L_law_932 : decode code 932 = .ok (.iaload, 1) := by decide +kernel
theorem d_L_law_933 : decode code 933 = .ok (.aload_n 0, 1) := by decide +kernel
theorem d_L_law_934 : decode code 934 = .ok (.iload_n 3, 1) := by decide +kernel
theorem d_L_law_935 : decode code 935 = .ok (.iconst 3, 1) := by decide +kernel
theorem d_L_law_936 : decode code 936 = .ok (.iadd, 1) := by decide +kernel
theorem d_L_law_937 : decode code 937 = .ok (.iaload, 1) := by decide +kernel
theorem d_L_law_938 : decode code 938 = .ok (.ifCond .eq 7, 3) := by decide +kernel
theorem d_L_law_941 : decode code 941 = .ok (.iconst 1, 1) := by decide +kernel
theorem d_L_law_942 : decode code 942 = .ok (.goto 4, 3) := by decide +kernel
theorem d_L_law_945 : decode code 945 = .ok (.iconst 0, 1) := by decide +kernel
theorem d_L_law_946 : decode code 946 = .ok (.invokevirtual 95, 3) := by decide +kernel
theorem d_L_law_949 : decode code 949 = .ok (.aload_n 2, 1) := by decide +kernel
theorem d_L_law_950 : decode code 950 = .ok (.aload_n 0, 1) := by decide +kernel
theorem d_L_law_951 : decode code 951 = .ok (.iload_n 3, 1) := by decide +kernel
theorem d_L_law_952 : decode code 952 = .ok (.iconst 1, 1) := by decide +kernel
theorem d_L_law_953 : decode code 953 = .ok (.iadd, 1) := by decide +kernel
theorem d_L_law_954 : decode code 954 = .ok (.iaload, 1) := by decide +kernel
theorem d_L_law_955 : decode code 955 = .ok (.aload_n 0, 1) := by decide +kernel
theorem d_L_law_956 : decode code 956 = .ok (.iload_n 3, 1) := by decide +kernel
theorem d_L_law_957 : decode code 957 = .ok (.iconst 2, 1) := by decide +kernel
theorem d_L_law_958 : decode code 958 = .ok (.iadd, 1) := by decide +kernel
theorem d_L_law_959 : decode code 959 = .ok (.iaload, 1) := by decide +kernel
theorem d_L_law_960 : decode code 960 = .ok (.aload_n 0, 1) := by decide +kernel
theorem d_L_law_961 : decode code 961 = .ok (.iload_n 3, 1) := by decide +kernel
theorem d_L_law_962 : decode code 962 = .ok (.iconst 3, 1) := by decide +kernel
theorem d_L_law_963 : decode code 963 = .ok (.iadd, 1) := by decide +kernel
theorem d_L_law_964 : decode code 964 = .ok (.iaload, 1) := by decide +kernel
theorem d_L_law_965 : decode code 965 = .ok (.ifCond .eq 7, 3) := by decide +kernel
theorem d_L_law_968 : decode code 968 = .ok (.iconst 1, 1) := by decide +kernel
theorem d_L_law_969 : decode code 969 = .ok (.goto 4, 3) := by decide +kernel
theorem d_L_law_972 : decode code 972 = .ok (.iconst 0, 1) := by decide +kernel
theorem d_L_law_973 : decode code 973 = .ok (.invokevirtual 99, 3) := by decide +kernel
theorem d_L_law_976 : decode code 976 = .ok (.if_icmp .eq 430, 3) := by decide +kernel
theorem d_L_law_979 : decode code 979 = .ok (.iconst 0, 1) := by decide +kernel
theorem d_L_law_980 : decode code 980 = .ok (.ireturn, 1) := by decide +kernel
theorem d_L_law_981 : decode code 981 = .ok (.aload_n 1, 1) := by decide +kernel
theorem d_L_law_982 : decode code 982 = .ok (.aload_n 0, 1) := by decide +kernel
theorem d_L_law_983 : decode code 983 = .ok (.iload_n 3, 1) := by decide +kernel
theorem d_L_law_984 : decode code 984 = .ok (.iconst 1, 1) := by decide +kernel
theorem d_L_law_985 : decode code 985 = .ok (.iadd, 1) := by decide +kernel
theorem d_L_law_986 : decode code 986 = .ok (.iaload, 1) := by decide +kernel
theorem d_L_law_987 : decode code 987 = .ok (.aload_n 0, 1) := by decide +kernel
theorem d_L_law_988 : decode code 988 = .ok (.iload_n 3, 1) := by decide +kernel
theorem d_L_law_989 : decode code 989 = .ok (.iconst 2, 1) := by decide +kernel
theorem d_L_law_990 : decode code 990 = .ok (.iadd, 1) := by decide +kernel
theorem d_L_law_991 : decode code 991 = .ok (.iaload, 1) := by decide +kernel
theorem d_L_law_992 : decode code 992 = .ok (.aload_n 0, 1) := by decide +kernel
theorem d_L_law_993 : decode code 993 = .ok (.iload_n 3, 1) := by decide +kernel
theorem d_L_law_994 : decode code 994 = .ok (.iconst 3, 1) := by decide +kernel
theorem d_L_law_995 : decode code 995 = .ok (.iadd, 1) := by decide +kernel
theorem d_L_law_996 : decode code 996 = .ok (.iaload, 1) := by decide +kernel
theorem d_L_law_997 : decode code 997 = .ok (.invokevirtual 100, 3) := by decide +kernel
theorem d_L_law_1000 : decode code 1000 = .ok (.aload_n 2, 1) := by decide +kernel
theorem d_L_law_1001 : decode code 1001 = .ok (.aload_n 0, 1) := by decide +kernel
theorem d_L_law_1002 : decode code 1002 = .ok (.iload_n 3, 1) := by decide +kernel
theorem d_L_law_1003 : decode code 1003 = .ok (.iconst 1, 1) := by decide +kernel
theorem d_L_law_1004 : decode code 1004 = .ok (.iadd, 1) := by decide +kernel
theorem d_L_law_1005 : decode code 1005 = .ok (.iaload, 1) := by decide +kernel
theorem d_L_law_1006 : decode code 1006 = .ok (.aload_n 0, 1) := by decide +kernel
theorem d_L_law_1007 : decode code 1007 = .ok (.iload_n 3, 1) := by decide +kernel
theorem d_L_law_1008 : decode code 1008 = .ok (.iconst 2, 1) := by decide +kernel
theorem d_L_law_1009 : decode code 1009 = .ok (.iadd, 1) := by decide +kernel
theorem d_L_law_1010 : decode code 1010 = .ok (.iaload, 1) := by decide +kernel
theorem d_L_law_1011 : decode code 1011 = .ok (.aload_n 0, 1) := by decide +kernel
theorem d_L_law_1012 : decode code 1012 = .ok (.iload_n 3, 1) := by decide +kernel
theorem d_L_law_1013 : decode code 1013 = .ok (.iconst 3, 1) := by decide +kernel
theorem d_L_law_1014 : decode code 1014 = .ok (.iadd, 1) := by decide +kernel
theorem d_L_law_1015 : decode code 1015 = .ok (.iaload, 1) := by decide +kernel
theorem d_L_law_1016 : decode code 1016 = .ok (.invokevirtual 103, 3) := by decide +kernel
theorem d_L_law_1019 : decode code 1019 = .ok (.if_icmp .eq 387, 3) := by decide +kernel
theorem d_L_law_1022 : decode code 1022 = .ok (.iconst 0, 1) := by decide +kernel
theorem d_L_law_1023 : decode code 1023 = .ok (.ireturn, 1) := by decide +kernel
theorem d_L_law_1024 : decode code 1024 = .ok (.aload_n 1, 1) := by decide +kernel
theorem d_L_law_1025 : decode code 1025 = .ok (.aload_n 0, 1) := by decide +kernel
theorem d_L_law_1026 : decode code 1026 = .ok (.iload_n 3, 1) := by decide +kernel
theorem d_L_law_1027 : decode code 1027 = .ok (.iconst 1, 1) := by decide +kernel
theorem d_L_law_1028 : decode code 1028 = .ok (.iadd, 1) := by decide +kernel
theorem d_L_law_1029 : decode code 1029 = .ok (.iaload, 1) := by decide +kernel
theorem d_L_law_1030 : decode code 1030 = .ok (.aload_n 0, 1) := by decide +kernel
theorem d_L_law_1031 : decode code 1031 = .ok (.iload_n 3, 1) := by decide +kernel
theorem d_L_law_1032 : decode code 1032 = .ok (.iconst 2, 1) := by decide +kernel
theorem d_L_law_1033 : decode code 1033 = .ok (.iadd, 1) := by decide +kernel
theorem d_L_law_1034 : decode code 1034 = .ok (.iaload, 1) := by decide +kernel
theorem d_L_law_1035 : decode code 1035 = .ok (.aload_n 0, 1) := by decide +kernel
theorem d_L_law_1036 : decode code 1036 = .ok (.iload_n 3, 1) := by decide +kernel
theorem d_L_law_1037 : decode code 1037 = .ok (.iconst 3, 1) := by decide +kernel
theorem d_L_law_1038 : decode code 1038 = .ok (.iadd, 1) := by decide +kernel
theorem d_L_law_1039 : decode code 1039 = .ok (.iaload, 1) := by decide +kernel
theorem d_L_law_1040 : decode code 1040 = .ok (.aload_n 0, 1) := by decide +kernel
theorem d_L_law_1041 : decode code 1041 = .ok (.iload_n 3, 1) := by decide +kernel
theorem d_L_law_1042 : decode code 1042 = .ok (.iconst 4, 1) := by decide +kernel
theorem d_L_law_1043 : decode code 1043 = .ok (.iadd, 1) := by decide +kernel
theorem d_L_law_1044 : decode code 1044 = .ok (.iaload, 1) := by decide +kernel
theorem d_L_law_1045 : decode code 1045 = .ok (.invokevirtual 104, 3) := by decide +kernel
theorem d_L_law_1048 : decode code 1048 = .ok (.aload_n 2, 1) := by decide +kernel
theorem d_L_law_1049 : decode code 1049 = .ok (.aload_n 0, 1) := by decide +kernel
theorem d_L_law_1050 : decode code 1050 = .ok (.iload_n 3, 1) := by decide +kernel
theorem d_L_law_1051 : decode code 1051 = .ok (.iconst 1, 1) := by decide +kernel
theorem d_L_law_1052 : decode code 1052 = .ok (.iadd, 1) := by decide +kernel
theorem d_L_law_1053 : decode code 1053 = .ok (.iaload, 1) := by decide +kernel
theorem d_L_law_1054 : decode code 1054 = .ok (.aload_n 0, 1) := by decide +kernel
theorem d_L_law_1055 : decode code 1055 = .ok (.iload_n 3, 1) := by decide +kernel
theorem d_L_law_1056 : decode code 1056 = .ok (.iconst 2, 1) := by decide +kernel
theorem d_L_law_1057 : decode code 1057 = .ok (.iadd, 1) := by decide +kernel
theorem d_L_law_1058 : decode code 1058 = .ok (.iaload, 1) := by decide +kernel
theorem d_L_law_1059 : decode code 1059 = .ok (.aload_n 0, 1) := by decide +kernel
theorem d_L_law_1060 : decode code 1060 = .ok (.iload_n 3, 1) := by decide +kernel
theorem d_L_law_1061 : decode code 1061 = .ok (.iconst 3, 1) := by decide +kernel
theorem d_L_law_1062 : decode code 1062 = .ok (.iadd, 1) := by decide +kernel
theorem d_L_law_1063 : decode code 1063 = .ok (.iaload, 1) := by decide +kernel
theorem d_L_law_1064 : decode code 1064 = .ok (.aload_n 0, 1) := by decide +kernel
theorem d_L_law_1065 : decode code 1065 = .ok (.iload_n 3, 1) := by decide +kernel
theorem d_L_law_1066 : decode code 1066 = .ok (.iconst 4, 1) := by decide +kernel
theorem d_L_law_1067 : decode code 1067 = .ok (.iadd, 1) := by decide +kernel
theorem d_L_law_1068 : decode code 1068 = .ok (.iaload, 1) := by decide +kernel
theorem d_L_law_1069 : decode code 1069 = .ok (.invokevirtual 107, 3) := by decide +kernel
theorem d_L_law_1072 : decode code 1072 = .ok (.if_icmp .eq 334, 3) := by decide +kernel
theorem d_L_law_1075 : decode code 1075 = .ok (.iconst 0, 1) := by decide +kernel
theorem d_L_law_1076 : decode code 1076 = .ok (.ireturn, 1) := by decide +kernel
theorem d_L_law_1077 : decode code 1077 = .ok (.aload_n 1, 1) := by decide +kernel
theorem d_L_law_1078 : decode code 1078 = .ok (.aload_n 0, 1) := by decide +kernel
theorem d_L_law_1079 : decode code 1079 = .ok (.iload_n 3, 1) := by decide +kernel
theorem d_L_law_1080 : decode code 1080 = .ok (.iconst 1, 1) := by decide +kernel
theorem d_L_law_1081 : decode code 1081 = .ok (.iadd, 1) := by decide +kernel
theorem d_L_law_1082 : decode code 1082 = .ok (.iaload, 1) := by decide +kernel
theorem d_L_law_1083 : decode code 1083 = .ok (.aload_n 0, 1) := by decide +kernel
theorem d_L_law_1084 : decode code 1084 = .ok (.iload_n 3, 1) := by decide +kernel
theorem d_L_law_1085 : decode code 1085 = .ok (.iconst 2, 1) := by decide +kernel
theorem d_L_law_1086 : decode code 1086 = .ok (.iadd, 1) := by decide +kernel
theorem d_L_law_1087 : decode code 1087 = .ok (.iaload, 1) := by decide +kernel
theorem d_L_law_1088 : decode code 1088 = .ok (.aload_n 0, 1) := by decide +kernel
theorem d_L_law_1089 : decode code 1089 = .ok (.iload_n 3, 1) := by decide +kernel
theorem d_L_law_1090 : decode code 1090 = .ok (.iconst 3, 1) := by decide +kernel
theorem d_L_law_1091 : decode code 1091 = .ok (.iadd, 1) := by decide +kernel
theorem d_L_law_1092 : decode code 1092 = .ok (.iaload, 1) := by decide +kernel
theorem d_L_law_1093 : decode code 1093 = .ok (.invokevirtual 108, 3) := by decide +kernel
theorem d_L_law_1096 : decode code 1096 = .ok (.aload_n 2, 1) := by decide +kernel
theorem d_L_law_1097 : decode code 1097 = .ok (.aload_n 0, 1) := by decide +kernel
theorem d_L_law_1098 : decode code 1098 = .ok (.iload_n 3, 1) := by decide +kernel
theorem d_L_law_1099 : decode code 1099 = .ok (.iconst 1, 1) := by decide +kernel
theorem d_L_law_1100 : decode code 1100 = .ok (.iadd, 1) := by decide +kernel
theorem d_L_law_1101 : decode code 1101 = .ok (.iaload, 1) := by decide +kernel
theorem d_L_law_1102 : decode code 1102 = .ok (.aload_n 0, 1) := by decide +kernel
theorem d_L_law_1103 : decode code 1103 = .ok (.iload_n 3, 1) := by decide +kernel
theorem d_L_law_1104 : decode code 1104 = .ok (.iconst 2, 1) := by decide +kernel
theorem d_L_law_1105 : decode code 1105 = .ok (.iadd, 1) := by decide +kernel
theorem d_L_law_1106 : decode code 1106 = .ok (.iaload, 1) := by decide +kernel
theorem d_L_law_1107 : decode code 1107 = .ok (.aload_n 0, 1) := by decide +kernel
theorem d_L_law_1108 : decode code 1108 = .ok (.iload_n 3, 1) := by decide +kernel
theorem d_L_law_1109 : decode code 1109 = .ok (.iconst 3, 1) := by decide +kernel
theorem d_L_law_1110 : decode code 1110 = .ok (.iadd, 1) := by decide +kernel
theorem d_L_law_1111 : decode code 1111 = .ok (.iaload, 1) := by decide +kernel
theorem d_L_law_1112 : decode code 1112 = .ok (.invokevirtual 111, 3) := by decide +kernel
theorem d_L_law_1115 : decode code 1115 = .ok (.if_icmp .eq 291, 3) := by decide +kernel
theorem d_L_law_1118 : decode code 1118 = .ok (.iconst 0, 1) := by decide +kernel
theorem d_L_law_1119 : decode code 1119 = .ok (.ireturn, 1) := by decide +kernel
theorem d_L_law_1120 : decode code 1120 = .ok (.aload_n 1, 1) := by decide +kernel
theorem d_L_law_1121 : decode code 1121 = .ok (.aload_n 0, 1) := by decide +kernel
theorem d_L_law_1122 : decode code 1122 = .ok (.iload_n 3, 1) := by decide +kernel
theorem d_L_law_1123 : decode code 1123 = .ok (.iconst 1, 1) := by decide +kernel
theorem d_L_law_1124 : decode code 1124 = .ok (.iadd, 1) := by decide +kernel
theorem d_L_law_1125 : decode code 1125 = .ok (.iaload, 1) := by decide +kernel
theorem d_L_law_1126 : decode code 1126 = .ok (.aload_n 0, 1) := by decide +kernel
theorem d_L_law_1127 : decode code 1127 = .ok (.iload_n 3, 1) := by decide +kernel
theorem d_L_law_1128 : decode code 1128 = .ok (.iconst 2, 1) := by decide +kernel
theorem d_L_law_1129 : decode code 1129 = .ok (.iadd, 1) := by decide +kernel
theorem d_L_law_1130 : decode code 1130 = .ok (.iaload, 1) := by decide +kernel
theorem d_L_law_1131 : decode code 1131 = .ok (.aload_n 0, 1) := by decide +kernel
theorem d_L_law_1132 : decode code 1132 = .ok (.iload_n 3, 1) := by decide +kernel
theorem d_L_law_1133 : decode code 1133 = .ok (.iconst 3, 1) := by decide +kernel
theorem d_L_law_1134 : decode code 1134 = .ok (.iadd, 1) := by decide +kernel
theorem d_L_law_1135 : decode code 1135 = .ok (.iaload, 1) := by decide +kernel
theorem d_L_law_1136 : decode code 1136 = .ok (.aload_n 0, 1) := by decide +kernel
theorem d_L_law_1137 : decode code 1137 = .ok (.iload_n 3, 1) := by decide +kernel
theorem d_L_law_1138 : decode code 1138 = .ok (.iconst 4, 1) := by decide +kernel
theorem d_L_law_1139 : decode code 1139 = .ok (.iadd, 1) := by decide +kernel
theorem d_L_law_1140 : decode code 1140 = .ok (.iaload, 1) := by decide +kernel
theorem d_L_law_1141 : decode code 1141 = .ok (.aload_n 0, 1) := by decide +kernel
theorem d_L_law_1142 : decode code 1142 = .ok (.iload_n 3, 1) := by decide +kernel
theorem d_L_law_1143 : decode code 1143 = .ok (.iconst 5, 1) := by decide +kernel
theorem d_L_law_1144 : decode code 1144 = .ok (.iadd, 1) := by decide +kernel
theorem d_L_law_1145 : decode code 1145 = .ok (.iaload, 1) := by decide +kernel
theorem d_L_law_1146 : decode code 1146 = .ok (.aload_n 0, 1) := by decide +kernel
theorem d_L_law_1147 : decode code 1147 = .ok (.iload_n 3, 1) := by decide +kernel
theorem d_L_law_1148 : decode code 1148 = .ok (.bipush 6, 2) := by decide +kernel
theorem d_L_law_1150 : decode code 1150 = .ok (.iadd, 1) := by decide +kernel
theorem d_L_law_1151 : decode code 1151 = .ok (.iaload, 1) := by decide +kernel
theorem d_L_law_1152 : decode code 1152 = .ok (.ifCond .eq 7, 3) := by decide +kernel
theorem d_L_law_1155 : decode code 1155 = .ok (.iconst 1, 1) := by decide +kernel
theorem d_L_law_1156 : decode code 1156 = .ok (.goto 4, 3) := by decide +kernel
theorem d_L_law_1159 : decode code 1159 = .ok (.iconst 0, 1) := by decide +kernel
theorem d_L_law_1160 : decode code 1160 = .ok (.invokevirtual 112, 3) := by decide +kernel
theorem d_L_law_1163 : decode code 1163 = .ok (.aload_n 2, 1) := by decide +kernel
theorem d_L_law_1164 : decode code 1164 = .ok (.aload_n 0, 1) := by decide +kernel
theorem d_L_law_1165 : decode code 1165 = .ok (.iload_n 3, 1) := by decide +kernel
theorem d_L_law_1166 : decode code 1166 = .ok (.iconst 1, 1) := by decide +kernel
theorem d_L_law_1167 : decode code 1167 = .ok (.iadd, 1) := by decide +kernel
theorem d_L_law_1168 : decode code 1168 = .ok (.iaload, 1) := by decide +kernel
theorem d_L_law_1169 : decode code 1169 = .ok (.aload_n 0, 1) := by decide +kernel
theorem d_L_law_1170 : decode code 1170 = .ok (.iload_n 3, 1) := by decide +kernel
theorem d_L_law_1171 : decode code 1171 = .ok (.iconst 2, 1) := by decide +kernel
theorem d_L_law_1172 : decode code 1172 = .ok (.iadd, 1) := by decide +kernel
theorem d_L_law_1173 : decode code 1173 = .ok (.iaload, 1) := by decide +kernel
theorem d_L_law_1174 : decode code 1174 = .ok (.aload_n 0, 1) := by decide +kernel
theorem d_L_law_1175 : decode code 1175 = .ok (.iload_n 3, 1) := by decide +kernel
theorem d_L_law_1176 : decode code 1176 = .ok (.iconst 3, 1) := by decide +kernel
theorem d_L_law_1177 : decode code 1177 = .ok (.iadd, 1) := by decide +kernel
theorem d_L_law_1178 : decode code 1178 = .ok (.iaload, 1) := by decide +kernel
theorem d_L_law_1179 : decode code 1179 = .ok (.aload_n 0, 1) := by decide +kernel
theorem d_L_law_1180 : decode code 1180 = .ok (.iload_n 3, 1) := by decide +kernel
theorem d_L_law_1181 : decode code 1181 = .ok (.iconst 4, 1) := by decide +kernel
theorem d_L_law_1182 : decode code 1182 = .ok (.iadd, 1) := by decide +kernel
theorem d_L_law_1183 : decode code 1183 = .ok (.iaload, 1) := by decide +kernel
theorem d_L_law_1184 : decode code 1184 = .ok (.aload_n 0, 1) := by decide +kernel
theorem d_L_law_1185 : decode code 1185 = .ok (.iload_n 3, 1) := by decide +kernel
theorem d_L_law_1186 : decode code 1186 = .ok (.iconst 5, 1) := by decide +kernel
theorem d_L_law_1187 : decode code 1187 = .ok (.iadd, 1) := by decide +kernel
theorem d_L_law_1188 : decode code 1188 = .ok (.iaload, 1) := by decide +kernel
theorem d_L_law_1189 : decode code 1189 = .ok (.aload_n 0, 1) := by decide +kernel
theorem d_L_law_1190 : decode code 1190 = .ok (.iload_n 3, 1) := by decide +kernel
theorem d_L_law_1191 : decode code 1191 = .ok (.bipush 6, 2) := by decide +kernel
theorem d_L_law_1193 : decode code 1193 = .ok (.iadd, 1) := by decide +kernel
theorem d_L_law_1194 : decode code 1194 = .ok (.iaload, 1) := by decide +kernel
theorem d_L_law_1195 : decode code 1195 = .ok (.ifCond .eq 7, 3) := by decide +kernel
theorem d_L_law_1198 : decode code 1198 = .ok (.iconst 1, 1) := by decide +kernel
theorem d_L_law_1199 : decode code 1199 = .ok (.goto 4, 3) := by decide +kernel
theorem d_L_law_1202 : decode code 1202 = .ok (.iconst 0, 1) := by decide +kernel
theorem d_L_law_1203 : decode code 1203 = .ok (.invokevirtual 116, 3) := by decide +kernel
theorem d_L_law_1206 : decode code 1206 = .ok (.if_icmp .eq 200, 3) := by decide +kernel
theorem d_L_law_1209 : decode code 1209 = .ok (.iconst 0, 1) := by decide +kernel
theorem d_L_law_1210 : decode code 1210 = .ok (.ireturn, 1) := by decide +kernel
theorem d_L_law_1211 : decode code 1211 = .ok (.aload_n 1, 1) := by decide +kernel
theorem d_L_law_1212 : decode code 1212 = .ok (.aload_n 0, 1) := by decide +kernel
theorem d_L_law_1213 : decode code 1213 = .ok (.iload_n 3, 1) := by decide +kernel
theorem d_L_law_1214 : decode code 1214 = .ok (.iconst 1, 1) := by decide +kernel
theorem d_L_law_1215 : decode code 1215 = .ok (.iadd, 1) := by decide +kernel
theorem d_L_law_1216 : decode code 1216 = .ok (.iaload, 1) := by decide +kernel
theorem d_L_law_1217 : decode code 1217 = .ok (.aload_n 0, 1) := by decide +kernel
theorem d_L_law_1218 : decode code 1218 = .ok (.iload_n 3, 1) := by decide +kernel
theorem d_L_law_1219 : decode code 1219 = .ok (.iconst 2, 1) := by decide +kernel
theorem d_L_law_1220 : decode code 1220 = .ok (.iadd, 1) := by decide +kernel
theorem d_L_law_1221 : decode code 1221 = .ok (.iaload, 1) := by decide +kernel
theorem d_L_law_1222 : decode code 1222 = .ok (.aload_n 0, 1) := by decide +kernel
theorem d_L_law_1223 : decode code 1223 = .ok (.iload_n 3, 1) := by decide +kernel
theorem d_L_law_1224 : decode code 1224 = .ok (.iconst 3, 1) := by decide +kernel
theorem d_L_law_1225 : decode code 1225 = .ok (.iadd, 1) := by decide +kernel
theorem d_L_law_1226 : decode code 1226 = .ok (.iaload, 1) := by decide +kernel
theorem d_L_law_1227 : decode code 1227 = .ok (.aload_n 0, 1) := by decide +kernel
theorem d_L_law_1228 : decode code 1228 = .ok (.iload_n 3, 1) := by decide +kernel
theorem d_L_law_1229 : decode code 1229 = .ok (.iconst 4, 1) := by decide +kernel
theorem d_L_law_1230 : decode code 1230 = .ok (.iadd, 1) := by decide +kernel
theorem d_L_law_1231 : decode code 1231 = .ok (.iaload, 1) := by decide +kernel
theorem d_L_law_1232 : decode code 1232 = .ok (.aload_n 0, 1) := by decide +kernel
theorem d_L_law_1233 : decode code 1233 = .ok (.iload_n 3, 1) := by decide +kernel
theorem d_L_law_1234 : decode code 1234 = .ok (.iconst 5, 1) := by decide +kernel
theorem d_L_law_1235 : decode code 1235 = .ok (.iadd, 1) := by decide +kernel
theorem d_L_law_1236 : decode code 1236 = .ok (.iaload, 1) := by decide +kernel
theorem d_L_law_1237 : decode code 1237 = .ok (.invokevirtual 117, 3) := by decide +kernel
theorem d_L_law_1240 : decode code 1240 = .ok (.aload_n 2, 1) := by decide +kernel
theorem d_L_law_1241 : decode code 1241 = .ok (.aload_n 0, 1) := by decide +kernel
theorem d_L_law_1242 : decode code 1242 = .ok (.iload_n 3, 1) := by decide +kernel
theorem d_L_law_1243 : decode code 1243 = .ok (.iconst 1, 1) := by decide +kernel
theorem d_L_law_1244 : decode code 1244 = .ok (.iadd, 1) := by decide +kernel
theorem d_L_law_1245 : decode code 1245 = .ok (.iaload, 1) := by decide +kernel
theorem d_L_law_1246 : decode code 1246 = .ok (.aload_n 0, 1) := by decide +kernel
theorem d_L_law_1247 : decode code 1247 = .ok (.iload_n 3, 1) := by decide +kernel
theorem d_L_law_1248 : decode code 1248 = .ok (.iconst 2, 1) := by decide +kernel
theorem d_L_law_1249 : decode code 1249 = .ok (.iadd, 1) := by decide +kernel
theorem d_L_law_1250 : decode code 1250 = .ok (.iaload, 1) := by decide +kernel
theorem d_L_law_1251 : decode code 1251 = .ok (.aload_n 0, 1) := by decide +kernel
theorem d_L_law_1252 : decode code 1252 = .ok (.iload_n 3, 1) := by decide +kernel
theorem d_L_law_1253 : decode code 1253 = .ok (.iconst 3, 1) := by decide +kernel
theorem d_L_law_1254 : decode code 1254 = .ok (.iadd, 1) := by decide +kernel
theorem d_L_law_1255 : decode code 1255 = .ok (.iaload, 1) := by decide +kernel
theorem d_L_law_1256 : decode code 1256 = .ok (.aload_n 0, 1) := by decide +kernel
theorem d_L_law_1257 : decode code 1257 = .ok (.iload_n 3, 1) := by decide +kernel
theorem d_L_law_1258 : decode code 1258 = .ok (.iconst 4, 1) := by decide +kernel
theorem d_L_law_1259 : decode code 1259 = .ok (.iadd, 1) := by decide +kernel
theorem d_L_law_1260 : decode code 1260 = .ok (.iaload, 1) := by decide +kernel
theorem d_L_law_1261 : decode code 1261 = .ok (.aload_n 0, 1) := by decide +kernel
theorem d_L_law_1262 : decode code 1262 = .ok (.iload_n 3, 1) := by decide +kernel
theorem d_L_law_1263 : decode code 1263 = .ok (.iconst 5, 1) := by decide +kernel
theorem d_L_law_1264 : decode code 1264 = .ok (.iadd, 1) := by decide +kernel
theorem d_L_law_1265 : decode code 1265 = .ok (.iaload, 1) := by decide +kernel
theorem d_L_law_1266 : decode code 1266 = .ok (.invokevirtual 120, 3) := by decide +kernel
theorem d_L_law_1269 : decode code 1269 = .ok (.if_icmp .eq 137, 3) := by decide +kernel
theorem d_L_law_1272 : decode code 1272 = .ok (.iconst 0, 1) := by decide +kernel
theorem d_L_law_1273 : decode code 1273 = .ok (.ireturn, 1) := by decide +kernel
theorem d_L_law_1274 : decode code 1274 = .ok (.aload_n 1, 1) := by decide +kernel
theorem d_L_law_1275 : decode code 1275 = .ok (.aload_n 0, 1) := by decide +kernel
theorem d_L_law_1276 : decode code 1276 = .ok (.iload_n 3, 1) := by decide +kernel
theorem d_L_law_1277 : decode code 1277 = .ok (.iconst 1, 1) := by decide +kernel
theorem d_L_law_1278 : decode code 1278 = .ok (.iadd, 1) := by decide +kernel
theorem d_L_law_1279 : decode code 1279 = .ok (.iaload, 1) := by decide +kernel
theorem d_L_law_1280 : decode code 1280 = .ok (.aload_n 0, 1) := by decide +kernel
theorem d_L_law_1281 : decode code 1281 = .ok (.iload_n 3, 1) := by decide +kernel
theorem d_L_law_1282 : decode code 1282 = .ok (.iconst 2, 1) := by decide +kernel
theorem d_L_law_1283 : decode code 1283 = .ok (.iadd, 1) := by decide +kernel
theorem d_L_law_1284 : decode code 1284 = .ok (.iaload, 1) := by decide +kernel
theorem d_L_law_1285 : decode code 1285 = .ok (.aload_n 0, 1) := by decide +kernel
theorem d_L_law_1286 : decode code 1286 = .ok (.iload_n 3, 1) := by decide +kernel
theorem d_L_law_1287 : decode code 1287 = .ok (.iconst 3, 1) := by decide +kernel
theorem d_L_law_1288 : decode code 1288 = .ok (.iadd, 1) := by decide +kernel
theorem d_L_law_1289 : decode code 1289 = .ok (.iaload, 1) := by decide +kernel
theorem d_L_law_1290 : decode code 1290 = .ok (.aload_n 0, 1) := by decide +kernel
theorem d_L_law_1291 : decode code 1291 = .ok (.iload_n 3, 1) := by decide +kernel
theorem d_L_law_1292 : decode code 1292 = .ok (.iconst 4, 1) := by decide +kernel
theorem d_L_law_1293 : decode code 1293 = .ok (.iadd, 1) := by decide +kernel
theorem d_L_law_1294 : decode code 1294 = .ok (.iaload, 1) := by decide +kernel
theorem d_L_law_1295 : decode code 1295 = .ok (.aload_n 0, 1) := by decide +kernel
theorem d_L_law_1296 : decode code 1296 = .ok (.iload_n 3, 1) := by decide +kernel
theorem d_L_law_1297 : decode code 1297 = .ok (.iconst 5, 1) := by decide +kernel
theorem d_L_law_1298 : decode code 1298 = .ok (.iadd, 1) := by decide +kernel
theorem d_L_law_1299 : decode code 1299 = .ok (.iaload, 1) := by decide +kernel
theorem d_L_law_1300 : decode code 1300 = .ok (.invokevirtual 121, 3) := by decide +kernel
theorem d_L_law_1303 : decode code 1303 = .ok (.aload_n 2, 1) := by decide +kernel
theorem d_L_law_1304 : decode code 1304 = .ok (.aload_n 0, 1) := by decide +kernel
theorem d_L_law_1305 : decode code 1305 = .ok (.iload_n 3, 1) := by decide +kernel
theorem d_L_law_1306 : decode code 1306 = .ok (.iconst 1, 1) := by decide +kernel
theorem d_L_law_1307 : decode code 1307 = .ok (.iadd, 1) := by decide +kernel
theorem d_L_law_1308 : decode code 1308 = .ok (.iaload, 1) := by decide +kernel
theorem d_L_law_1309 : decode code 1309 = .ok (.aload_n 0, 1) := by decide +kernel
theorem d_L_law_1310 : decode code 1310 = .ok (.iload_n 3, 1) := by decide +kernel
theorem d_L_law_1311 : decode code 1311 = .ok (.iconst 2, 1) := by decide +kernel
theorem d_L_law_1312 : decode code 1312 = .ok (.iadd, 1) := by decide +kernel
theorem d_L_law_1313 : decode code 1313 = .ok (.iaload, 1) := by decide +kernel
theorem d_L_law_1314 : decode code 1314 = .ok (.aload_n 0, 1) := by decide +kernel
theorem d_L_law_1315 : decode code 1315 = .ok (.iload_n 3, 1) := by decide +kernel
theorem d_L_law_1316 : decode code 1316 = .ok (.iconst 3, 1) := by decide +kernel
theorem d_L_law_1317 : decode code 1317 = .ok (.iadd, 1) := by decide +kernel
theorem d_L_law_1318 : decode code 1318 = .ok (.iaload, 1) := by decide +kernel
theorem d_L_law_1319 : decode code 1319 = .ok (.aload_n 0, 1) := by decide +kernel
theorem d_L_law_1320 : decode code 1320 = .ok (.iload_n 3, 1) := by decide +kernel
theorem d_L_law_1321 : decode code 1321 = .ok (.iconst 4, 1) := by decide +kernel
theorem d_L_law_1322 : decode code 1322 = .ok (.iadd, 1) := by decide +kernel
theorem d_L_law_1323 : decode code 1323 = .ok (.iaload, 1) := by decide +kernel
theorem d_L_law_1324 : decode code 1324 = .ok (.aload_n 0, 1) := by decide +kernel
theorem d_L_law_1325 : decode code 1325 = .ok (.iload_n 3, 1) := by decide +kernel
theorem d_L_law_1326 : decode code 1326 = .ok (.iconst 5, 1) := by decide +kernel
theorem d_L_law_1327 : decode code 1327 = .ok (.iadd, 1) := by decide +kernel
theorem d_L_law_1328 : decode code 1328 = .ok (.iaload, 1) := by decide +kernel
theorem d_L_law_1329 : decode code 1329 = .ok (.invokevirtual 124, 3) := by decide +kernel
theorem d_L_law_1332 : decode code 1332 = .ok (.if_icmp .eq 74, 3) := by decide +kernel
theorem d_L_law_1335 : decode code 1335 = .ok (.iconst 0, 1) := by decide +kernel
theorem d_L_law_1336 : decode code 1336 = .ok (.ireturn, 1) := by decide +kernel
theorem d_L_law_1337 : decode code 1337 = .ok (.aload_n 1, 1) := by decide +kernel
theorem d_L_law_1338 : decode code 1338 = .ok (.aload_n 0, 1) := by decide +kernel
theorem d_L_law_1339 : decode code 1339 = .ok (.iload_n 3, 1) := by decide +kernel
theorem d_L_law_1340 : decode code 1340 = .ok (.iconst 1, 1) := by decide +kernel
theorem d_L_law_1341 : decode code 1341 = .ok (.iadd, 1) := by decide +kernel
theorem d_L_law_1342 : decode code 1342 = .ok (.iaload, 1) := by decide +kernel
theorem d_L_law_1343 : decode code 1343 = .ok (.invokevirtual 125, 3) := by decide +kernel
theorem d_L_law_1346 : decode code 1346 = .ok (.aload_n 2, 1) := by decide +kernel
theorem d_L_law_1347 : decode code 1347 = .ok (.aload_n 0, 1) := by decide +kernel
theorem d_L_law_1348 : decode code 1348 = .ok (.iload_n 3, 1) := by decide +kernel
theorem d_L_law_1349 : decode code 1349 = .ok (.iconst 1, 1) := by decide +kernel
theorem d_L_law_1350 : decode code 1350 = .ok (.iadd, 1) := by decide +kernel
theorem d_L_law_1351 : decode code 1351 = .ok (.iaload, 1) := by decide +kernel
theorem d_L_law_1352 : decode code 1352 = .ok (.invokevirtual 128, 3) := by decide +kernel
theorem d_L_law_1355 : decode code 1355 = .ok (.if_icmp .eq 51, 3) := by decide +kernel
theorem d_L_law_1358 : decode code 1358 = .ok (.iconst 0, 1) := by decide +kernel
theorem d_L_law_1359 : decode code 1359 = .ok (.ireturn, 1) := by decide +kernel
theorem d_L_law_1360 : decode code 1360 = .ok (.aload_n 1, 1) := by decide +kernel
theorem d_L_law_1361 : decode code 1361 = .ok (.aload_n 0, 1) := by decide +kernel
theorem d_L_law_1362 : decode code 1362 = .ok (.iload_n 3, 1) := by decide +kernel
theorem d_L_law_1363 : decode code 1363 = .ok (.iconst 1, 1) := by decide +kernel
theorem d_L_law_1364 : decode code 1364 = .ok (.iadd, 1) := by decide +kernel
theorem d_L_law_1365 : decode code 1365 = .ok (.iaload, 1) := by decide +kernel
theorem d_L_law_1366 : decode code 1366 = .ok (.invokevirtual 129, 3) := by decide +kernel
theorem d_L_law_1369 : decode code 1369 = .ok (.aload_n 2, 1) := by decide +kernel
theorem d_L_law_1370 : decode code 1370 = .ok (.aload_n 0, 1) := by decide +kernel
theorem d_L_law_1371 : decode code 1371 = .ok (.iload_n 3, 1) := by decide +kernel
theorem d_L_law_1372 : decode code 1372 = .ok (.iconst 1, 1) := by decide +kernel
theorem d_L_law_1373 : decode code 1373 = .ok (.iadd, 1) := by decide +kernel
theorem d_L_law_1374 : decode code 1374 = .ok (.iaload, 1) := by decide +kernel
theorem d_L_law_1375 : decode code 1375 = .ok (.invokevirtual 133, 3) := by decide +kernel
theorem d_L_law_1378 : decode code 1378 = .ok (.if_icmp .eq 28, 3) := by decide +kernel
theorem d_L_law_1381 : decode code 1381 = .ok (.iconst 0, 1) := by decide +kernel
theorem d_L_law_1382 : decode code 1382 = .ok (.ireturn, 1) := by decide +kernel
theorem d_L_law_1383 : decode code 1383 = .ok (.aload_n 1, 1) := by decide +kernel
theorem d_L_law_1384 : decode code 1384 = .ok (.aload_n 0, 1) := by decide +kernel
theorem d_L_law_1385 : decode code 1385 = .ok (.iload_n 3, 1) := by decide +kernel
theorem d_L_law_1386 : decode code 1386 = .ok (.iconst 1, 1) := by decide +kernel
theorem d_L_law_1387 : decode code 1387 = .ok (.iadd, 1) := by decide +kernel
theorem d_L_law_1388 : decode code 1388 = .ok (.iaload, 1) := by decide +kernel
theorem d_L_law_1389 : decode code 1389 = .ok (.invokevirtual 134, 3) := by decide +kernel
theorem d_L_law_1392 : decode code 1392 = .ok (.aload_n 2, 1) := by decide +kernel
theorem d_L_law_1393 : decode code 1393 = .ok (.aload_n 0, 1) := by decide +kernel
theorem d_L_law_1394 : decode code 1394 = .ok (.iload_n 3, 1) := by decide +kernel
theorem d_L_law_1395 : decode code 1395 = .ok (.iconst 1, 1) := by decide +kernel
theorem d_L_law_1396 : decode code 1396 = .ok (.iadd, 1) := by decide +kernel
theorem d_L_law_1397 : decode code 1397 = .ok (.iaload, 1) := by decide +kernel
theorem d_L_law_1398 : decode code 1398 = .ok (.invokevirtual 137, 3) := by decide +kernel
theorem d_L_law_1401 : decode code 1401 = .ok (.if_icmp .eq 5, 3) := by decide +kernel
theorem d_L_law_1404 : decode code 1404 = .ok (.iconst 0, 1) := by decide +kernel
theorem d_L_law_1405 : decode code 1405 = .ok (.ireturn, 1) := by decide +kernel
theorem d_L_law_1406 : decode code 1406 = .ok (.iinc 3 7, 3) := by decide +kernel
theorem d_L_law_1409 : decode code 1409 = .ok (.goto (-1391), 3) := by decide +kernel
theorem d_L_law_1412 : decode code 1412 = .ok (.iconst 1, 1) := by decide +kernel
theorem d_L_law_1413 : decode code 1413 = .ok (.ireturn, 1) := by decide +kernel
