theorem i_L_law_0 : m_at k_L_law 0 = some (.new 7, 3, 0) := m_at_of r_L_law (by decide +kernel)
theorem i_L_law_3 : m_at k_L_law 3 = some (.dup, 1, 0) := m_at_of r_L_law (by decide +kernel)
theorem i_L_law_4 : m_at k_L_law 4 = some (.invokespecial 9, 3, 0) := m_at_of r_L_law (by decide +kernel)
theorem i_L_law_7 : m_at k_L_law 7 = some (.astore_n 1, 1, 0) := m_at_of r_L_law (by decide +kernel)
theorem i_L_law_8 : m_at k_L_law 8 = some (.new 10, 3, 1) := m_at_of r_L_law (by decide +kernel)
theorem i_L_law_11 : m_at k_L_law 11 = some (.dup, 1, 0) := m_at_of r_L_law (by decide +kernel)
theorem i_L_law_12 : m_at k_L_law 12 = some (.invokespecial 12, 3, 1) := m_at_of r_L_law (by decide +kernel)
theorem i_L_law_15 : m_at k_L_law 15 = some (.astore_n 2, 1, 0) := m_at_of r_L_law (by decide +kernel)
theorem i_L_law_16 : m_at k_L_law 16 = some (.iconst 0, 1, 0) := m_at_of r_L_law (by decide +kernel)
theorem i_L_law_17 : m_at k_L_law 17 = some (.istore_n 3, 1, 0) := m_at_of r_L_law (by decide +kernel)
theorem i_L_law_18 : m_at k_L_law 18 = some (.iload_n 3, 1, 0) := m_at_of r_L_law (by decide +kernel)
theorem i_L_law_19 : m_at k_L_law 19 = some (.aload_n 0, 1, 0) := m_at_of r_L_law (by decide +kernel)
theorem i_L_law_20 : m_at k_L_law 20 = some (.arraylength, 1, 0) := m_at_of r_L_law (by decide +kernel)
theorem i_L_law_21 : m_at k_L_law 21 = some (.bipush 8, 2, 0) := m_at_of r_L_law (by decide +kernel)
theorem i_L_law_23 : m_at k_L_law 23 = some (.isub, 1, 0) := m_at_of r_L_law (by decide +kernel)
theorem i_L_law_24 : m_at k_L_law 24 = some (.if_icmp .gt (1647), 3, 0) := m_at_of r_L_law (by decide +kernel)
theorem i_L_law_27 : m_at k_L_law 27 = some (.aload_n 0, 1, 0) := m_at_of r_L_law (by decide +kernel)
theorem i_L_law_28 : m_at k_L_law 28 = some (.iload_n 3, 1, 0) := m_at_of r_L_law (by decide +kernel)
theorem i_L_law_29 : m_at k_L_law 29 = some (.iaload, 1, 0) := m_at_of r_L_law (by decide +kernel)
theorem i_L_law_30 : m_at k_L_law 30 = some (.bipush 63, 2, 0) := m_at_of r_L_law (by decide +kernel)
theorem i_L_law_32 : m_at k_L_law 32 = some (.iand, 1, 0) := m_at_of r_L_law (by decide +kernel)
theorem i_L_law_33 : m_at k_L_law 33 = some (.tableswitch (1632) (0) (46) #[203, 236, 299, 322, 335, 358, 381, 444, 477, 510, 533, 566, 589, 612, 635, 658, 691, 704, 737, 770, 793, 826, 869, 892, 905, 938, 971, 1004, 1027, 1076, 1109, 1196, 1219, 1278, 1327, 1360, 1383, 1462, 1475, 1488, 1521, 1534, 1557, 1570, 1583, 1596, 1609], 203, 0) := m_at_of r_L_law (by decide +kernel)
theorem i_L_law_236 : m_at k_L_law 236 = some (.aload_n 1, 1, 0) := m_at_of r_L_law (by decide +kernel)
theorem i_L_law_237 : m_at k_L_law 237 = some (.aload_n 0, 1, 0) := m_at_of r_L_law (by decide +kernel)
theorem i_L_law_238 : m_at k_L_law 238 = some (.iload_n 3, 1, 0) := m_at_of r_L_law (by decide +kernel)
theorem i_L_law_239 : m_at k_L_law 239 = some (.iconst 1, 1, 0) := m_at_of r_L_law (by decide +kernel)
theorem i_L_law_240 : m_at k_L_law 240 = some (.iadd, 1, 0) := m_at_of r_L_law (by decide +kernel)
theorem i_L_law_241 : m_at k_L_law 241 = some (.iaload, 1, 0) := m_at_of r_L_law (by decide +kernel)
theorem i_L_law_242 : m_at k_L_law 242 = some (.aload_n 0, 1, 0) := m_at_of r_L_law (by decide +kernel)
theorem i_L_law_243 : m_at k_L_law 243 = some (.iload_n 3, 1, 0) := m_at_of r_L_law (by decide +kernel)
theorem i_L_law_244 : m_at k_L_law 244 = some (.iconst 2, 1, 0) := m_at_of r_L_law (by decide +kernel)
theorem i_L_law_245 : m_at k_L_law 245 = some (.iadd, 1, 0) := m_at_of r_L_law (by decide +kernel)
theorem i_L_law_246 : m_at k_L_law 246 = some (.iaload, 1, 0) := m_at_of r_L_law (by decide +kernel)
theorem i_L_law_247 : m_at k_L_law 247 = some (.invokevirtual 13, 3, 2) := m_at_of r_L_law (by decide +kernel)
theorem i_L_law_250 : m_at k_L_law 250 = some (.aload_n 2, 1, 0) := m_at_of r_L_law (by decide +kernel)
theorem i_L_law_251 : m_at k_L_law 251 = some (.aload_n 0, 1, 0) := m_at_of r_L_law (by decide +kernel)
theorem i_L_law_252 : m_at k_L_law 252 = some (.iload_n 3, 1, 0) := m_at_of r_L_law (by decide +kernel)
theorem i_L_law_253 : m_at k_L_law 253 = some (.iconst 1, 1, 0) := m_at_of r_L_law (by decide +kernel)
theorem i_L_law_254 : m_at k_L_law 254 = some (.iadd, 1, 0) := m_at_of r_L_law (by decide +kernel)
theorem i_L_law_255 : m_at k_L_law 255 = some (.iaload, 1, 0) := m_at_of r_L_law (by decide +kernel)
theorem i_L_law_256 : m_at k_L_law 256 = some (.aload_n 0, 1, 0) := m_at_of r_L_law (by decide +kernel)
theorem i_L_law_257 : m_at k_L_law 257 = some (.iload_n 3, 1, 0) := m_at_of r_L_law (by decide +kernel)
theorem i_L_law_258 : m_at k_L_law 258 = some (.iconst 2, 1, 0) := m_at_of r_L_law (by decide +kernel)
theorem i_L_law_259 : m_at k_L_law 259 = some (.iadd, 1, 0) := m_at_of r_L_law (by decide +kernel)
theorem i_L_law_260 : m_at k_L_law 260 = some (.iaload, 1, 0) := m_at_of r_L_law (by decide +kernel)
theorem i_L_law_261 : m_at k_L_law 261 = some (.invokevirtual 17, 3, 3) := m_at_of r_L_law (by decide +kernel)
theorem i_L_law_264 : m_at k_L_law 264 = some (.if_icmp .eq (1401), 3, 0) := m_at_of r_L_law (by decide +kernel)
theorem i_L_law_267 : m_at k_L_law 267 = some (.iconst 0, 1, 0) := m_at_of r_L_law (by decide +kernel)
theorem i_L_law_268 : m_at k_L_law 268 = some (.ireturn, 1, 0) := m_at_of r_L_law (by decide +kernel)
theorem i_L_law_269 : m_at k_L_law 269 = some (.aload_n 1, 1, 0) := m_at_of r_L_law (by decide +kernel)
theorem i_L_law_270 : m_at k_L_law 270 = some (.aload_n 0, 1, 0) := m_at_of r_L_law (by decide +kernel)
theorem i_L_law_271 : m_at k_L_law 271 = some (.iload_n 3, 1, 0) := m_at_of r_L_law (by decide +kernel)
theorem i_L_law_272 : m_at k_L_law 272 = some (.iconst 1, 1, 0) := m_at_of r_L_law (by decide +kernel)
theorem i_L_law_273 : m_at k_L_law 273 = some (.iadd, 1, 0) := m_at_of r_L_law (by decide +kernel)
theorem i_L_law_274 : m_at k_L_law 274 = some (.iaload, 1, 0) := m_at_of r_L_law (by decide +kernel)
theorem i_L_law_275 : m_at k_L_law 275 = some (.aload_n 0, 1, 0) := m_at_of r_L_law (by decide +kernel)
theorem i_L_law_276 : m_at k_L_law 276 = some (.iload_n 3, 1, 0) := m_at_of r_L_law (by decide +kernel)
theorem i_L_law_277 : m_at k_L_law 277 = some (.iconst 2, 1, 0) := m_at_of r_L_law (by decide +kernel)
theorem i_L_law_278 : m_at k_L_law 278 = some (.iadd, 1, 0) := m_at_of r_L_law (by decide +kernel)
theorem i_L_law_279 : m_at k_L_law 279 = some (.iaload, 1, 0) := m_at_of r_L_law (by decide +kernel)
theorem i_L_law_280 : m_at k_L_law 280 = some (.aload_n 0, 1, 0) := m_at_of r_L_law (by decide +kernel)
theorem i_L_law_281 : m_at k_L_law 281 = some (.iload_n 3, 1, 0) := m_at_of r_L_law (by decide +kernel)
theorem i_L_law_282 : m_at k_L_law 282 = some (.iconst 3, 1, 0) := m_at_of r_L_law (by decide +kernel)
theorem i_L_law_283 : m_at k_L_law 283 = some (.iadd, 1, 0) := m_at_of r_L_law (by decide +kernel)
theorem i_L_law_284 : m_at k_L_law 284 = some (.iaload, 1, 0) := m_at_of r_L_law (by decide +kernel)
theorem i_L_law_285 : m_at k_L_law 285 = some (.aload_n 0, 1, 0) := m_at_of r_L_law (by decide +kernel)
theorem i_L_law_286 : m_at k_L_law 286 = some (.iload_n 3, 1, 0) := m_at_of r_L_law (by decide +kernel)
theorem i_L_law_287 : m_at k_L_law 287 = some (.iconst 4, 1, 0) := m_at_of r_L_law (by decide +kernel)
theorem i_L_law_288 : m_at k_L_law 288 = some (.iadd, 1, 0) := m_at_of r_L_law (by decide +kernel)
theorem i_L_law_289 : m_at k_L_law 289 = some (.iaload, 1, 0) := m_at_of r_L_law (by decide +kernel)
theorem i_L_law_290 : m_at k_L_law 290 = some (.aload_n 0, 1, 0) := m_at_of r_L_law (by decide +kernel)
theorem i_L_law_291 : m_at k_L_law 291 = some (.iload_n 3, 1, 0) := m_at_of r_L_law (by decide +kernel)
theorem i_L_law_292 : m_at k_L_law 292 = some (.iconst 5, 1, 0) := m_at_of r_L_law (by decide +kernel)
theorem i_L_law_293 : m_at k_L_law 293 = some (.iadd, 1, 0) := m_at_of r_L_law (by decide +kernel)
theorem i_L_law_294 : m_at k_L_law 294 = some (.iaload, 1, 0) := m_at_of r_L_law (by decide +kernel)
theorem i_L_law_295 : m_at k_L_law 295 = some (.invokevirtual 18, 3, 4) := m_at_of r_L_law (by decide +kernel)
theorem i_L_law_298 : m_at k_L_law 298 = some (.aload_n 2, 1, 0) := m_at_of r_L_law (by decide +kernel)
theorem i_L_law_299 : m_at k_L_law 299 = some (.aload_n 0, 1, 0) := m_at_of r_L_law (by decide +kernel)
theorem i_L_law_300 : m_at k_L_law 300 = some (.iload_n 3, 1, 0) := m_at_of r_L_law (by decide +kernel)
theorem i_L_law_301 : m_at k_L_law 301 = some (.iconst 1, 1, 0) := m_at_of r_L_law (by decide +kernel)
theorem i_L_law_302 : m_at k_L_law 302 = some (.iadd, 1, 0) := m_at_of r_L_law (by decide +kernel)
theorem i_L_law_303 : m_at k_L_law 303 = some (.iaload, 1, 0) := m_at_of r_L_law (by decide +kernel)
theorem i_L_law_304 : m_at k_L_law 304 = some (.aload_n 0, 1, 0) := m_at_of r_L_law (by decide +kernel)
theorem i_L_law_305 : m_at k_L_law 305 = some (.iload_n 3, 1, 0) := m_at_of r_L_law (by decide +kernel)
theorem i_L_law_306 : m_at k_L_law 306 = some (.iconst 2, 1, 0) := m_at_of r_L_law (by decide +kernel)
theorem i_L_law_307 : m_at k_L_law 307 = some (.iadd, 1, 0) := m_at_of r_L_law (by decide +kernel)
theorem i_L_law_308 : m_at k_L_law 308 = some (.iaload, 1, 0) := m_at_of r_L_law (by decide +kernel)
theorem i_L_law_309 : m_at k_L_law 309 = some (.aload_n 0, 1, 0) := m_at_of r_L_law (by decide +kernel)
theorem i_L_law_310 : m_at k_L_law 310 = some (.iload_n 3, 1, 0) := m_at_of r_L_law (by decide +kernel)
theorem i_L_law_311 : m_at k_L_law 311 = some (.iconst 3, 1, 0) := m_at_of r_L_law (by decide +kernel)
theorem i_L_law_312 : m_at k_L_law 312 = some (.iadd, 1, 0) := m_at_of r_L_law (by decide +kernel)
theorem i_L_law_313 : m_at k_L_law 313 = some (.iaload, 1, 0) := m_at_of r_L_law (by decide +kernel)
theorem i_L_law_314 : m_at k_L_law 314 = some (.aload_n 0, 1, 0) := m_at_of r_L_law (by decide +kernel)
theorem i_L_law_315 : m_at k_L_law 315 = some (.iload_n 3, 1, 0) := m_at_of r_L_law (by decide +kernel)
theorem i_L_law_316 : m_at k_L_law 316 = some (.iconst 4, 1, 0) := m_at_of r_L_law (by decide +kernel)
theorem i_L_law_317 : m_at k_L_law 317 = some (.iadd, 1, 0) := m_at_of r_L_law (by decide +kernel)
theorem i_L_law_318 : m_at k_L_law 318 = some (.iaload, 1, 0) := m_at_of r_L_law (by decide +kernel)
theorem i_L_law_319 : m_at k_L_law 319 = some (.aload_n 0, 1, 0) := m_at_of r_L_law (by decide +kernel)
theorem i_L_law_320 : m_at k_L_law 320 = some (.iload_n 3, 1, 0) := m_at_of r_L_law (by decide +kernel)
theorem i_L_law_321 : m_at k_L_law 321 = some (.iconst 5, 1, 0) := m_at_of r_L_law (by decide +kernel)
theorem i_L_law_322 : m_at k_L_law 322 = some (.iadd, 1, 0) := m_at_of r_L_law (by decide +kernel)
theorem i_L_law_323 : m_at k_L_law 323 = some (.iaload, 1, 0) := m_at_of r_L_law (by decide +kernel)
theorem i_L_law_324 : m_at k_L_law 324 = some (.invokevirtual 22, 3, 5) := m_at_of r_L_law (by decide +kernel)
theorem i_L_law_327 : m_at k_L_law 327 = some (.if_icmp .eq (1338), 3, 0) := m_at_of r_L_law (by decide +kernel)
theorem i_L_law_330 : m_at k_L_law 330 = some (.iconst 0, 1, 0) := m_at_of r_L_law (by decide +kernel)
theorem i_L_law_331 : m_at k_L_law 331 = some (.ireturn, 1, 0) := m_at_of r_L_law (by decide +kernel)
theorem i_L_law_332 : m_at k_L_law 332 = some (.aload_n 1, 1, 0) := m_at_of r_L_law (by decide +kernel)
theorem i_L_law_333 : m_at k_L_law 333 = some (.aload_n 0, 1, 0) := m_at_of r_L_law (by decide +kernel)
theorem i_L_law_334 : m_at k_L_law 334 = some (.iload_n 3, 1, 0) := m_at_of r_L_law (by decide +kernel)
theorem i_L_law_335 : m_at k_L_law 335 = some (.iconst 1, 1, 0) := m_at_of r_L_law (by decide +kernel)
theorem i_L_law_336 : m_at k_L_law 336 = some (.iadd, 1, 0) := m_at_of r_L_law (by decide +kernel)
theorem i_L_law_337 : m_at k_L_law 337 = some (.iaload, 1, 0) := m_at_of r_L_law (by decide +kernel)
theorem i_L_law_338 : m_at k_L_law 338 = some (.invokevirtual 23, 3, 6) := m_at_of r_L_law (by decide +kernel)
theorem i_L_law_341 : m_at k_L_law 341 = some (.aload_n 2, 1, 0) := m_at_of r_L_law (by decide +kernel)
theorem i_L_law_342 : m_at k_L_law 342 = some (.aload_n 0, 1, 0) := m_at_of r_L_law (by decide +kernel)
theorem i_L_law_343 : m_at k_L_law 343 = some (.iload_n 3, 1, 0) := m_at_of r_L_law (by decide +kernel)
theorem i_L_law_344 : m_at k_L_law 344 = some (.iconst 1, 1, 0) := m_at_of r_L_law (by decide +kernel)
theorem i_L_law_345 : m_at k_L_law 345 = some (.iadd, 1, 0) := m_at_of r_L_law (by decide +kernel)
theorem i_L_law_346 : m_at k_L_law 346 = some (.iaload, 1, 0) := m_at_of r_L_law (by decide +kernel)
theorem i_L_law_347 : m_at k_L_law 347 = some (.invokevirtual 27, 3, 7) := m_at_of r_L_law (by decide +kernel)
theorem i_L_law_350 : m_at k_L_law 350 = some (.if_icmp .eq (1315), 3, 0) := m_at_of r_L_law (by decide +kernel)
theorem i_L_law_353 : m_at k_L_law 353 = some (.iconst 0, 1, 0) := m_at_of r_L_law (by decide +kernel)
theorem i_L_law_354 : m_at k_L_law 354 = some (.ireturn, 1, 0) := m_at_of r_L_law (by decide +kernel)
theorem i_L_law_355 : m_at k_L_law 355 = some (.aload_n 1, 1, 0) := m_at_of r_L_law (by decide +kernel)
theorem i_L_law_356 : m_at k_L_law 356 = some (.invokevirtual 28, 3, 8) := m_at_of r_L_law (by decide +kernel)
theorem i_L_law_359 : m_at k_L_law 359 = some (.aload_n 2, 1, 0) := m_at_of r_L_law (by decide +kernel)
theorem i_L_law_360 : m_at k_L_law 360 = some (.invokevirtual 32, 3, 9) := m_at_of r_L_law (by decide +kernel)
theorem i_L_law_363 : m_at k_L_law 363 = some (.if_icmp .eq (1302), 3, 0) := m_at_of r_L_law (by decide +kernel)
theorem i_L_law_366 : m_at k_L_law 366 = some (.iconst 0, 1, 0) := m_at_of r_L_law (by decide +kernel)
theorem i_L_law_367 : m_at k_L_law 367 = some (.ireturn, 1, 0) := m_at_of r_L_law (by decide +kernel)
theorem i_L_law_368 : m_at k_L_law 368 = some (.aload_n 1, 1, 0) := m_at_of r_L_law (by decide +kernel)
theorem i_L_law_369 : m_at k_L_law 369 = some (.aload_n 0, 1, 0) := m_at_of r_L_law (by decide +kernel)
theorem i_L_law_370 : m_at k_L_law 370 = some (.iload_n 3, 1, 0) := m_at_of r_L_law (by decide +kernel)
theorem i_L_law_371 : m_at k_L_law 371 = some (.iconst 1, 1, 0) := m_at_of r_L_law (by decide +kernel)
theorem i_L_law_372 : m_at k_L_law 372 = some (.iadd, 1, 0) := m_at_of r_L_law (by decide +kernel)
theorem i_L_law_373 : m_at k_L_law 373 = some (.iaload, 1, 0) := m_at_of r_L_law (by decide +kernel)
theorem i_L_law_374 : m_at k_L_law 374 = some (.invokevirtual 33, 3, 10) := m_at_of r_L_law (by decide +kernel)
theorem i_L_law_377 : m_at k_L_law 377 = some (.aload_n 2, 1, 0) := m_at_of r_L_law (by decide +kernel)
theorem i_L_law_378 : m_at k_L_law 378 = some (.aload_n 0, 1, 0) := m_at_of r_L_law (by decide +kernel)
theorem i_L_law_379 : m_at k_L_law 379 = some (.iload_n 3, 1, 0) := m_at_of r_L_law (by decide +kernel)
theorem i_L_law_380 : m_at k_L_law 380 = some (.iconst 1, 1, 0) := m_at_of r_L_law (by decide +kernel)
theorem i_L_law_381 : m_at k_L_law 381 = some (.iadd, 1, 0) := m_at_of r_L_law (by decide +kernel)
theorem i_L_law_382 : m_at k_L_law 382 = some (.iaload, 1, 0) := m_at_of r_L_law (by decide +kernel)
theorem i_L_law_383 : m_at k_L_law 383 = some (.invokevirtual 36, 3, 11) := m_at_of r_L_law (by decide +kernel)
theorem i_L_law_386 : m_at k_L_law 386 = some (.if_icmp .eq (1279), 3, 0) := m_at_of r_L_law (by decide +kernel)
theorem i_L_law_389 : m_at k_L_law 389 = some (.iconst 0, 1, 0) := m_at_of r_L_law (by decide +kernel)
theorem i_L_law_390 : m_at k_L_law 390 = some (.ireturn, 1, 0) := m_at_of r_L_law (by decide +kernel)
theorem i_L_law_391 : m_at k_L_law 391 = some (.aload_n 1, 1, 0) := m_at_of r_L_law (by decide +kernel)
theorem i_L_law_392 : m_at k_L_law 392 = some (.aload_n 0, 1, 0) := m_at_of r_L_law (by decide +kernel)
theorem i_L_law_393 : m_at k_L_law 393 = some (.iload_n 3, 1, 0) := m_at_of r_L_law (by decide +kernel)
theorem i_L_law_394 : m_at k_L_law 394 = some (.iconst 1, 1, 0) := m_at_of r_L_law (by decide +kernel)
theorem i_L_law_395 : m_at k_L_law 395 = some (.iadd, 1, 0) := m_at_of r_L_law (by decide +kernel)
theorem i_L_law_396 : m_at k_L_law 396 = some (.iaload, 1, 0) := m_at_of r_L_law (by decide +kernel)
theorem i_L_law_397 : m_at k_L_law 397 = some (.invokevirtual 37, 3, 12) := m_at_of r_L_law (by decide +kernel)
theorem i_L_law_400 : m_at k_L_law 400 = some (.aload_n 2, 1, 0) := m_at_of r_L_law (by decide +kernel)
theorem i_L_law_401 : m_at k_L_law 401 = some (.aload_n 0, 1, 0) := m_at_of r_L_law (by decide +kernel)
theorem i_L_law_402 : m_at k_L_law 402 = some (.iload_n 3, 1, 0) := m_at_of r_L_law (by decide +kernel)
theorem i_L_law_403 : m_at k_L_law 403 = some (.iconst 1, 1, 0) := m_at_of r_L_law (by decide +kernel)
theorem i_L_law_404 : m_at k_L_law 404 = some (.iadd, 1, 0) := m_at_of r_L_law (by decide +kernel)
theorem i_L_law_405 : m_at k_L_law 405 = some (.iaload, 1, 0) := m_at_of r_L_law (by decide +kernel)
theorem i_L_law_406 : m_at k_L_law 406 = some (.invokevirtual 41, 3, 13) := m_at_of r_L_law (by decide +kernel)
theorem i_L_law_409 : m_at k_L_law 409 = some (.if_icmp .eq (1256), 3, 0) := m_at_of r_L_law (by decide +kernel)
theorem i_L_law_412 : m_at k_L_law 412 = some (.iconst 0, 1, 0) := m_at_of r_L_law (by decide +kernel)
theorem i_L_law_413 : m_at k_L_law 413 = some (.ireturn, 1, 0) := m_at_of r_L_law (by decide +kernel)
theorem i_L_law_414 : m_at k_L_law 414 = some (.aload_n 1, 1, 0) := m_at_of r_L_law (by decide +kernel)
theorem i_L_law_415 : m_at k_L_law 415 = some (.aload_n 0, 1, 0) := m_at_of r_L_law (by decide +kernel)
theorem i_L_law_416 : m_at k_L_law 416 = some (.iload_n 3, 1, 0) := m_at_of r_L_law (by decide +kernel)
theorem i_L_law_417 : m_at k_L_law 417 = some (.iconst 1, 1, 0) := m_at_of r_L_law (by decide +kernel)
theorem i_L_law_418 : m_at k_L_law 418 = some (.iadd, 1, 0) := m_at_of r_L_law (by decide +kernel)
theorem i_L_law_419 : m_at k_L_law 419 = some (.iaload, 1, 0) := m_at_of r_L_law (by decide +kernel)
theorem i_L_law_420 : m_at k_L_law 420 = some (.aload_n 0, 1, 0) := m_at_of r_L_law (by decide +kernel)
theorem i_L_law_421 : m_at k_L_law 421 = some (.iload_n 3, 1, 0) := m_at_of r_L_law (by decide +kernel)
theorem i_L_law_422 : m_at k_L_law 422 = some (.iconst 2, 1, 0) := m_at_of r_L_law (by decide +kernel)
theorem i_L_law_423 : m_at k_L_law 423 = some (.iadd, 1, 0) := m_at_of r_L_law (by decide +kernel)
theorem i_L_law_424 : m_at k_L_law 424 = some (.iaload, 1, 0) := m_at_of r_L_law (by decide +kernel)
theorem i_L_law_425 : m_at k_L_law 425 = some (.aload_n 0, 1, 0) := m_at_of r_L_law (by decide +kernel)
theorem i_L_law_426 : m_at k_L_law 426 = some (.iload_n 3, 1, 0) := m_at_of r_L_law (by decide +kernel)
theorem i_L_law_427 : m_at k_L_law 427 = some (.iconst 3, 1, 0) := m_at_of r_L_law (by decide +kernel)
theorem i_L_law_428 : m_at k_L_law 428 = some (.iadd, 1, 0) := m_at_of r_L_law (by decide +kernel)
theorem i_L_law_429 : m_at k_L_law 429 = some (.iaload, 1, 0) := m_at_of r_L_law (by decide +kernel)
theorem i_L_law_430 : m_at k_L_law 430 = some (.aload_n 0, 1, 0) := m_at_of r_L_law (by decide +kernel)
theorem i_L_law_431 : m_at k_L_law 431 = some (.iload_n 3, 1, 0) := m_at_of r_L_law (by decide +kernel)
theorem i_L_law_432 : m_at k_L_law 432 = some (.iconst 4, 1, 0) := m_at_of r_L_law (by decide +kernel)
theorem i_L_law_433 : m_at k_L_law 433 = some (.iadd, 1, 0) := m_at_of r_L_law (by decide +kernel)
theorem i_L_law_434 : m_at k_L_law 434 = some (.iaload, 1, 0) := m_at_of r_L_law (by decide +kernel)
theorem i_L_law_435 : m_at k_L_law 435 = some (.aload_n 0, 1, 0) := m_at_of r_L_law (by decide +kernel)
theorem i_L_law_436 : m_at k_L_law 436 = some (.iload_n 3, 1, 0) := m_at_of r_L_law (by decide +kernel)
theorem i_L_law_437 : m_at k_L_law 437 = some (.iconst 5, 1, 0) := m_at_of r_L_law (by decide +kernel)
theorem i_L_law_438 : m_at k_L_law 438 = some (.iadd, 1, 0) := m_at_of r_L_law (by decide +kernel)
theorem i_L_law_439 : m_at k_L_law 439 = some (.iaload, 1, 0) := m_at_of r_L_law (by decide +kernel)
theorem i_L_law_440 : m_at k_L_law 440 = some (.invokevirtual 42, 3, 14) := m_at_of r_L_law (by decide +kernel)
theorem i_L_law_443 : m_at k_L_law 443 = some (.aload_n 2, 1, 0) := m_at_of r_L_law (by decide +kernel)
theorem i_L_law_444 : m_at k_L_law 444 = some (.aload_n 0, 1, 0) := m_at_of r_L_law (by decide +kernel)
theorem i_L_law_445 : m_at k_L_law 445 = some (.iload_n 3, 1, 0) := m_at_of r_L_law (by decide +kernel)
theorem i_L_law_446 : m_at k_L_law 446 = some (.iconst 1, 1, 0) := m_at_of r_L_law (by decide +kernel)
theorem i_L_law_447 : m_at k_L_law 447 = some (.iadd, 1, 0) := m_at_of r_L_law (by decide +kernel)
theorem i_L_law_448 : m_at k_L_law 448 = some (.iaload, 1, 0) := m_at_of r_L_law (by decide +kernel)
theorem i_L_law_449 : m_at k_L_law 449 = some (.aload_n 0, 1, 0) := m_at_of r_L_law (by decide +kernel)
theorem i_L_law_450 : m_at k_L_law 450 = some (.iload_n 3, 1, 0) := m_at_of r_L_law (by decide +kernel)
theorem i_L_law_451 : m_at k_L_law 451 = some (.iconst 2, 1, 0) := m_at_of r_L_law (by decide +kernel)
theorem i_L_law_452 : m_at k_L_law 452 = some (.iadd, 1, 0) := m_at_of r_L_law (by decide +kernel)
theorem i_L_law_453 : m_at k_L_law 453 = some (.iaload, 1, 0) := m_at_of r_L_law (by decide +kernel)
theorem i_L_law_454 : m_at k_L_law 454 = some (.aload_n 0, 1, 0) := m_at_of r_L_law (by decide +kernel)
theorem i_L_law_455 : m_at k_L_law 455 = some (.iload_n 3, 1, 0) := m_at_of r_L_law (by decide +kernel)
theorem i_L_law_456 : m_at k_L_law 456 = some (.iconst 3, 1, 0) := m_at_of r_L_law (by decide +kernel)
theorem i_L_law_457 : m_at k_L_law 457 = some (.iadd, 1, 0) := m_at_of r_L_law (by decide +kernel)
theorem i_L_law_458 : m_at k_L_law 458 = some (.iaload, 1, 0) := m_at_of r_L_law (by decide +kernel)
theorem i_L_law_459 : m_at k_L_law 459 = some (.aload_n 0, 1, 0) := m_at_of r_L_law (by decide +kernel)
theorem i_L_law_460 : m_at k_L_law 460 = some (.iload_n 3, 1, 0) := m_at_of r_L_law (by decide +kernel)
theorem i_L_law_461 : m_at k_L_law 461 = some (.iconst 4, 1, 0) := m_at_of r_L_law (by decide +kernel)
theorem i_L_law_462 : m_at k_L_law 462 = some (.iadd, 1, 0) := m_at_of r_L_law (by decide +kernel)
theorem i_L_law_463 : m_at k_L_law 463 = some (.iaload, 1, 0) := m_at_of r_L_law (by decide +kernel)
theorem i_L_law_464 : m_at k_L_law 464 = some (.aload_n 0, 1, 0) := m_at_of r_L_law (by decide +kernel)
theorem i_L_law_465 : m_at k_L_law 465 = some (.iload_n 3, 1, 0) := m_at_of r_L_law (by decide +kernel)
theorem i_L_law_466 : m_at k_L_law 466 = some (.iconst 5, 1, 0) := m_at_of r_L_law (by decide +kernel)
theorem i_L_law_467 : m_at k_L_law 467 = some (.iadd, 1, 0) := m_at_of r_L_law (by decide +kernel)
theorem i_L_law_468 : m_at k_L_law 468 = some (.iaload, 1, 0) := m_at_of r_L_law (by decide +kernel)
theorem i_L_law_469 : m_at k_L_law 469 = some (.invokevirtual 45, 3, 15) := m_at_of r_L_law (by decide +kernel)
theorem i_L_law_472 : m_at k_L_law 472 = some (.if_icmp .eq (1193), 3, 0) := m_at_of r_L_law (by decide +kernel)
theorem i_L_law_475 : m_at k_L_law 475 = some (.iconst 0, 1, 0) := m_at_of r_L_law (by decide +kernel)
theorem i_L_law_476 : m_at k_L_law 476 = some (.ireturn, 1, 0) := m_at_of r_L_law (by decide +kernel)
theorem i_L_law_477 : m_at k_L_law 477 = some (.aload_n 1, 1, 0) := m_at_of r_L_law (by decide +kernel)
theorem i_L_law_478 : m_at k_L_law 478 = some (.aload_n 0, 1, 0) := m_at_of r_L_law (by decide +kernel)
theorem i_L_law_479 : m_at k_L_law 479 = some (.iload_n 3, 1, 0) := m_at_of r_L_law (by decide +kernel)
theorem i_L_law_480 : m_at k_L_law 480 = some (.iconst 1, 1, 0) := m_at_of r_L_law (by decide +kernel)
theorem i_L_law_481 : m_at k_L_law 481 = some (.iadd, 1, 0) := m_at_of r_L_law (by decide +kernel)
theorem i_L_law_482 : m_at k_L_law 482 = some (.iaload, 1, 0) := m_at_of r_L_law (by decide +kernel)
theorem i_L_law_483 : m_at k_L_law 483 = some (.aload_n 0, 1, 0) := m_at_of r_L_law (by decide +kernel)
theorem i_L_law_484 : m_at k_L_law 484 = some (.iload_n 3, 1, 0) := m_at_of r_L_law (by decide +kernel)
theorem i_L_law_485 : m_at k_L_law 485 = some (.iconst 2, 1, 0) := m_at_of r_L_law (by decide +kernel)
theorem i_L_law_486 : m_at k_L_law 486 = some (.iadd, 1, 0) := m_at_of r_L_law (by decide +kernel)
theorem i_L_law_487 : m_at k_L_law 487 = some (.iaload, 1, 0) := m_at_of r_L_law (by decide +kernel)
theorem i_L_law_488 : m_at k_L_law 488 = some (.invokevirtual 46, 3, 16) := m_at_of r_L_law (by decide +kernel)
theorem i_L_law_491 : m_at k_L_law 491 = some (.aload_n 2, 1, 0) := m_at_of r_L_law (by decide +kernel)
theorem i_L_law_492 : m_at k_L_law 492 = some (.aload_n 0, 1, 0) := m_at_of r_L_law (by decide +kernel)
theorem i_L_law_493 : m_at k_L_law 493 = some (.iload_n 3, 1, 0) := m_at_of r_L_law (by decide +kernel)
theorem i_L_law_494 : m_at k_L_law 494 = some (.iconst 1, 1, 0) := m_at_of r_L_law (by decide +kernel)
theorem i_L_law_495 : m_at k_L_law 495 = some (.iadd, 1, 0) := m_at_of r_L_law (by decide +kernel)
theorem i_L_law_496 : m_at k_L_law 496 = some (.iaload, 1, 0) := m_at_of r_L_law (by decide +kernel)
theorem i_L_law_497 : m_at k_L_law 497 = some (.aload_n 0, 1, 0) := m_at_of r_L_law (by decide +kernel)
theorem i_L_law_498 : m_at k_L_law 498 = some (.iload_n 3, 1, 0) := m_at_of r_L_law (by decide +kernel)
theorem i_L_law_499 : m_at k_L_law 499 = some (.iconst 2, 1, 0) := m_at_of r_L_law (by decide +kernel)
theorem i_L_law_500 : m_at k_L_law 500 = some (.iadd, 1, 0) := m_at_of r_L_law (by decide +kernel)
theorem i_L_law_501 : m_at k_L_law 501 = some (.iaload, 1, 0) := m_at_of r_L_law (by decide +kernel)
theorem i_L_law_502 : m_at k_L_law 502 = some (.invokevirtual 49, 3, 17) := m_at_of r_L_law (by decide +kernel)
theorem i_L_law_505 : m_at k_L_law 505 = some (.if_icmp .eq (1160), 3, 0) := m_at_of r_L_law (by decide +kernel)
theorem i_L_law_508 : m_at k_L_law 508 = some (.iconst 0, 1, 0) := m_at_of r_L_law (by decide +kernel)
theorem i_L_law_509 : m_at k_L_law 509 = some (.ireturn, 1, 0) := m_at_of r_L_law (by decide +kernel)
theorem i_L_law_510 : m_at k_L_law 510 = some (.aload_n 1, 1, 0) := m_at_of r_L_law (by decide +kernel)
theorem i_L_law_511 : m_at k_L_law 511 = some (.aload_n 0, 1, 0) := m_at_of r_L_law (by decide +kernel)
theorem i_L_law_512 : m_at k_L_law 512 = some (.iload_n 3, 1, 0) := m_at_of r_L_law (by decide +kernel)
theorem i_L_law_513 : m_at k_L_law 513 = some (.iconst 1, 1, 0) := m_at_of r_L_law (by decide +kernel)
theorem i_L_law_514 : m_at k_L_law 514 = some (.iadd, 1, 0) := m_at_of r_L_law (by decide +kernel)
theorem i_L_law_515 : m_at k_L_law 515 = some (.iaload, 1, 0) := m_at_of r_L_law (by decide +kernel)
theorem i_L_law_516 : m_at k_L_law 516 = some (.aload_n 0, 1, 0) := m_at_of r_L_law (by decide +kernel)
theorem i_L_law_517 : m_at k_L_law 517 = some (.iload_n 3, 1, 0) := m_at_of r_L_law (by decide +kernel)
theorem i_L_law_518 : m_at k_L_law 518 = some (.iconst 2, 1, 0) := m_at_of r_L_law (by decide +kernel)
theorem i_L_law_519 : m_at k_L_law 519 = some (.iadd, 1, 0) := m_at_of r_L_law (by decide +kernel)
theorem i_L_law_520 : m_at k_L_law 520 = some (.iaload, 1, 0) := m_at_of r_L_law (by decide +kernel)
theorem i_L_law_521 : m_at k_L_law 521 = some (.invokevirtual 50, 3, 18) := m_at_of r_L_law (by decide +kernel)
theorem i_L_law_524 : m_at k_L_law 524 = some (.aload_n 2, 1, 0) := m_at_of r_L_law (by decide +kernel)
theorem i_L_law_525 : m_at k_L_law 525 = some (.aload_n 0, 1, 0) := m_at_of r_L_law (by decide +kernel)
theorem i_L_law_526 : m_at k_L_law 526 = some (.iload_n 3, 1, 0) := m_at_of r_L_law (by decide +kernel)
theorem i_L_law_527 : m_at k_L_law 527 = some (.iconst 1, 1, 0) := m_at_of r_L_law (by decide +kernel)
theorem i_L_law_528 : m_at k_L_law 528 = some (.iadd, 1, 0) := m_at_of r_L_law (by decide +kernel)
theorem i_L_law_529 : m_at k_L_law 529 = some (.iaload, 1, 0) := m_at_of r_L_law (by decide +kernel)
theorem i_L_law_530 : m_at k_L_law 530 = some (.aload_n 0, 1, 0) := m_at_of r_L_law (by decide +kernel)
theorem i_L_law_531 : m_at k_L_law 531 = some (.iload_n 3, 1, 0) := m_at_of r_L_law (by decide +kernel)
theorem i_L_law_532 : m_at k_L_law 532 = some (.iconst 2, 1, 0) := m_at_of r_L_law (by decide +kernel)
theorem i_L_law_533 : m_at k_L_law 533 = some (.iadd, 1, 0) := m_at_of r_L_law (by decide +kernel)
theorem i_L_law_534 : m_at k_L_law 534 = some (.iaload, 1, 0) := m_at_of r_L_law (by decide +kernel)
theorem i_L_law_535 : m_at k_L_law 535 = some (.invokevirtual 54, 3, 19) := m_at_of r_L_law (by decide +kernel)
theorem i_L_law_538 : m_at k_L_law 538 = some (.if_icmp .eq (1127), 3, 0) := m_at_of r_L_law (by decide +kernel)
theorem i_L_law_541 : m_at k_L_law 541 = some (.iconst 0, 1, 0) := m_at_of r_L_law (by decide +kernel)
theorem i_L_law_542 : m_at k_L_law 542 = some (.ireturn, 1, 0) := m_at_of r_L_law (by decide +kernel)
theorem i_L_law_543 : m_at k_L_law 543 = some (.aload_n 1, 1, 0) := m_at_of r_L_law (by decide +kernel)
theorem i_L_law_544 : m_at k_L_law 544 = some (.aload_n 0, 1, 0) := m_at_of r_L_law (by decide +kernel)
theorem i_L_law_545 : m_at k_L_law 545 = some (.iload_n 3, 1, 0) := m_at_of r_L_law (by decide +kernel)
theorem i_L_law_546 : m_at k_L_law 546 = some (.iconst 1, 1, 0) := m_at_of r_L_law (by decide +kernel)
theorem i_L_law_547 : m_at k_L_law 547 = some (.iadd, 1, 0) := m_at_of r_L_law (by decide +kernel)
theorem i_L_law_548 : m_at k_L_law 548 = some (.iaload, 1, 0) := m_at_of r_L_law (by decide +kernel)
theorem i_L_law_549 : m_at k_L_law 549 = some (.invokevirtual 55, 3, 20) := m_at_of r_L_law (by decide +kernel)
theorem i_L_law_552 : m_at k_L_law 552 = some (.aload_n 2, 1, 0) := m_at_of r_L_law (by decide +kernel)
theorem i_L_law_553 : m_at k_L_law 553 = some (.aload_n 0, 1, 0) := m_at_of r_L_law (by decide +kernel)
theorem i_L_law_554 : m_at k_L_law 554 = some (.iload_n 3, 1, 0) := m_at_of r_L_law (by decide +kernel)
theorem i_L_law_555 : m_at k_L_law 555 = some (.iconst 1, 1, 0) := m_at_of r_L_law (by decide +kernel)
theorem i_L_law_556 : m_at k_L_law 556 = some (.iadd, 1, 0) := m_at_of r_L_law (by decide +kernel)
theorem i_L_law_557 : m_at k_L_law 557 = some (.iaload, 1, 0) := m_at_of r_L_law (by decide +kernel)
theorem i_L_law_558 : m_at k_L_law 558 = some (.invokevirtual 58, 3, 21) := m_at_of r_L_law (by decide +kernel)
theorem i_L_law_561 : m_at k_L_law 561 = some (.if_icmp .eq (1104), 3, 0) := m_at_of r_L_law (by decide +kernel)
theorem i_L_law_564 : m_at k_L_law 564 = some (.iconst 0, 1, 0) := m_at_of r_L_law (by decide +kernel)
theorem i_L_law_565 : m_at k_L_law 565 = some (.ireturn, 1, 0) := m_at_of r_L_law (by decide +kernel)
theorem i_L_law_566 : m_at k_L_law 566 = some (.aload_n 1, 1, 0) := m_at_of r_L_law (by decide +kernel)
theorem i_L_law_567 : m_at k_L_law 567 = some (.aload_n 0, 1, 0) := m_at_of r_L_law (by decide +kernel)
theorem i_L_law_568 : m_at k_L_law 568 = some (.iload_n 3, 1, 0) := m_at_of r_L_law (by decide +kernel)
theorem i_L_law_569 : m_at k_L_law 569 = some (.iconst 1, 1, 0) := m_at_of r_L_law (by decide +kernel)
theorem i_L_law_570 : m_at k_L_law 570 = some (.iadd, 1, 0) := m_at_of r_L_law (by decide +kernel)
theorem i_L_law_571 : m_at k_L_law 571 = some (.iaload, 1, 0) := m_at_of r_L_law (by decide +kernel)
theorem i_L_law_572 : m_at k_L_law 572 = some (.aload_n 0, 1, 0) := m_at_of r_L_law (by decide +kernel)
theorem i_L_law_573 : m_at k_L_law 573 = some (.iload_n 3, 1, 0) := m_at_of r_L_law (by decide +kernel)
theorem i_L_law_574 : m_at k_L_law 574 = some (.iconst 2, 1, 0) := m_at_of r_L_law (by decide +kernel)
theorem i_L_law_575 : m_at k_L_law 575 = some (.iadd, 1, 0) := m_at_of r_L_law (by decide +kernel)
theorem i_L_law_576 : m_at k_L_law 576 = some (.iaload, 1, 0) := m_at_of r_L_law (by decide +kernel)
theorem i_L_law_577 : m_at k_L_law 577 = some (.invokevirtual 59, 3, 22) := m_at_of r_L_law (by decide +kernel)
theorem i_L_law_580 : m_at k_L_law 580 = some (.aload_n 2, 1, 0) := m_at_of r_L_law (by decide +kernel)
theorem i_L_law_581 : m_at k_L_law 581 = some (.aload_n 0, 1, 0) := m_at_of r_L_law (by decide +kernel)
theorem i_L_law_582 : m_at k_L_law 582 = some (.iload_n 3, 1, 0) := m_at_of r_L_law (by decide +kernel)
theorem i_L_law_583 : m_at k_L_law 583 = some (.iconst 1, 1, 0) := m_at_of r_L_law (by decide +kernel)
theorem i_L_law_584 : m_at k_L_law 584 = some (.iadd, 1, 0) := m_at_of r_L_law (by decide +kernel)
theorem i_L_law_585 : m_at k_L_law 585 = some (.iaload, 1, 0) := m_at_of r_L_law (by decide +kernel)
theorem i_L_law_586 : m_at k_L_law 586 = some (.aload_n 0, 1, 0) := m_at_of r_L_law (by decide +kernel)
theorem i_L_law_587 : m_at k_L_law 587 = some (.iload_n 3, 1, 0) := m_at_of r_L_law (by decide +kernel)
theorem i_L_law_588 : m_at k_L_law 588 = some (.iconst 2, 1, 0) := m_at_of r_L_law (by decide +kernel)
theorem i_L_law_589 : m_at k_L_law 589 = some (.iadd, 1, 0) := m_at_of r_L_law (by decide +kernel)
theorem i_L_law_590 : m_at k_L_law 590 = some (.iaload, 1, 0) := m_at_of r_L_law (by decide +kernel)
theorem i_L_law_591 : m_at k_L_law 591 = some (.invokevirtual 62, 3, 23) := m_at_of r_L_law (by decide +kernel)
theorem i_L_law_594 : m_at k_L_law 594 = some (.if_icmp .eq (1071), 3, 0) := m_at_of r_L_law (by decide +kernel)
theorem i_L_law_597 : m_at k_L_law 597 = some (.iconst 0, 1, 0) := m_at_of r_L_law (by decide +kernel)
theorem i_L_law_598 : m_at k_L_law 598 = some (.ireturn, 1, 0) := m_at_of r_L_law (by decide +kernel)
theorem i_L_law_599 : m_at k_L_law 599 = some (.aload_n 1, 1, 0) := m_at_of r_L_law (by decide +kernel)
theorem i_L_law_600 : m_at k_L_law 600 = some (.aload_n 0, 1, 0) := m_at_of r_L_law (by decide +kernel)
theorem i_L_law_601 : m_at k_L_law 601 = some (.iload_n 3, 1, 0) := m_at_of r_L_law (by decide +kernel)
theorem i_L_law_602 : m_at k_L_law 602 = some (.iconst 1, 1, 0) := m_at_of r_L_law (by decide +kernel)
theorem i_L_law_603 : m_at k_L_law 603 = some (.iadd, 1, 0) := m_at_of r_L_law (by decide +kernel)
theorem i_L_law_604 : m_at k_L_law 604 = some (.iaload, 1, 0) := m_at_of r_L_law (by decide +kernel)
theorem i_L_law_605 : m_at k_L_law 605 = some (.invokevirtual 63, 3, 24) := m_at_of r_L_law (by decide +kernel)
theorem i_L_law_608 : m_at k_L_law 608 = some (.aload_n 2, 1, 0) := m_at_of r_L_law (by decide +kernel)
theorem i_L_law_609 : m_at k_L_law 609 = some (.aload_n 0, 1, 0) := m_at_of r_L_law (by decide +kernel)
theorem i_L_law_610 : m_at k_L_law 610 = some (.iload_n 3, 1, 0) := m_at_of r_L_law (by decide +kernel)
theorem i_L_law_611 : m_at k_L_law 611 = some (.iconst 1, 1, 0) := m_at_of r_L_law (by decide +kernel)
theorem i_L_law_612 : m_at k_L_law 612 = some (.iadd, 1, 0) := m_at_of r_L_law (by decide +kernel)
theorem i_L_law_613 : m_at k_L_law 613 = some (.iaload, 1, 0) := m_at_of r_L_law (by decide +kernel)
theorem i_L_law_614 : m_at k_L_law 614 = some (.invokevirtual 66, 3, 25) := m_at_of r_L_law (by decide +kernel)
theorem i_L_law_617 : m_at k_L_law 617 = some (.if_icmp .eq (1048), 3, 0) := m_at_of r_L_law (by decide +kernel)
theorem i_L_law_620 : m_at k_L_law 620 = some (.iconst 0, 1, 0) := m_at_of r_L_law (by decide +kernel)
theorem i_L_law_621 : m_at k_L_law 621 = some (.ireturn, 1, 0) := m_at_of r_L_law (by decide +kernel)
theorem i_L_law_622 : m_at k_L_law 622 = some (.aload_n 1, 1, 0) := m_at_of r_L_law (by decide +kernel)
theorem i_L_law_623 : m_at k_L_law 623 = some (.aload_n 0, 1, 0) := m_at_of r_L_law (by decide +kernel)
theorem i_L_law_624 : m_at k_L_law 624 = some (.iload_n 3, 1, 0) := m_at_of r_L_law (by decide +kernel)
theorem i_L_law_625 : m_at k_L_law 625 = some (.iconst 1, 1, 0) := m_at_of r_L_law (by decide +kernel)
theorem i_L_law_626 : m_at k_L_law 626 = some (.iadd, 1, 0) := m_at_of r_L_law (by decide +kernel)
theorem i_L_law_627 : m_at k_L_law 627 = some (.iaload, 1, 0) := m_at_of r_L_law (by decide +kernel)
theorem i_L_law_628 : m_at k_L_law 628 = some (.invokevirtual 67, 3, 26) := m_at_of r_L_law (by decide +kernel)
theorem i_L_law_631 : m_at k_L_law 631 = some (.aload_n 2, 1, 0) := m_at_of r_L_law (by decide +kernel)
theorem i_L_law_632 : m_at k_L_law 632 = some (.aload_n 0, 1, 0) := m_at_of r_L_law (by decide +kernel)
theorem i_L_law_633 : m_at k_L_law 633 = some (.iload_n 3, 1, 0) := m_at_of r_L_law (by decide +kernel)
theorem i_L_law_634 : m_at k_L_law 634 = some (.iconst 1, 1, 0) := m_at_of r_L_law (by decide +kernel)
theorem i_L_law_635 : m_at k_L_law 635 = some (.iadd, 1, 0) := m_at_of r_L_law (by decide +kernel)
theorem i_L_law_636 : m_at k_L_law 636 = some (.iaload, 1, 0) := m_at_of r_L_law (by decide +kernel)
theorem i_L_law_637 : m_at k_L_law 637 = some (.invokevirtual 70, 3, 27) := m_at_of r_L_law (by decide +kernel)
theorem i_L_law_640 : m_at k_L_law 640 = some (.if_icmp .eq (1025), 3, 0) := m_at_of r_L_law (by decide +kernel)
theorem i_L_law_643 : m_at k_L_law 643 = some (.iconst 0, 1, 0) := m_at_of r_L_law (by decide +kernel)
theorem i_L_law_644 : m_at k_L_law 644 = some (.ireturn, 1, 0) := m_at_of r_L_law (by decide +kernel)
theorem i_L_law_645 : m_at k_L_law 645 = some (.aload_n 1, 1, 0) := m_at_of r_L_law (by decide +kernel)
theorem i_L_law_646 : m_at k_L_law 646 = some (.aload_n 0, 1, 0) := m_at_of r_L_law (by decide +kernel)
theorem i_L_law_647 : m_at k_L_law 647 = some (.iload_n 3, 1, 0) := m_at_of r_L_law (by decide +kernel)
theorem i_L_law_648 : m_at k_L_law 648 = some (.iconst 1, 1, 0) := m_at_of r_L_law (by decide +kernel)
theorem i_L_law_649 : m_at k_L_law 649 = some (.iadd, 1, 0) := m_at_of r_L_law (by decide +kernel)
theorem i_L_law_650 : m_at k_L_law 650 = some (.iaload, 1, 0) := m_at_of r_L_law (by decide +kernel)
theorem i_L_law_651 : m_at k_L_law 651 = some (.invokevirtual 71, 3, 28) := m_at_of r_L_law (by decide +kernel)
theorem i_L_law_654 : m_at k_L_law 654 = some (.aload_n 2, 1, 0) := m_at_of r_L_law (by decide +kernel)
theorem i_L_law_655 : m_at k_L_law 655 = some (.aload_n 0, 1, 0) := m_at_of r_L_law (by decide +kernel)
theorem i_L_law_656 : m_at k_L_law 656 = some (.iload_n 3, 1, 0) := m_at_of r_L_law (by decide +kernel)
theorem i_L_law_657 : m_at k_L_law 657 = some (.iconst 1, 1, 0) := m_at_of r_L_law (by decide +kernel)
theorem i_L_law_658 : m_at k_L_law 658 = some (.iadd, 1, 0) := m_at_of r_L_law (by decide +kernel)
theorem i_L_law_659 : m_at k_L_law 659 = some (.iaload, 1, 0) := m_at_of r_L_law (by decide +kernel)
theorem i_L_law_660 : m_at k_L_law 660 = some (.invokevirtual 74, 3, 29) := m_at_of r_L_law (by decide +kernel)
theorem i_L_law_663 : m_at k_L_law 663 = some (.if_icmp .eq (1002), 3, 0) := m_at_of r_L_law (by decide +kernel)
theorem i_L_law_666 : m_at k_L_law 666 = some (.iconst 0, 1, 0) := m_at_of r_L_law (by decide +kernel)
theorem i_L_law_667 : m_at k_L_law 667 = some (.ireturn, 1, 0) := m_at_of r_L_law (by decide +kernel)
theorem i_L_law_668 : m_at k_L_law 668 = some (.aload_n 1, 1, 0) := m_at_of r_L_law (by decide +kernel)
theorem i_L_law_669 : m_at k_L_law 669 = some (.aload_n 0, 1, 0) := m_at_of r_L_law (by decide +kernel)
theorem i_L_law_670 : m_at k_L_law 670 = some (.iload_n 3, 1, 0) := m_at_of r_L_law (by decide +kernel)
theorem i_L_law_671 : m_at k_L_law 671 = some (.iconst 1, 1, 0) := m_at_of r_L_law (by decide +kernel)
theorem i_L_law_672 : m_at k_L_law 672 = some (.iadd, 1, 0) := m_at_of r_L_law (by decide +kernel)
theorem i_L_law_673 : m_at k_L_law 673 = some (.iaload, 1, 0) := m_at_of r_L_law (by decide +kernel)
theorem i_L_law_674 : m_at k_L_law 674 = some (.invokevirtual 75, 3, 30) := m_at_of r_L_law (by decide +kernel)
theorem i_L_law_677 : m_at k_L_law 677 = some (.aload_n 2, 1, 0) := m_at_of r_L_law (by decide +kernel)
theorem i_L_law_678 : m_at k_L_law 678 = some (.aload_n 0, 1, 0) := m_at_of r_L_law (by decide +kernel)
theorem i_L_law_679 : m_at k_L_law 679 = some (.iload_n 3, 1, 0) := m_at_of r_L_law (by decide +kernel)
theorem i_L_law_680 : m_at k_L_law 680 = some (.iconst 1, 1, 0) := m_at_of r_L_law (by decide +kernel)
theorem i_L_law_681 : m_at k_L_law 681 = some (.iadd, 1, 0) := m_at_of r_L_law (by decide +kernel)
theorem i_L_law_682 : m_at k_L_law 682 = some (.iaload, 1, 0) := m_at_of r_L_law (by decide +kernel)
theorem i_L_law_683 : m_at k_L_law 683 = some (.invokevirtual 78, 3, 31) := m_at_of r_L_law (by decide +kernel)
theorem i_L_law_686 : m_at k_L_law 686 = some (.if_icmp .eq (979), 3, 0) := m_at_of r_L_law (by decide +kernel)
theorem i_L_law_689 : m_at k_L_law 689 = some (.iconst 0, 1, 0) := m_at_of r_L_law (by decide +kernel)
theorem i_L_law_690 : m_at k_L_law 690 = some (.ireturn, 1, 0) := m_at_of r_L_law (by decide +kernel)
theorem i_L_law_691 : m_at k_L_law 691 = some (.aload_n 1, 1, 0) := m_at_of r_L_law (by decide +kernel)
theorem i_L_law_692 : m_at k_L_law 692 = some (.aload_n 0, 1, 0) := m_at_of r_L_law (by decide +kernel)
theorem i_L_law_693 : m_at k_L_law 693 = some (.iload_n 3, 1, 0) := m_at_of r_L_law (by decide +kernel)
theorem i_L_law_694 : m_at k_L_law 694 = some (.iconst 1, 1, 0) := m_at_of r_L_law (by decide +kernel)
theorem i_L_law_695 : m_at k_L_law 695 = some (.iadd, 1, 0) := m_at_of r_L_law (by decide +kernel)
theorem i_L_law_696 : m_at k_L_law 696 = some (.iaload, 1, 0) := m_at_of r_L_law (by decide +kernel)
theorem i_L_law_697 : m_at k_L_law 697 = some (.aload_n 0, 1, 0) := m_at_of r_L_law (by decide +kernel)
theorem i_L_law_698 : m_at k_L_law 698 = some (.iload_n 3, 1, 0) := m_at_of r_L_law (by decide +kernel)
theorem i_L_law_699 : m_at k_L_law 699 = some (.iconst 2, 1, 0) := m_at_of r_L_law (by decide +kernel)
theorem i_L_law_700 : m_at k_L_law 700 = some (.iadd, 1, 0) := m_at_of r_L_law (by decide +kernel)
theorem i_L_law_701 : m_at k_L_law 701 = some (.iaload, 1, 0) := m_at_of r_L_law (by decide +kernel)
theorem i_L_law_702 : m_at k_L_law 702 = some (.invokevirtual 79, 3, 32) := m_at_of r_L_law (by decide +kernel)
theorem i_L_law_705 : m_at k_L_law 705 = some (.aload_n 2, 1, 0) := m_at_of r_L_law (by decide +kernel)
theorem i_L_law_706 : m_at k_L_law 706 = some (.aload_n 0, 1, 0) := m_at_of r_L_law (by decide +kernel)
theorem i_L_law_707 : m_at k_L_law 707 = some (.iload_n 3, 1, 0) := m_at_of r_L_law (by decide +kernel)
theorem i_L_law_708 : m_at k_L_law 708 = some (.iconst 1, 1, 0) := m_at_of r_L_law (by decide +kernel)
theorem i_L_law_709 : m_at k_L_law 709 = some (.iadd, 1, 0) := m_at_of r_L_law (by decide +kernel)
theorem i_L_law_710 : m_at k_L_law 710 = some (.iaload, 1, 0) := m_at_of r_L_law (by decide +kernel)
theorem i_L_law_711 : m_at k_L_law 711 = some (.aload_n 0, 1, 0) := m_at_of r_L_law (by decide +kernel)
theorem i_L_law_712 : m_at k_L_law 712 = some (.iload_n 3, 1, 0) := m_at_of r_L_law (by decide +kernel)
theorem i_L_law_713 : m_at k_L_law 713 = some (.iconst 2, 1, 0) := m_at_of r_L_law (by decide +kernel)
theorem i_L_law_714 : m_at k_L_law 714 = some (.iadd, 1, 0) := m_at_of r_L_law (by decide +kernel)
theorem i_L_law_715 : m_at k_L_law 715 = some (.iaload, 1, 0) := m_at_of r_L_law (by decide +kernel)
theorem i_L_law_716 : m_at k_L_law 716 = some (.invokevirtual 82, 3, 33) := m_at_of r_L_law (by decide +kernel)
theorem i_L_law_719 : m_at k_L_law 719 = some (.if_icmp .eq (946), 3, 0) := m_at_of r_L_law (by decide +kernel)
theorem i_L_law_722 : m_at k_L_law 722 = some (.iconst 0, 1, 0) := m_at_of r_L_law (by decide +kernel)
theorem i_L_law_723 : m_at k_L_law 723 = some (.ireturn, 1, 0) := m_at_of r_L_law (by decide +kernel)
theorem i_L_law_724 : m_at k_L_law 724 = some (.aload_n 1, 1, 0) := m_at_of r_L_law (by decide +kernel)
theorem i_L_law_725 : m_at k_L_law 725 = some (.invokevirtual 83, 3, 34) := m_at_of r_L_law (by decide +kernel)
theorem i_L_law_728 : m_at k_L_law 728 = some (.aload_n 2, 1, 0) := m_at_of r_L_law (by decide +kernel)
theorem i_L_law_729 : m_at k_L_law 729 = some (.invokevirtual 86, 3, 35) := m_at_of r_L_law (by decide +kernel)
theorem i_L_law_732 : m_at k_L_law 732 = some (.if_icmp .eq (933), 3, 0) := m_at_of r_L_law (by decide +kernel)
theorem i_L_law_735 : m_at k_L_law 735 = some (.iconst 0, 1, 0) := m_at_of r_L_law (by decide +kernel)
theorem i_L_law_736 : m_at k_L_law 736 = some (.ireturn, 1, 0) := m_at_of r_L_law (by decide +kernel)
theorem i_L_law_737 : m_at k_L_law 737 = some (.aload_n 1, 1, 0) := m_at_of r_L_law (by decide +kernel)
theorem i_L_law_738 : m_at k_L_law 738 = some (.aload_n 0, 1, 0) := m_at_of r_L_law (by decide +kernel)
theorem i_L_law_739 : m_at k_L_law 739 = some (.iload_n 3, 1, 0) := m_at_of r_L_law (by decide +kernel)
theorem i_L_law_740 : m_at k_L_law 740 = some (.iconst 1, 1, 0) := m_at_of r_L_law (by decide +kernel)
theorem i_L_law_741 : m_at k_L_law 741 = some (.iadd, 1, 0) := m_at_of r_L_law (by decide +kernel)
theorem i_L_law_742 : m_at k_L_law 742 = some (.iaload, 1, 0) := m_at_of r_L_law (by decide +kernel)
theorem i_L_law_743 : m_at k_L_law 743 = some (.aload_n 0, 1, 0) := m_at_of r_L_law (by decide +kernel)
theorem i_L_law_744 : m_at k_L_law 744 = some (.iload_n 3, 1, 0) := m_at_of r_L_law (by decide +kernel)
theorem i_L_law_745 : m_at k_L_law 745 = some (.iconst 2, 1, 0) := m_at_of r_L_law (by decide +kernel)
theorem i_L_law_746 : m_at k_L_law 746 = some (.iadd, 1, 0) := m_at_of r_L_law (by decide +kernel)
theorem i_L_law_747 : m_at k_L_law 747 = some (.iaload, 1, 0) := m_at_of r_L_law (by decide +kernel)
theorem i_L_law_748 : m_at k_L_law 748 = some (.invokevirtual 87, 3, 36) := m_at_of r_L_law (by decide +kernel)
theorem i_L_law_751 : m_at k_L_law 751 = some (.aload_n 2, 1, 0) := m_at_of r_L_law (by decide +kernel)
theorem i_L_law_752 : m_at k_L_law 752 = some (.aload_n 0, 1, 0) := m_at_of r_L_law (by decide +kernel)
theorem i_L_law_753 : m_at k_L_law 753 = some (.iload_n 3, 1, 0) := m_at_of r_L_law (by decide +kernel)
theorem i_L_law_754 : m_at k_L_law 754 = some (.iconst 1, 1, 0) := m_at_of r_L_law (by decide +kernel)
theorem i_L_law_755 : m_at k_L_law 755 = some (.iadd, 1, 0) := m_at_of r_L_law (by decide +kernel)
theorem i_L_law_756 : m_at k_L_law 756 = some (.iaload, 1, 0) := m_at_of r_L_law (by decide +kernel)
theorem i_L_law_757 : m_at k_L_law 757 = some (.aload_n 0, 1, 0) := m_at_of r_L_law (by decide +kernel)
theorem i_L_law_758 : m_at k_L_law 758 = some (.iload_n 3, 1, 0) := m_at_of r_L_law (by decide +kernel)
theorem i_L_law_759 : m_at k_L_law 759 = some (.iconst 2, 1, 0) := m_at_of r_L_law (by decide +kernel)
theorem i_L_law_760 : m_at k_L_law 760 = some (.iadd, 1, 0) := m_at_of r_L_law (by decide +kernel)
theorem i_L_law_761 : m_at k_L_law 761 = some (.iaload, 1, 0) := m_at_of r_L_law (by decide +kernel)
theorem i_L_law_762 : m_at k_L_law 762 = some (.invokevirtual 90, 3, 37) := m_at_of r_L_law (by decide +kernel)
theorem i_L_law_765 : m_at k_L_law 765 = some (.if_icmp .eq (900), 3, 0) := m_at_of r_L_law (by decide +kernel)
theorem i_L_law_768 : m_at k_L_law 768 = some (.iconst 0, 1, 0) := m_at_of r_L_law (by decide +kernel)
theorem i_L_law_769 : m_at k_L_law 769 = some (.ireturn, 1, 0) := m_at_of r_L_law (by decide +kernel)
theorem i_L_law_770 : m_at k_L_law 770 = some (.aload_n 1, 1, 0) := m_at_of r_L_law (by decide +kernel)
theorem i_L_law_771 : m_at k_L_law 771 = some (.aload_n 0, 1, 0) := m_at_of r_L_law (by decide +kernel)
theorem i_L_law_772 : m_at k_L_law 772 = some (.iload_n 3, 1, 0) := m_at_of r_L_law (by decide +kernel)
theorem i_L_law_773 : m_at k_L_law 773 = some (.iconst 1, 1, 0) := m_at_of r_L_law (by decide +kernel)
theorem i_L_law_774 : m_at k_L_law 774 = some (.iadd, 1, 0) := m_at_of r_L_law (by decide +kernel)
theorem i_L_law_775 : m_at k_L_law 775 = some (.iaload, 1, 0) := m_at_of r_L_law (by decide +kernel)
theorem i_L_law_776 : m_at k_L_law 776 = some (.aload_n 0, 1, 0) := m_at_of r_L_law (by decide +kernel)
theorem i_L_law_777 : m_at k_L_law 777 = some (.iload_n 3, 1, 0) := m_at_of r_L_law (by decide +kernel)
theorem i_L_law_778 : m_at k_L_law 778 = some (.iconst 2, 1, 0) := m_at_of r_L_law (by decide +kernel)
theorem i_L_law_779 : m_at k_L_law 779 = some (.iadd, 1, 0) := m_at_of r_L_law (by decide +kernel)
theorem i_L_law_780 : m_at k_L_law 780 = some (.iaload, 1, 0) := m_at_of r_L_law (by decide +kernel)
theorem i_L_law_781 : m_at k_L_law 781 = some (.invokevirtual 91, 3, 38) := m_at_of r_L_law (by decide +kernel)
theorem i_L_law_784 : m_at k_L_law 784 = some (.aload_n 2, 1, 0) := m_at_of r_L_law (by decide +kernel)
theorem i_L_law_785 : m_at k_L_law 785 = some (.aload_n 0, 1, 0) := m_at_of r_L_law (by decide +kernel)
theorem i_L_law_786 : m_at k_L_law 786 = some (.iload_n 3, 1, 0) := m_at_of r_L_law (by decide +kernel)
theorem i_L_law_787 : m_at k_L_law 787 = some (.iconst 1, 1, 0) := m_at_of r_L_law (by decide +kernel)
theorem i_L_law_788 : m_at k_L_law 788 = some (.iadd, 1, 0) := m_at_of r_L_law (by decide +kernel)
theorem i_L_law_789 : m_at k_L_law 789 = some (.iaload, 1, 0) := m_at_of r_L_law (by decide +kernel)
theorem i_L_law_790 : m_at k_L_law 790 = some (.aload_n 0, 1, 0) := m_at_of r_L_law (by decide +kernel)
theorem i_L_law_791 : m_at k_L_law 791 = some (.iload_n 3, 1, 0) := m_at_of r_L_law (by decide +kernel)
theorem i_L_law_792 : m_at k_L_law 792 = some (.iconst 2, 1, 0) := m_at_of r_L_law (by decide +kernel)
theorem i_L_law_793 : m_at k_L_law 793 = some (.iadd, 1, 0) := m_at_of r_L_law (by decide +kernel)
theorem i_L_law_794 : m_at k_L_law 794 = some (.iaload, 1, 0) := m_at_of r_L_law (by decide +kernel)
theorem i_L_law_795 : m_at k_L_law 795 = some (.invokevirtual 94, 3, 39) := m_at_of r_L_law (by decide +kernel)
theorem i_L_law_798 : m_at k_L_law 798 = some (.if_icmp .eq (867), 3, 0) := m_at_of r_L_law (by decide +kernel)
theorem i_L_law_801 : m_at k_L_law 801 = some (.iconst 0, 1, 0) := m_at_of r_L_law (by decide +kernel)
theorem i_L_law_802 : m_at k_L_law 802 = some (.ireturn, 1, 0) := m_at_of r_L_law (by decide +kernel)
theorem i_L_law_803 : m_at k_L_law 803 = some (.aload_n 1, 1, 0) := m_at_of r_L_law (by decide +kernel)
theorem i_L_law_804 : m_at k_L_law 804 = some (.aload_n 0, 1, 0) := m_at_of r_L_law (by decide +kernel)
theorem i_L_law_805 : m_at k_L_law 805 = some (.iload_n 3, 1, 0) := m_at_of r_L_law (by decide +kernel)
theorem i_L_law_806 : m_at k_L_law 806 = some (.iconst 1, 1, 0) := m_at_of r_L_law (by decide +kernel)
theorem i_L_law_807 : m_at k_L_law 807 = some (.iadd, 1, 0) := m_at_of r_L_law (by decide +kernel)
theorem i_L_law_808 : m_at k_L_law 808 = some (.iaload, 1, 0) := m_at_of r_L_law (by decide +kernel)
theorem i_L_law_809 : m_at k_L_law 809 = some (.invokevirtual 95, 3, 40) := m_at_of r_L_law (by decide +kernel)
theorem i_L_law_812 : m_at k_L_law 812 = some (.aload_n 2, 1, 0) := m_at_of r_L_law (by decide +kernel)
theorem i_L_law_813 : m_at k_L_law 813 = some (.aload_n 0, 1, 0) := m_at_of r_L_law (by decide +kernel)
theorem i_L_law_814 : m_at k_L_law 814 = some (.iload_n 3, 1, 0) := m_at_of r_L_law (by decide +kernel)
theorem i_L_law_815 : m_at k_L_law 815 = some (.iconst 1, 1, 0) := m_at_of r_L_law (by decide +kernel)
theorem i_L_law_816 : m_at k_L_law 816 = some (.iadd, 1, 0) := m_at_of r_L_law (by decide +kernel)
theorem i_L_law_817 : m_at k_L_law 817 = some (.iaload, 1, 0) := m_at_of r_L_law (by decide +kernel)
theorem i_L_law_818 : m_at k_L_law 818 = some (.invokevirtual 98, 3, 41) := m_at_of r_L_law (by decide +kernel)
theorem i_L_law_821 : m_at k_L_law 821 = some (.if_icmp .eq (844), 3, 0) := m_at_of r_L_law (by decide +kernel)
theorem i_L_law_824 : m_at k_L_law 824 = some (.iconst 0, 1, 0) := m_at_of r_L_law (by decide +kernel)
theorem i_L_law_825 : m_at k_L_law 825 = some (.ireturn, 1, 0) := m_at_of r_L_law (by decide +kernel)
theorem i_L_law_826 : m_at k_L_law 826 = some (.aload_n 1, 1, 0) := m_at_of r_L_law (by decide +kernel)
theorem i_L_law_827 : m_at k_L_law 827 = some (.aload_n 0, 1, 0) := m_at_of r_L_law (by decide +kernel)
theorem i_L_law_828 : m_at k_L_law 828 = some (.iload_n 3, 1, 0) := m_at_of r_L_law (by decide +kernel)
theorem i_L_law_829 : m_at k_L_law 829 = some (.iconst 1, 1, 0) := m_at_of r_L_law (by decide +kernel)
theorem i_L_law_830 : m_at k_L_law 830 = some (.iadd, 1, 0) := m_at_of r_L_law (by decide +kernel)
theorem i_L_law_831 : m_at k_L_law 831 = some (.iaload, 1, 0) := m_at_of r_L_law (by decide +kernel)
theorem i_L_law_832 : m_at k_L_law 832 = some (.aload_n 0, 1, 0) := m_at_of r_L_law (by decide +kernel)
theorem i_L_law_833 : m_at k_L_law 833 = some (.iload_n 3, 1, 0) := m_at_of r_L_law (by decide +kernel)
theorem i_L_law_834 : m_at k_L_law 834 = some (.iconst 2, 1, 0) := m_at_of r_L_law (by decide +kernel)
theorem i_L_law_835 : m_at k_L_law 835 = some (.iadd, 1, 0) := m_at_of r_L_law (by decide +kernel)
theorem i_L_law_836 : m_at k_L_law 836 = some (.iaload, 1, 0) := m_at_of r_L_law (by decide +kernel)
theorem i_L_law_837 : m_at k_L_law 837 = some (.invokevirtual 99, 3, 42) := m_at_of r_L_law (by decide +kernel)
theorem i_L_law_840 : m_at k_L_law 840 = some (.aload_n 2, 1, 0) := m_at_of r_L_law (by decide +kernel)
theorem i_L_law_841 : m_at k_L_law 841 = some (.aload_n 0, 1, 0) := m_at_of r_L_law (by decide +kernel)
theorem i_L_law_842 : m_at k_L_law 842 = some (.iload_n 3, 1, 0) := m_at_of r_L_law (by decide +kernel)
theorem i_L_law_843 : m_at k_L_law 843 = some (.iconst 1, 1, 0) := m_at_of r_L_law (by decide +kernel)
theorem i_L_law_844 : m_at k_L_law 844 = some (.iadd, 1, 0) := m_at_of r_L_law (by decide +kernel)
theorem i_L_law_845 : m_at k_L_law 845 = some (.iaload, 1, 0) := m_at_of r_L_law (by decide +kernel)
theorem i_L_law_846 : m_at k_L_law 846 = some (.aload_n 0, 1, 0) := m_at_of r_L_law (by decide +kernel)
theorem i_L_law_847 : m_at k_L_law 847 = some (.iload_n 3, 1, 0) := m_at_of r_L_law (by decide +kernel)
theorem i_L_law_848 : m_at k_L_law 848 = some (.iconst 2, 1, 0) := m_at_of r_L_law (by decide +kernel)
theorem i_L_law_849 : m_at k_L_law 849 = some (.iadd, 1, 0) := m_at_of r_L_law (by decide +kernel)
theorem i_L_law_850 : m_at k_L_law 850 = some (.iaload, 1, 0) := m_at_of r_L_law (by decide +kernel)
theorem i_L_law_851 : m_at k_L_law 851 = some (.invokevirtual 102, 3, 43) := m_at_of r_L_law (by decide +kernel)
theorem i_L_law_854 : m_at k_L_law 854 = some (.if_icmp .eq (811), 3, 0) := m_at_of r_L_law (by decide +kernel)
theorem i_L_law_857 : m_at k_L_law 857 = some (.iconst 0, 1, 0) := m_at_of r_L_law (by decide +kernel)
theorem i_L_law_858 : m_at k_L_law 858 = some (.ireturn, 1, 0) := m_at_of r_L_law (by decide +kernel)
theorem i_L_law_859 : m_at k_L_law 859 = some (.aload_n 1, 1, 0) := m_at_of r_L_law (by decide +kernel)
theorem i_L_law_860 : m_at k_L_law 860 = some (.aload_n 0, 1, 0) := m_at_of r_L_law (by decide +kernel)
theorem i_L_law_861 : m_at k_L_law 861 = some (.iload_n 3, 1, 0) := m_at_of r_L_law (by decide +kernel)
theorem i_L_law_862 : m_at k_L_law 862 = some (.iconst 1, 1, 0) := m_at_of r_L_law (by decide +kernel)
theorem i_L_law_863 : m_at k_L_law 863 = some (.iadd, 1, 0) := m_at_of r_L_law (by decide +kernel)
theorem i_L_law_864 : m_at k_L_law 864 = some (.iaload, 1, 0) := m_at_of r_L_law (by decide +kernel)
theorem i_L_law_865 : m_at k_L_law 865 = some (.aload_n 0, 1, 0) := m_at_of r_L_law (by decide +kernel)
theorem i_L_law_866 : m_at k_L_law 866 = some (.iload_n 3, 1, 0) := m_at_of r_L_law (by decide +kernel)
theorem i_L_law_867 : m_at k_L_law 867 = some (.iconst 2, 1, 0) := m_at_of r_L_law (by decide +kernel)
theorem i_L_law_868 : m_at k_L_law 868 = some (.iadd, 1, 0) := m_at_of r_L_law (by decide +kernel)
theorem i_L_law_869 : m_at k_L_law 869 = some (.iaload, 1, 0) := m_at_of r_L_law (by decide +kernel)
theorem i_L_law_870 : m_at k_L_law 870 = some (.aload_n 0, 1, 0) := m_at_of r_L_law (by decide +kernel)
theorem i_L_law_871 : m_at k_L_law 871 = some (.iload_n 3, 1, 0) := m_at_of r_L_law (by decide +kernel)
theorem i_L_law_872 : m_at k_L_law 872 = some (.iconst 3, 1, 0) := m_at_of r_L_law (by decide +kernel)
theorem i_L_law_873 : m_at k_L_law 873 = some (.iadd, 1, 0) := m_at_of r_L_law (by decide +kernel)
theorem i_L_law_874 : m_at k_L_law 874 = some (.iaload, 1, 0) := m_at_of r_L_law (by decide +kernel)
theorem i_L_law_875 : m_at k_L_law 875 = some (.invokevirtual 103, 3, 44) := m_at_of r_L_law (by decide +kernel)
theorem i_L_law_878 : m_at k_L_law 878 = some (.aload_n 2, 1, 0) := m_at_of r_L_law (by decide +kernel)
theorem i_L_law_879 : m_at k_L_law 879 = some (.aload_n 0, 1, 0) := m_at_of r_L_law (by decide +kernel)
theorem i_L_law_880 : m_at k_L_law 880 = some (.iload_n 3, 1, 0) := m_at_of r_L_law (by decide +kernel)
theorem i_L_law_881 : m_at k_L_law 881 = some (.iconst 1, 1, 0) := m_at_of r_L_law (by decide +kernel)
theorem i_L_law_882 : m_at k_L_law 882 = some (.iadd, 1, 0) := m_at_of r_L_law (by decide +kernel)
theorem i_L_law_883 : m_at k_L_law 883 = some (.iaload, 1, 0) := m_at_of r_L_law (by decide +kernel)
theorem i_L_law_884 : m_at k_L_law 884 = some (.aload_n 0, 1, 0) := m_at_of r_L_law (by decide +kernel)
theorem i_L_law_885 : m_at k_L_law 885 = some (.iload_n 3, 1, 0) := m_at_of r_L_law (by decide +kernel)
theorem i_L_law_886 : m_at k_L_law 886 = some (.iconst 2, 1, 0) := m_at_of r_L_law (by decide +kernel)
theorem i_L_law_887 : m_at k_L_law 887 = some (.iadd, 1, 0) := m_at_of r_L_law (by decide +kernel)
theorem i_L_law_888 : m_at k_L_law 888 = some (.iaload, 1, 0) := m_at_of r_L_law (by decide +kernel)
theorem i_L_law_889 : m_at k_L_law 889 = some (.aload_n 0, 1, 0) := m_at_of r_L_law (by decide +kernel)
theorem i_L_law_890 : m_at k_L_law 890 = some (.iload_n 3, 1, 0) := m_at_of r_L_law (by decide +kernel)
theorem i_L_law_891 : m_at k_L_law 891 = some (.iconst 3, 1, 0) := m_at_of r_L_law (by decide +kernel)
theorem i_L_law_892 : m_at k_L_law 892 = some (.iadd, 1, 0) := m_at_of r_L_law (by decide +kernel)
theorem i_L_law_893 : m_at k_L_law 893 = some (.iaload, 1, 0) := m_at_of r_L_law (by decide +kernel)
theorem i_L_law_894 : m_at k_L_law 894 = some (.invokevirtual 107, 3, 45) := m_at_of r_L_law (by decide +kernel)
theorem i_L_law_897 : m_at k_L_law 897 = some (.if_icmp .eq (768), 3, 0) := m_at_of r_L_law (by decide +kernel)
theorem i_L_law_900 : m_at k_L_law 900 = some (.iconst 0, 1, 0) := m_at_of r_L_law (by decide +kernel)
theorem i_L_law_901 : m_at k_L_law 901 = some (.ireturn, 1, 0) := m_at_of r_L_law (by decide +kernel)
theorem i_L_law_902 : m_at k_L_law 902 = some (.aload_n 1, 1, 0) := m_at_of r_L_law (by decide +kernel)
theorem i_L_law_903 : m_at k_L_law 903 = some (.aload_n 0, 1, 0) := m_at_of r_L_law (by decide +kernel)
theorem i_L_law_904 : m_at k_L_law 904 = some (.iload_n 3, 1, 0) := m_at_of r_L_law (by decide +kernel)
theorem i_L_law_905 : m_at k_L_law 905 = some (.iconst 1, 1, 0) := m_at_of r_L_law (by decide +kernel)
theorem i_L_law_906 : m_at k_L_law 906 = some (.iadd, 1, 0) := m_at_of r_L_law (by decide +kernel)
theorem i_L_law_907 : m_at k_L_law 907 = some (.iaload, 1, 0) := m_at_of r_L_law (by decide +kernel)
theorem i_L_law_908 : m_at k_L_law 908 = some (.invokevirtual 108, 3, 46) := m_at_of r_L_law (by decide +kernel)
theorem i_L_law_911 : m_at k_L_law 911 = some (.aload_n 2, 1, 0) := m_at_of r_L_law (by decide +kernel)
theorem i_L_law_912 : m_at k_L_law 912 = some (.aload_n 0, 1, 0) := m_at_of r_L_law (by decide +kernel)
theorem i_L_law_913 : m_at k_L_law 913 = some (.iload_n 3, 1, 0) := m_at_of r_L_law (by decide +kernel)
theorem i_L_law_914 : m_at k_L_law 914 = some (.iconst 1, 1, 0) := m_at_of r_L_law (by decide +kernel)
theorem i_L_law_915 : m_at k_L_law 915 = some (.iadd, 1, 0) := m_at_of r_L_law (by decide +kernel)
theorem i_L_law_916 : m_at k_L_law 916 = some (.iaload, 1, 0) := m_at_of r_L_law (by decide +kernel)
theorem i_L_law_917 : m_at k_L_law 917 = some (.invokevirtual 111, 3, 47) := m_at_of r_L_law (by decide +kernel)
theorem i_L_law_920 : m_at k_L_law 920 = some (.if_icmp .eq (745), 3, 0) := m_at_of r_L_law (by decide +kernel)
theorem i_L_law_923 : m_at k_L_law 923 = some (.iconst 0, 1, 0) := m_at_of r_L_law (by decide +kernel)
theorem i_L_law_924 : m_at k_L_law 924 = some (.ireturn, 1, 0) := m_at_of r_L_law (by decide +kernel)
theorem i_L_law_925 : m_at k_L_law 925 = some (.aload_n 1, 1, 0) := m_at_of r_L_law (by decide +kernel)
theorem i_L_law_926 : m_at k_L_law 926 = some (.invokevirtual 112, 3, 48) := m_at_of r_L_law (by decide +kernel)
theorem i_L_law_929 : m_at k_L_law 929 = some (.aload_n 2, 1, 0) := m_at_of r_L_law (by decide +kernel)
theorem i_L_law_930 : m_at k_L_law 930 = some (.invokevirtual 115, 3, 49) := m_at_of r_L_law (by decide +kernel)
theorem i_L_law_933 : m_at k_L_law 933 = some (.if_icmp .eq (732), 3, 0) := m_at_of r_L_law (by decide +kernel)
theorem i_L_law_936 : m_at k_L_law 936 = some (.iconst 0, 1, 0) := m_at_of r_L_law (by decide +kernel)
theorem i_L_law_937 : m_at k_L_law 937 = some (.ireturn, 1, 0) := m_at_of r_L_law (by decide +kernel)
theorem i_L_law_938 : m_at k_L_law 938 = some (.aload_n 1, 1, 0) := m_at_of r_L_law (by decide +kernel)
theorem i_L_law_939 : m_at k_L_law 939 = some (.aload_n 0, 1, 0) := m_at_of r_L_law (by decide +kernel)
theorem i_L_law_940 : m_at k_L_law 940 = some (.iload_n 3, 1, 0) := m_at_of r_L_law (by decide +kernel)
theorem i_L_law_941 : m_at k_L_law 941 = some (.iconst 1, 1, 0) := m_at_of r_L_law (by decide +kernel)
theorem i_L_law_942 : m_at k_L_law 942 = some (.iadd, 1, 0) := m_at_of r_L_law (by decide +kernel)
theorem i_L_law_943 : m_at k_L_law 943 = some (.iaload, 1, 0) := m_at_of r_L_law (by decide +kernel)
theorem i_L_law_944 : m_at k_L_law 944 = some (.aload_n 0, 1, 0) := m_at_of r_L_law (by decide +kernel)
theorem i_L_law_945 : m_at k_L_law 945 = some (.iload_n 3, 1, 0) := m_at_of r_L_law (by decide +kernel)
theorem i_L_law_946 : m_at k_L_law 946 = some (.iconst 2, 1, 0) := m_at_of r_L_law (by decide +kernel)
theorem i_L_law_947 : m_at k_L_law 947 = some (.iadd, 1, 0) := m_at_of r_L_law (by decide +kernel)
theorem i_L_law_948 : m_at k_L_law 948 = some (.iaload, 1, 0) := m_at_of r_L_law (by decide +kernel)
theorem i_L_law_949 : m_at k_L_law 949 = some (.invokevirtual 116, 3, 50) := m_at_of r_L_law (by decide +kernel)
theorem i_L_law_952 : m_at k_L_law 952 = some (.aload_n 2, 1, 0) := m_at_of r_L_law (by decide +kernel)
theorem i_L_law_953 : m_at k_L_law 953 = some (.aload_n 0, 1, 0) := m_at_of r_L_law (by decide +kernel)
theorem i_L_law_954 : m_at k_L_law 954 = some (.iload_n 3, 1, 0) := m_at_of r_L_law (by decide +kernel)
theorem i_L_law_955 : m_at k_L_law 955 = some (.iconst 1, 1, 0) := m_at_of r_L_law (by decide +kernel)
theorem i_L_law_956 : m_at k_L_law 956 = some (.iadd, 1, 0) := m_at_of r_L_law (by decide +kernel)
theorem i_L_law_957 : m_at k_L_law 957 = some (.iaload, 1, 0) := m_at_of r_L_law (by decide +kernel)
theorem i_L_law_958 : m_at k_L_law 958 = some (.aload_n 0, 1, 0) := m_at_of r_L_law (by decide +kernel)
theorem i_L_law_959 : m_at k_L_law 959 = some (.iload_n 3, 1, 0) := m_at_of r_L_law (by decide +kernel)
theorem i_L_law_960 : m_at k_L_law 960 = some (.iconst 2, 1, 0) := m_at_of r_L_law (by decide +kernel)
theorem i_L_law_961 : m_at k_L_law 961 = some (.iadd, 1, 0) := m_at_of r_L_law (by decide +kernel)
theorem i_L_law_962 : m_at k_L_law 962 = some (.iaload, 1, 0) := m_at_of r_L_law (by decide +kernel)
theorem i_L_law_963 : m_at k_L_law 963 = some (.invokevirtual 119, 3, 51) := m_at_of r_L_law (by decide +kernel)
theorem i_L_law_966 : m_at k_L_law 966 = some (.if_icmp .eq (699), 3, 0) := m_at_of r_L_law (by decide +kernel)
theorem i_L_law_969 : m_at k_L_law 969 = some (.iconst 0, 1, 0) := m_at_of r_L_law (by decide +kernel)
theorem i_L_law_970 : m_at k_L_law 970 = some (.ireturn, 1, 0) := m_at_of r_L_law (by decide +kernel)
theorem i_L_law_971 : m_at k_L_law 971 = some (.aload_n 1, 1, 0) := m_at_of r_L_law (by decide +kernel)
theorem i_L_law_972 : m_at k_L_law 972 = some (.aload_n 0, 1, 0) := m_at_of r_L_law (by decide +kernel)
theorem i_L_law_973 : m_at k_L_law 973 = some (.iload_n 3, 1, 0) := m_at_of r_L_law (by decide +kernel)
theorem i_L_law_974 : m_at k_L_law 974 = some (.iconst 1, 1, 0) := m_at_of r_L_law (by decide +kernel)
theorem i_L_law_975 : m_at k_L_law 975 = some (.iadd, 1, 0) := m_at_of r_L_law (by decide +kernel)
theorem i_L_law_976 : m_at k_L_law 976 = some (.iaload, 1, 0) := m_at_of r_L_law (by decide +kernel)
theorem i_L_law_977 : m_at k_L_law 977 = some (.aload_n 0, 1, 0) := m_at_of r_L_law (by decide +kernel)
theorem i_L_law_978 : m_at k_L_law 978 = some (.iload_n 3, 1, 0) := m_at_of r_L_law (by decide +kernel)
theorem i_L_law_979 : m_at k_L_law 979 = some (.iconst 2, 1, 0) := m_at_of r_L_law (by decide +kernel)
theorem i_L_law_980 : m_at k_L_law 980 = some (.iadd, 1, 0) := m_at_of r_L_law (by decide +kernel)
theorem i_L_law_981 : m_at k_L_law 981 = some (.iaload, 1, 0) := m_at_of r_L_law (by decide +kernel)
theorem i_L_law_982 : m_at k_L_law 982 = some (.invokevirtual 120, 3, 52) := m_at_of r_L_law (by decide +kernel)
theorem i_L_law_985 : m_at k_L_law 985 = some (.aload_n 2, 1, 0) := m_at_of r_L_law (by decide +kernel)
theorem i_L_law_986 : m_at k_L_law 986 = some (.aload_n 0, 1, 0) := m_at_of r_L_law (by decide +kernel)
theorem i_L_law_987 : m_at k_L_law 987 = some (.iload_n 3, 1, 0) := m_at_of r_L_law (by decide +kernel)
theorem i_L_law_988 : m_at k_L_law 988 = some (.iconst 1, 1, 0) := m_at_of r_L_law (by decide +kernel)
theorem i_L_law_989 : m_at k_L_law 989 = some (.iadd, 1, 0) := m_at_of r_L_law (by decide +kernel)
theorem i_L_law_990 : m_at k_L_law 990 = some (.iaload, 1, 0) := m_at_of r_L_law (by decide +kernel)
theorem i_L_law_991 : m_at k_L_law 991 = some (.aload_n 0, 1, 0) := m_at_of r_L_law (by decide +kernel)
theorem i_L_law_992 : m_at k_L_law 992 = some (.iload_n 3, 1, 0) := m_at_of r_L_law (by decide +kernel)
theorem i_L_law_993 : m_at k_L_law 993 = some (.iconst 2, 1, 0) := m_at_of r_L_law (by decide +kernel)
theorem i_L_law_994 : m_at k_L_law 994 = some (.iadd, 1, 0) := m_at_of r_L_law (by decide +kernel)
theorem i_L_law_995 : m_at k_L_law 995 = some (.iaload, 1, 0) := m_at_of r_L_law (by decide +kernel)
theorem i_L_law_996 : m_at k_L_law 996 = some (.invokevirtual 123, 3, 53) := m_at_of r_L_law (by decide +kernel)
theorem i_L_law_999 : m_at k_L_law 999 = some (.if_icmp .eq (666), 3, 0) := m_at_of r_L_law (by decide +kernel)
theorem i_L_law_1002 : m_at k_L_law 1002 = some (.iconst 0, 1, 0) := m_at_of r_L_law (by decide +kernel)
theorem i_L_law_1003 : m_at k_L_law 1003 = some (.ireturn, 1, 0) := m_at_of r_L_law (by decide +kernel)
theorem i_L_law_1004 : m_at k_L_law 1004 = some (.aload_n 1, 1, 0) := m_at_of r_L_law (by decide +kernel)
theorem i_L_law_1005 : m_at k_L_law 1005 = some (.aload_n 0, 1, 0) := m_at_of r_L_law (by decide +kernel)
theorem i_L_law_1006 : m_at k_L_law 1006 = some (.iload_n 3, 1, 0) := m_at_of r_L_law (by decide +kernel)
theorem i_L_law_1007 : m_at k_L_law 1007 = some (.iconst 1, 1, 0) := m_at_of r_L_law (by decide +kernel)
theorem i_L_law_1008 : m_at k_L_law 1008 = some (.iadd, 1, 0) := m_at_of r_L_law (by decide +kernel)
theorem i_L_law_1009 : m_at k_L_law 1009 = some (.iaload, 1, 0) := m_at_of r_L_law (by decide +kernel)
theorem i_L_law_1010 : m_at k_L_law 1010 = some (.aload_n 0, 1, 0) := m_at_of r_L_law (by decide +kernel)
theorem i_L_law_1011 : m_at k_L_law 1011 = some (.iload_n 3, 1, 0) := m_at_of r_L_law (by decide +kernel)
theorem i_L_law_1012 : m_at k_L_law 1012 = some (.iconst 2, 1, 0) := m_at_of r_L_law (by decide +kernel)
theorem i_L_law_1013 : m_at k_L_law 1013 = some (.iadd, 1, 0) := m_at_of r_L_law (by decide +kernel)
theorem i_L_law_1014 : m_at k_L_law 1014 = some (.iaload, 1, 0) := m_at_of r_L_law (by decide +kernel)
theorem i_L_law_1015 : m_at k_L_law 1015 = some (.invokevirtual 124, 3, 54) := m_at_of r_L_law (by decide +kernel)
theorem i_L_law_1018 : m_at k_L_law 1018 = some (.aload_n 2, 1, 0) := m_at_of r_L_law (by decide +kernel)
theorem i_L_law_1019 : m_at k_L_law 1019 = some (.aload_n 0, 1, 0) := m_at_of r_L_law (by decide +kernel)
theorem i_L_law_1020 : m_at k_L_law 1020 = some (.iload_n 3, 1, 0) := m_at_of r_L_law (by decide +kernel)
theorem i_L_law_1021 : m_at k_L_law 1021 = some (.iconst 1, 1, 0) := m_at_of r_L_law (by decide +kernel)
theorem i_L_law_1022 : m_at k_L_law 1022 = some (.iadd, 1, 0) := m_at_of r_L_law (by decide +kernel)
theorem i_L_law_1023 : m_at k_L_law 1023 = some (.iaload, 1, 0) := m_at_of r_L_law (by decide +kernel)
theorem i_L_law_1024 : m_at k_L_law 1024 = some (.aload_n 0, 1, 0) := m_at_of r_L_law (by decide +kernel)
theorem i_L_law_1025 : m_at k_L_law 1025 = some (.iload_n 3, 1, 0) := m_at_of r_L_law (by decide +kernel)
theorem i_L_law_1026 : m_at k_L_law 1026 = some (.iconst 2, 1, 0) := m_at_of r_L_law (by decide +kernel)
theorem i_L_law_1027 : m_at k_L_law 1027 = some (.iadd, 1, 0) := m_at_of r_L_law (by decide +kernel)
theorem i_L_law_1028 : m_at k_L_law 1028 = some (.iaload, 1, 0) := m_at_of r_L_law (by decide +kernel)
theorem i_L_law_1029 : m_at k_L_law 1029 = some (.invokevirtual 127, 3, 55) := m_at_of r_L_law (by decide +kernel)
theorem i_L_law_1032 : m_at k_L_law 1032 = some (.if_icmp .eq (633), 3, 0) := m_at_of r_L_law (by decide +kernel)
theorem i_L_law_1035 : m_at k_L_law 1035 = some (.iconst 0, 1, 0) := m_at_of r_L_law (by decide +kernel)
theorem i_L_law_1036 : m_at k_L_law 1036 = some (.ireturn, 1, 0) := m_at_of r_L_law (by decide +kernel)
theorem i_L_law_1037 : m_at k_L_law 1037 = some (.aload_n 1, 1, 0) := m_at_of r_L_law (by decide +kernel)
theorem i_L_law_1038 : m_at k_L_law 1038 = some (.aload_n 0, 1, 0) := m_at_of r_L_law (by decide +kernel)
theorem i_L_law_1039 : m_at k_L_law 1039 = some (.iload_n 3, 1, 0) := m_at_of r_L_law (by decide +kernel)
theorem i_L_law_1040 : m_at k_L_law 1040 = some (.iconst 1, 1, 0) := m_at_of r_L_law (by decide +kernel)
theorem i_L_law_1041 : m_at k_L_law 1041 = some (.iadd, 1, 0) := m_at_of r_L_law (by decide +kernel)
theorem i_L_law_1042 : m_at k_L_law 1042 = some (.iaload, 1, 0) := m_at_of r_L_law (by decide +kernel)
theorem i_L_law_1043 : m_at k_L_law 1043 = some (.invokevirtual 128, 3, 56) := m_at_of r_L_law (by decide +kernel)
theorem i_L_law_1046 : m_at k_L_law 1046 = some (.aload_n 2, 1, 0) := m_at_of r_L_law (by decide +kernel)
theorem i_L_law_1047 : m_at k_L_law 1047 = some (.aload_n 0, 1, 0) := m_at_of r_L_law (by decide +kernel)
theorem i_L_law_1048 : m_at k_L_law 1048 = some (.iload_n 3, 1, 0) := m_at_of r_L_law (by decide +kernel)
theorem i_L_law_1049 : m_at k_L_law 1049 = some (.iconst 1, 1, 0) := m_at_of r_L_law (by decide +kernel)
theorem i_L_law_1050 : m_at k_L_law 1050 = some (.iadd, 1, 0) := m_at_of r_L_law (by decide +kernel)
theorem i_L_law_1051 : m_at k_L_law 1051 = some (.iaload, 1, 0) := m_at_of r_L_law (by decide +kernel)
theorem i_L_law_1052 : m_at k_L_law 1052 = some (.invokevirtual 131, 3, 57) := m_at_of r_L_law (by decide +kernel)
theorem i_L_law_1055 : m_at k_L_law 1055 = some (.if_icmp .eq (610), 3, 0) := m_at_of r_L_law (by decide +kernel)
theorem i_L_law_1058 : m_at k_L_law 1058 = some (.iconst 0, 1, 0) := m_at_of r_L_law (by decide +kernel)
theorem i_L_law_1059 : m_at k_L_law 1059 = some (.ireturn, 1, 0) := m_at_of r_L_law (by decide +kernel)
theorem i_L_law_1060 : m_at k_L_law 1060 = some (.aload_n 1, 1, 0) := m_at_of r_L_law (by decide +kernel)
theorem i_L_law_1061 : m_at k_L_law 1061 = some (.aload_n 0, 1, 0) := m_at_of r_L_law (by decide +kernel)
theorem i_L_law_1062 : m_at k_L_law 1062 = some (.iload_n 3, 1, 0) := m_at_of r_L_law (by decide +kernel)
theorem i_L_law_1063 : m_at k_L_law 1063 = some (.iconst 1, 1, 0) := m_at_of r_L_law (by decide +kernel)
theorem i_L_law_1064 : m_at k_L_law 1064 = some (.iadd, 1, 0) := m_at_of r_L_law (by decide +kernel)
theorem i_L_law_1065 : m_at k_L_law 1065 = some (.iaload, 1, 0) := m_at_of r_L_law (by decide +kernel)
theorem i_L_law_1066 : m_at k_L_law 1066 = some (.aload_n 0, 1, 0) := m_at_of r_L_law (by decide +kernel)
theorem i_L_law_1067 : m_at k_L_law 1067 = some (.iload_n 3, 1, 0) := m_at_of r_L_law (by decide +kernel)
theorem i_L_law_1068 : m_at k_L_law 1068 = some (.iconst 2, 1, 0) := m_at_of r_L_law (by decide +kernel)
theorem i_L_law_1069 : m_at k_L_law 1069 = some (.iadd, 1, 0) := m_at_of r_L_law (by decide +kernel)
theorem i_L_law_1070 : m_at k_L_law 1070 = some (.iaload, 1, 0) := m_at_of r_L_law (by decide +kernel)
theorem i_L_law_1071 : m_at k_L_law 1071 = some (.ifCond .eq (7), 3, 0) := m_at_of r_L_law (by decide +kernel)
theorem i_L_law_1074 : m_at k_L_law 1074 = some (.iconst 1, 1, 0) := m_at_of r_L_law (by decide +kernel)
theorem i_L_law_1075 : m_at k_L_law 1075 = some (.goto (4), 3, 0) := m_at_of r_L_law (by decide +kernel)
theorem i_L_law_1078 : m_at k_L_law 1078 = some (.iconst 0, 1, 0) := m_at_of r_L_law (by decide +kernel)
theorem i_L_law_1079 : m_at k_L_law 1079 = some (.invokevirtual 132, 3, 58) := m_at_of r_L_law (by decide +kernel)
theorem i_L_law_1082 : m_at k_L_law 1082 = some (.aload_n 2, 1, 0) := m_at_of r_L_law (by decide +kernel)
theorem i_L_law_1083 : m_at k_L_law 1083 = some (.aload_n 0, 1, 0) := m_at_of r_L_law (by decide +kernel)
theorem i_L_law_1084 : m_at k_L_law 1084 = some (.iload_n 3, 1, 0) := m_at_of r_L_law (by decide +kernel)
theorem i_L_law_1085 : m_at k_L_law 1085 = some (.iconst 1, 1, 0) := m_at_of r_L_law (by decide +kernel)
theorem i_L_law_1086 : m_at k_L_law 1086 = some (.iadd, 1, 0) := m_at_of r_L_law (by decide +kernel)
theorem i_L_law_1087 : m_at k_L_law 1087 = some (.iaload, 1, 0) := m_at_of r_L_law (by decide +kernel)
theorem i_L_law_1088 : m_at k_L_law 1088 = some (.aload_n 0, 1, 0) := m_at_of r_L_law (by decide +kernel)
theorem i_L_law_1089 : m_at k_L_law 1089 = some (.iload_n 3, 1, 0) := m_at_of r_L_law (by decide +kernel)
theorem i_L_law_1090 : m_at k_L_law 1090 = some (.iconst 2, 1, 0) := m_at_of r_L_law (by decide +kernel)
theorem i_L_law_1091 : m_at k_L_law 1091 = some (.iadd, 1, 0) := m_at_of r_L_law (by decide +kernel)
theorem i_L_law_1092 : m_at k_L_law 1092 = some (.iaload, 1, 0) := m_at_of r_L_law (by decide +kernel)
theorem i_L_law_1093 : m_at k_L_law 1093 = some (.ifCond .eq (7), 3, 0) := m_at_of r_L_law (by decide +kernel)
theorem i_L_law_1096 : m_at k_L_law 1096 = some (.iconst 1, 1, 0) := m_at_of r_L_law (by decide +kernel)
theorem i_L_law_1097 : m_at k_L_law 1097 = some (.goto (4), 3, 0) := m_at_of r_L_law (by decide +kernel)
theorem i_L_law_1100 : m_at k_L_law 1100 = some (.iconst 0, 1, 0) := m_at_of r_L_law (by decide +kernel)
theorem i_L_law_1101 : m_at k_L_law 1101 = some (.invokevirtual 136, 3, 59) := m_at_of r_L_law (by decide +kernel)
theorem i_L_law_1104 : m_at k_L_law 1104 = some (.if_icmp .eq (561), 3, 0) := m_at_of r_L_law (by decide +kernel)
theorem i_L_law_1107 : m_at k_L_law 1107 = some (.iconst 0, 1, 0) := m_at_of r_L_law (by decide +kernel)
theorem i_L_law_1108 : m_at k_L_law 1108 = some (.ireturn, 1, 0) := m_at_of r_L_law (by decide +kernel)
theorem i_L_law_1109 : m_at k_L_law 1109 = some (.aload_n 1, 1, 0) := m_at_of r_L_law (by decide +kernel)
theorem i_L_law_1110 : m_at k_L_law 1110 = some (.aload_n 0, 1, 0) := m_at_of r_L_law (by decide +kernel)
theorem i_L_law_1111 : m_at k_L_law 1111 = some (.iload_n 3, 1, 0) := m_at_of r_L_law (by decide +kernel)
theorem i_L_law_1112 : m_at k_L_law 1112 = some (.iconst 1, 1, 0) := m_at_of r_L_law (by decide +kernel)
theorem i_L_law_1113 : m_at k_L_law 1113 = some (.iadd, 1, 0) := m_at_of r_L_law (by decide +kernel)
theorem i_L_law_1114 : m_at k_L_law 1114 = some (.iaload, 1, 0) := m_at_of r_L_law (by decide +kernel)
theorem i_L_law_1115 : m_at k_L_law 1115 = some (.aload_n 0, 1, 0) := m_at_of r_L_law (by decide +kernel)
theorem i_L_law_1116 : m_at k_L_law 1116 = some (.iload_n 3, 1, 0) := m_at_of r_L_law (by decide +kernel)
theorem i_L_law_1117 : m_at k_L_law 1117 = some (.iconst 2, 1, 0) := m_at_of r_L_law (by decide +kernel)
theorem i_L_law_1118 : m_at k_L_law 1118 = some (.iadd, 1, 0) := m_at_of r_L_law (by decide +kernel)
theorem i_L_law_1119 : m_at k_L_law 1119 = some (.iaload, 1, 0) := m_at_of r_L_law (by decide +kernel)
theorem i_L_law_1120 : m_at k_L_law 1120 = some (.invokevirtual 137, 3, 60) := m_at_of r_L_law (by decide +kernel)
theorem i_L_law_1123 : m_at k_L_law 1123 = some (.aload_n 2, 1, 0) := m_at_of r_L_law (by decide +kernel)
theorem i_L_law_1124 : m_at k_L_law 1124 = some (.aload_n 0, 1, 0) := m_at_of r_L_law (by decide +kernel)
theorem i_L_law_1125 : m_at k_L_law 1125 = some (.iload_n 3, 1, 0) := m_at_of r_L_law (by decide +kernel)
theorem i_L_law_1126 : m_at k_L_law 1126 = some (.iconst 1, 1, 0) := m_at_of r_L_law (by decide +kernel)
theorem i_L_law_1127 : m_at k_L_law 1127 = some (.iadd, 1, 0) := m_at_of r_L_law (by decide +kernel)
theorem i_L_law_1128 : m_at k_L_law 1128 = some (.iaload, 1, 0) := m_at_of r_L_law (by decide +kernel)
theorem i_L_law_1129 : m_at k_L_law 1129 = some (.aload_n 0, 1, 0) := m_at_of r_L_law (by decide +kernel)
theorem i_L_law_1130 : m_at k_L_law 1130 = some (.iload_n 3, 1, 0) := m_at_of r_L_law (by decide +kernel)
theorem i_L_law_1131 : m_at k_L_law 1131 = some (.iconst 2, 1, 0) := m_at_of r_L_law (by decide +kernel)
theorem i_L_law_1132 : m_at k_L_law 1132 = some (.iadd, 1, 0) := m_at_of r_L_law (by decide +kernel)
theorem i_L_law_1133 : m_at k_L_law 1133 = some (.iaload, 1, 0) := m_at_of r_L_law (by decide +kernel)
theorem i_L_law_1134 : m_at k_L_law 1134 = some (.invokevirtual 140, 3, 61) := m_at_of r_L_law (by decide +kernel)
theorem i_L_law_1137 : m_at k_L_law 1137 = some (.if_icmp .eq (528), 3, 0) := m_at_of r_L_law (by decide +kernel)
theorem i_L_law_1140 : m_at k_L_law 1140 = some (.iconst 0, 1, 0) := m_at_of r_L_law (by decide +kernel)
theorem i_L_law_1141 : m_at k_L_law 1141 = some (.ireturn, 1, 0) := m_at_of r_L_law (by decide +kernel)
theorem i_L_law_1142 : m_at k_L_law 1142 = some (.aload_n 1, 1, 0) := m_at_of r_L_law (by decide +kernel)
theorem i_L_law_1143 : m_at k_L_law 1143 = some (.aload_n 0, 1, 0) := m_at_of r_L_law (by decide +kernel)
theorem i_L_law_1144 : m_at k_L_law 1144 = some (.iload_n 3, 1, 0) := m_at_of r_L_law (by decide +kernel)
theorem i_L_law_1145 : m_at k_L_law 1145 = some (.iconst 1, 1, 0) := m_at_of r_L_law (by decide +kernel)
theorem i_L_law_1146 : m_at k_L_law 1146 = some (.iadd, 1, 0) := m_at_of r_L_law (by decide +kernel)
theorem i_L_law_1147 : m_at k_L_law 1147 = some (.iaload, 1, 0) := m_at_of r_L_law (by decide +kernel)
theorem i_L_law_1148 : m_at k_L_law 1148 = some (.aload_n 0, 1, 0) := m_at_of r_L_law (by decide +kernel)
theorem i_L_law_1149 : m_at k_L_law 1149 = some (.iload_n 3, 1, 0) := m_at_of r_L_law (by decide +kernel)
theorem i_L_law_1150 : m_at k_L_law 1150 = some (.iconst 2, 1, 0) := m_at_of r_L_law (by decide +kernel)
theorem i_L_law_1151 : m_at k_L_law 1151 = some (.iadd, 1, 0) := m_at_of r_L_law (by decide +kernel)
theorem i_L_law_1152 : m_at k_L_law 1152 = some (.iaload, 1, 0) := m_at_of r_L_law (by decide +kernel)
theorem i_L_law_1153 : m_at k_L_law 1153 = some (.aload_n 0, 1, 0) := m_at_of r_L_law (by decide +kernel)
theorem i_L_law_1154 : m_at k_L_law 1154 = some (.iload_n 3, 1, 0) := m_at_of r_L_law (by decide +kernel)
theorem i_L_law_1155 : m_at k_L_law 1155 = some (.iconst 3, 1, 0) := m_at_of r_L_law (by decide +kernel)
theorem i_L_law_1156 : m_at k_L_law 1156 = some (.iadd, 1, 0) := m_at_of r_L_law (by decide +kernel)
theorem i_L_law_1157 : m_at k_L_law 1157 = some (.iaload, 1, 0) := m_at_of r_L_law (by decide +kernel)
theorem i_L_law_1158 : m_at k_L_law 1158 = some (.aload_n 0, 1, 0) := m_at_of r_L_law (by decide +kernel)
theorem i_L_law_1159 : m_at k_L_law 1159 = some (.iload_n 3, 1, 0) := m_at_of r_L_law (by decide +kernel)
theorem i_L_law_1160 : m_at k_L_law 1160 = some (.iconst 4, 1, 0) := m_at_of r_L_law (by decide +kernel)
theorem i_L_law_1161 : m_at k_L_law 1161 = some (.iadd, 1, 0) := m_at_of r_L_law (by decide +kernel)
theorem i_L_law_1162 : m_at k_L_law 1162 = some (.iaload, 1, 0) := m_at_of r_L_law (by decide +kernel)
theorem i_L_law_1163 : m_at k_L_law 1163 = some (.aload_n 0, 1, 0) := m_at_of r_L_law (by decide +kernel)
theorem i_L_law_1164 : m_at k_L_law 1164 = some (.iload_n 3, 1, 0) := m_at_of r_L_law (by decide +kernel)
theorem i_L_law_1165 : m_at k_L_law 1165 = some (.iconst 5, 1, 0) := m_at_of r_L_law (by decide +kernel)
theorem i_L_law_1166 : m_at k_L_law 1166 = some (.iadd, 1, 0) := m_at_of r_L_law (by decide +kernel)
theorem i_L_law_1167 : m_at k_L_law 1167 = some (.iaload, 1, 0) := m_at_of r_L_law (by decide +kernel)
theorem i_L_law_1168 : m_at k_L_law 1168 = some (.aload_n 0, 1, 0) := m_at_of r_L_law (by decide +kernel)
theorem i_L_law_1169 : m_at k_L_law 1169 = some (.iload_n 3, 1, 0) := m_at_of r_L_law (by decide +kernel)
theorem i_L_law_1170 : m_at k_L_law 1170 = some (.bipush 6, 2, 0) := m_at_of r_L_law (by decide +kernel)
theorem i_L_law_1172 : m_at k_L_law 1172 = some (.iadd, 1, 0) := m_at_of r_L_law (by decide +kernel)
theorem i_L_law_1173 : m_at k_L_law 1173 = some (.iaload, 1, 0) := m_at_of r_L_law (by decide +kernel)
theorem i_L_law_1174 : m_at k_L_law 1174 = some (.aload_n 0, 1, 0) := m_at_of r_L_law (by decide +kernel)
theorem i_L_law_1175 : m_at k_L_law 1175 = some (.iload_n 3, 1, 0) := m_at_of r_L_law (by decide +kernel)
theorem i_L_law_1176 : m_at k_L_law 1176 = some (.bipush 7, 2, 0) := m_at_of r_L_law (by decide +kernel)
theorem i_L_law_1178 : m_at k_L_law 1178 = some (.iadd, 1, 0) := m_at_of r_L_law (by decide +kernel)
theorem i_L_law_1179 : m_at k_L_law 1179 = some (.iaload, 1, 0) := m_at_of r_L_law (by decide +kernel)
theorem i_L_law_1180 : m_at k_L_law 1180 = some (.invokevirtual 141, 3, 62) := m_at_of r_L_law (by decide +kernel)
theorem i_L_law_1183 : m_at k_L_law 1183 = some (.aload_n 2, 1, 0) := m_at_of r_L_law (by decide +kernel)
theorem i_L_law_1184 : m_at k_L_law 1184 = some (.aload_n 0, 1, 0) := m_at_of r_L_law (by decide +kernel)
theorem i_L_law_1185 : m_at k_L_law 1185 = some (.iload_n 3, 1, 0) := m_at_of r_L_law (by decide +kernel)
theorem i_L_law_1186 : m_at k_L_law 1186 = some (.iconst 1, 1, 0) := m_at_of r_L_law (by decide +kernel)
theorem i_L_law_1187 : m_at k_L_law 1187 = some (.iadd, 1, 0) := m_at_of r_L_law (by decide +kernel)
theorem i_L_law_1188 : m_at k_L_law 1188 = some (.iaload, 1, 0) := m_at_of r_L_law (by decide +kernel)
theorem i_L_law_1189 : m_at k_L_law 1189 = some (.aload_n 0, 1, 0) := m_at_of r_L_law (by decide +kernel)
theorem i_L_law_1190 : m_at k_L_law 1190 = some (.iload_n 3, 1, 0) := m_at_of r_L_law (by decide +kernel)
theorem i_L_law_1191 : m_at k_L_law 1191 = some (.iconst 2, 1, 0) := m_at_of r_L_law (by decide +kernel)
theorem i_L_law_1192 : m_at k_L_law 1192 = some (.iadd, 1, 0) := m_at_of r_L_law (by decide +kernel)
theorem i_L_law_1193 : m_at k_L_law 1193 = some (.iaload, 1, 0) := m_at_of r_L_law (by decide +kernel)
theorem i_L_law_1194 : m_at k_L_law 1194 = some (.aload_n 0, 1, 0) := m_at_of r_L_law (by decide +kernel)
theorem i_L_law_1195 : m_at k_L_law 1195 = some (.iload_n 3, 1, 0) := m_at_of r_L_law (by decide +kernel)
theorem i_L_law_1196 : m_at k_L_law 1196 = some (.iconst 3, 1, 0) := m_at_of r_L_law (by decide +kernel)
theorem i_L_law_1197 : m_at k_L_law 1197 = some (.iadd, 1, 0) := m_at_of r_L_law (by decide +kernel)
theorem i_L_law_1198 : m_at k_L_law 1198 = some (.iaload, 1, 0) := m_at_of r_L_law (by decide +kernel)
theorem i_L_law_1199 : m_at k_L_law 1199 = some (.aload_n 0, 1, 0) := m_at_of r_L_law (by decide +kernel)
theorem i_L_law_1200 : m_at k_L_law 1200 = some (.iload_n 3, 1, 0) := m_at_of r_L_law (by decide +kernel)
theorem i_L_law_1201 : m_at k_L_law 1201 = some (.iconst 4, 1, 0) := m_at_of r_L_law (by decide +kernel)
theorem i_L_law_1202 : m_at k_L_law 1202 = some (.iadd, 1, 0) := m_at_of r_L_law (by decide +kernel)
theorem i_L_law_1203 : m_at k_L_law 1203 = some (.iaload, 1, 0) := m_at_of r_L_law (by decide +kernel)
theorem i_L_law_1204 : m_at k_L_law 1204 = some (.aload_n 0, 1, 0) := m_at_of r_L_law (by decide +kernel)
theorem i_L_law_1205 : m_at k_L_law 1205 = some (.iload_n 3, 1, 0) := m_at_of r_L_law (by decide +kernel)
theorem i_L_law_1206 : m_at k_L_law 1206 = some (.iconst 5, 1, 0) := m_at_of r_L_law (by decide +kernel)
theorem i_L_law_1207 : m_at k_L_law 1207 = some (.iadd, 1, 0) := m_at_of r_L_law (by decide +kernel)
theorem i_L_law_1208 : m_at k_L_law 1208 = some (.iaload, 1, 0) := m_at_of r_L_law (by decide +kernel)
theorem i_L_law_1209 : m_at k_L_law 1209 = some (.aload_n 0, 1, 0) := m_at_of r_L_law (by decide +kernel)
theorem i_L_law_1210 : m_at k_L_law 1210 = some (.iload_n 3, 1, 0) := m_at_of r_L_law (by decide +kernel)
theorem i_L_law_1211 : m_at k_L_law 1211 = some (.bipush 6, 2, 0) := m_at_of r_L_law (by decide +kernel)
theorem i_L_law_1213 : m_at k_L_law 1213 = some (.iadd, 1, 0) := m_at_of r_L_law (by decide +kernel)
theorem i_L_law_1214 : m_at k_L_law 1214 = some (.iaload, 1, 0) := m_at_of r_L_law (by decide +kernel)
theorem i_L_law_1215 : m_at k_L_law 1215 = some (.aload_n 0, 1, 0) := m_at_of r_L_law (by decide +kernel)
theorem i_L_law_1216 : m_at k_L_law 1216 = some (.iload_n 3, 1, 0) := m_at_of r_L_law (by decide +kernel)
theorem i_L_law_1217 : m_at k_L_law 1217 = some (.bipush 7, 2, 0) := m_at_of r_L_law (by decide +kernel)
theorem i_L_law_1219 : m_at k_L_law 1219 = some (.iadd, 1, 0) := m_at_of r_L_law (by decide +kernel)
theorem i_L_law_1220 : m_at k_L_law 1220 = some (.iaload, 1, 0) := m_at_of r_L_law (by decide +kernel)
theorem i_L_law_1221 : m_at k_L_law 1221 = some (.invokevirtual 145, 3, 63) := m_at_of r_L_law (by decide +kernel)
theorem i_L_law_1224 : m_at k_L_law 1224 = some (.if_icmp .eq (441), 3, 0) := m_at_of r_L_law (by decide +kernel)
theorem i_L_law_1227 : m_at k_L_law 1227 = some (.iconst 0, 1, 0) := m_at_of r_L_law (by decide +kernel)
theorem i_L_law_1228 : m_at k_L_law 1228 = some (.ireturn, 1, 0) := m_at_of r_L_law (by decide +kernel)
theorem i_L_law_1229 : m_at k_L_law 1229 = some (.aload_n 1, 1, 0) := m_at_of r_L_law (by decide +kernel)
theorem i_L_law_1230 : m_at k_L_law 1230 = some (.aload_n 0, 1, 0) := m_at_of r_L_law (by decide +kernel)
theorem i_L_law_1231 : m_at k_L_law 1231 = some (.iload_n 3, 1, 0) := m_at_of r_L_law (by decide +kernel)
theorem i_L_law_1232 : m_at k_L_law 1232 = some (.iconst 1, 1, 0) := m_at_of r_L_law (by decide +kernel)
theorem i_L_law_1233 : m_at k_L_law 1233 = some (.iadd, 1, 0) := m_at_of r_L_law (by decide +kernel)
theorem i_L_law_1234 : m_at k_L_law 1234 = some (.iaload, 1, 0) := m_at_of r_L_law (by decide +kernel)
theorem i_L_law_1235 : m_at k_L_law 1235 = some (.invokevirtual 146, 3, 64) := m_at_of r_L_law (by decide +kernel)
theorem i_L_law_1238 : m_at k_L_law 1238 = some (.aload_n 2, 1, 0) := m_at_of r_L_law (by decide +kernel)
theorem i_L_law_1239 : m_at k_L_law 1239 = some (.aload_n 0, 1, 0) := m_at_of r_L_law (by decide +kernel)
theorem i_L_law_1240 : m_at k_L_law 1240 = some (.iload_n 3, 1, 0) := m_at_of r_L_law (by decide +kernel)
theorem i_L_law_1241 : m_at k_L_law 1241 = some (.iconst 1, 1, 0) := m_at_of r_L_law (by decide +kernel)
theorem i_L_law_1242 : m_at k_L_law 1242 = some (.iadd, 1, 0) := m_at_of r_L_law (by decide +kernel)
theorem i_L_law_1243 : m_at k_L_law 1243 = some (.iaload, 1, 0) := m_at_of r_L_law (by decide +kernel)
theorem i_L_law_1244 : m_at k_L_law 1244 = some (.invokevirtual 149, 3, 65) := m_at_of r_L_law (by decide +kernel)
theorem i_L_law_1247 : m_at k_L_law 1247 = some (.if_icmp .eq (418), 3, 0) := m_at_of r_L_law (by decide +kernel)
theorem i_L_law_1250 : m_at k_L_law 1250 = some (.iconst 0, 1, 0) := m_at_of r_L_law (by decide +kernel)
theorem i_L_law_1251 : m_at k_L_law 1251 = some (.ireturn, 1, 0) := m_at_of r_L_law (by decide +kernel)
theorem i_L_law_1252 : m_at k_L_law 1252 = some (.aload_n 1, 1, 0) := m_at_of r_L_law (by decide +kernel)
theorem i_L_law_1253 : m_at k_L_law 1253 = some (.aload_n 0, 1, 0) := m_at_of r_L_law (by decide +kernel)
theorem i_L_law_1254 : m_at k_L_law 1254 = some (.iload_n 3, 1, 0) := m_at_of r_L_law (by decide +kernel)
theorem i_L_law_1255 : m_at k_L_law 1255 = some (.iconst 1, 1, 0) := m_at_of r_L_law (by decide +kernel)
theorem i_L_law_1256 : m_at k_L_law 1256 = some (.iadd, 1, 0) := m_at_of r_L_law (by decide +kernel)
theorem i_L_law_1257 : m_at k_L_law 1257 = some (.iaload, 1, 0) := m_at_of r_L_law (by decide +kernel)
theorem i_L_law_1258 : m_at k_L_law 1258 = some (.aload_n 0, 1, 0) := m_at_of r_L_law (by decide +kernel)
theorem i_L_law_1259 : m_at k_L_law 1259 = some (.iload_n 3, 1, 0) := m_at_of r_L_law (by decide +kernel)
theorem i_L_law_1260 : m_at k_L_law 1260 = some (.iconst 2, 1, 0) := m_at_of r_L_law (by decide +kernel)
theorem i_L_law_1261 : m_at k_L_law 1261 = some (.iadd, 1, 0) := m_at_of r_L_law (by decide +kernel)
theorem i_L_law_1262 : m_at k_L_law 1262 = some (.iaload, 1, 0) := m_at_of r_L_law (by decide +kernel)
theorem i_L_law_1263 : m_at k_L_law 1263 = some (.aload_n 0, 1, 0) := m_at_of r_L_law (by decide +kernel)
theorem i_L_law_1264 : m_at k_L_law 1264 = some (.iload_n 3, 1, 0) := m_at_of r_L_law (by decide +kernel)
theorem i_L_law_1265 : m_at k_L_law 1265 = some (.iconst 3, 1, 0) := m_at_of r_L_law (by decide +kernel)
theorem i_L_law_1266 : m_at k_L_law 1266 = some (.iadd, 1, 0) := m_at_of r_L_law (by decide +kernel)
theorem i_L_law_1267 : m_at k_L_law 1267 = some (.iaload, 1, 0) := m_at_of r_L_law (by decide +kernel)
theorem i_L_law_1268 : m_at k_L_law 1268 = some (.ifCond .eq (7), 3, 0) := m_at_of r_L_law (by decide +kernel)
theorem i_L_law_1271 : m_at k_L_law 1271 = some (.iconst 1, 1, 0) := m_at_of r_L_law (by decide +kernel)
theorem i_L_law_1272 : m_at k_L_law 1272 = some (.goto (4), 3, 0) := m_at_of r_L_law (by decide +kernel)
theorem i_L_law_1275 : m_at k_L_law 1275 = some (.iconst 0, 1, 0) := m_at_of r_L_law (by decide +kernel)
theorem i_L_law_1276 : m_at k_L_law 1276 = some (.invokevirtual 150, 3, 66) := m_at_of r_L_law (by decide +kernel)
theorem i_L_law_1279 : m_at k_L_law 1279 = some (.aload_n 2, 1, 0) := m_at_of r_L_law (by decide +kernel)
theorem i_L_law_1280 : m_at k_L_law 1280 = some (.aload_n 0, 1, 0) := m_at_of r_L_law (by decide +kernel)
theorem i_L_law_1281 : m_at k_L_law 1281 = some (.iload_n 3, 1, 0) := m_at_of r_L_law (by decide +kernel)
theorem i_L_law_1282 : m_at k_L_law 1282 = some (.iconst 1, 1, 0) := m_at_of r_L_law (by decide +kernel)
theorem i_L_law_1283 : m_at k_L_law 1283 = some (.iadd, 1, 0) := m_at_of r_L_law (by decide +kernel)
theorem i_L_law_1284 : m_at k_L_law 1284 = some (.iaload, 1, 0) := m_at_of r_L_law (by decide +kernel)
theorem i_L_law_1285 : m_at k_L_law 1285 = some (.aload_n 0, 1, 0) := m_at_of r_L_law (by decide +kernel)
theorem i_L_law_1286 : m_at k_L_law 1286 = some (.iload_n 3, 1, 0) := m_at_of r_L_law (by decide +kernel)
theorem i_L_law_1287 : m_at k_L_law 1287 = some (.iconst 2, 1, 0) := m_at_of r_L_law (by decide +kernel)
theorem i_L_law_1288 : m_at k_L_law 1288 = some (.iadd, 1, 0) := m_at_of r_L_law (by decide +kernel)
theorem i_L_law_1289 : m_at k_L_law 1289 = some (.iaload, 1, 0) := m_at_of r_L_law (by decide +kernel)
theorem i_L_law_1290 : m_at k_L_law 1290 = some (.aload_n 0, 1, 0) := m_at_of r_L_law (by decide +kernel)
theorem i_L_law_1291 : m_at k_L_law 1291 = some (.iload_n 3, 1, 0) := m_at_of r_L_law (by decide +kernel)
theorem i_L_law_1292 : m_at k_L_law 1292 = some (.iconst 3, 1, 0) := m_at_of r_L_law (by decide +kernel)
theorem i_L_law_1293 : m_at k_L_law 1293 = some (.iadd, 1, 0) := m_at_of r_L_law (by decide +kernel)
theorem i_L_law_1294 : m_at k_L_law 1294 = some (.iaload, 1, 0) := m_at_of r_L_law (by decide +kernel)
theorem i_L_law_1295 : m_at k_L_law 1295 = some (.ifCond .eq (7), 3, 0) := m_at_of r_L_law (by decide +kernel)
theorem i_L_law_1298 : m_at k_L_law 1298 = some (.iconst 1, 1, 0) := m_at_of r_L_law (by decide +kernel)
theorem i_L_law_1299 : m_at k_L_law 1299 = some (.goto (4), 3, 0) := m_at_of r_L_law (by decide +kernel)
theorem i_L_law_1302 : m_at k_L_law 1302 = some (.iconst 0, 1, 0) := m_at_of r_L_law (by decide +kernel)
theorem i_L_law_1303 : m_at k_L_law 1303 = some (.invokevirtual 154, 3, 67) := m_at_of r_L_law (by decide +kernel)
theorem i_L_law_1306 : m_at k_L_law 1306 = some (.if_icmp .eq (359), 3, 0) := m_at_of r_L_law (by decide +kernel)
theorem i_L_law_1309 : m_at k_L_law 1309 = some (.iconst 0, 1, 0) := m_at_of r_L_law (by decide +kernel)
theorem i_L_law_1310 : m_at k_L_law 1310 = some (.ireturn, 1, 0) := m_at_of r_L_law (by decide +kernel)
theorem i_L_law_1311 : m_at k_L_law 1311 = some (.aload_n 1, 1, 0) := m_at_of r_L_law (by decide +kernel)
theorem i_L_law_1312 : m_at k_L_law 1312 = some (.aload_n 0, 1, 0) := m_at_of r_L_law (by decide +kernel)
theorem i_L_law_1313 : m_at k_L_law 1313 = some (.iload_n 3, 1, 0) := m_at_of r_L_law (by decide +kernel)
theorem i_L_law_1314 : m_at k_L_law 1314 = some (.iconst 1, 1, 0) := m_at_of r_L_law (by decide +kernel)
theorem i_L_law_1315 : m_at k_L_law 1315 = some (.iadd, 1, 0) := m_at_of r_L_law (by decide +kernel)
theorem i_L_law_1316 : m_at k_L_law 1316 = some (.iaload, 1, 0) := m_at_of r_L_law (by decide +kernel)
theorem i_L_law_1317 : m_at k_L_law 1317 = some (.aload_n 0, 1, 0) := m_at_of r_L_law (by decide +kernel)
theorem i_L_law_1318 : m_at k_L_law 1318 = some (.iload_n 3, 1, 0) := m_at_of r_L_law (by decide +kernel)
theorem i_L_law_1319 : m_at k_L_law 1319 = some (.iconst 2, 1, 0) := m_at_of r_L_law (by decide +kernel)
theorem i_L_law_1320 : m_at k_L_law 1320 = some (.iadd, 1, 0) := m_at_of r_L_law (by decide +kernel)
theorem i_L_law_1321 : m_at k_L_law 1321 = some (.iaload, 1, 0) := m_at_of r_L_law (by decide +kernel)
theorem i_L_law_1322 : m_at k_L_law 1322 = some (.ifCond .eq (7), 3, 0) := m_at_of r_L_law (by decide +kernel)
theorem i_L_law_1325 : m_at k_L_law 1325 = some (.iconst 1, 1, 0) := m_at_of r_L_law (by decide +kernel)
theorem i_L_law_1326 : m_at k_L_law 1326 = some (.goto (4), 3, 0) := m_at_of r_L_law (by decide +kernel)
theorem i_L_law_1329 : m_at k_L_law 1329 = some (.iconst 0, 1, 0) := m_at_of r_L_law (by decide +kernel)
theorem i_L_law_1330 : m_at k_L_law 1330 = some (.invokevirtual 155, 3, 68) := m_at_of r_L_law (by decide +kernel)
theorem i_L_law_1333 : m_at k_L_law 1333 = some (.aload_n 2, 1, 0) := m_at_of r_L_law (by decide +kernel)
theorem i_L_law_1334 : m_at k_L_law 1334 = some (.aload_n 0, 1, 0) := m_at_of r_L_law (by decide +kernel)
theorem i_L_law_1335 : m_at k_L_law 1335 = some (.iload_n 3, 1, 0) := m_at_of r_L_law (by decide +kernel)
theorem i_L_law_1336 : m_at k_L_law 1336 = some (.iconst 1, 1, 0) := m_at_of r_L_law (by decide +kernel)
theorem i_L_law_1337 : m_at k_L_law 1337 = some (.iadd, 1, 0) := m_at_of r_L_law (by decide +kernel)
theorem i_L_law_1338 : m_at k_L_law 1338 = some (.iaload, 1, 0) := m_at_of r_L_law (by decide +kernel)
theorem i_L_law_1339 : m_at k_L_law 1339 = some (.aload_n 0, 1, 0) := m_at_of r_L_law (by decide +kernel)
theorem i_L_law_1340 : m_at k_L_law 1340 = some (.iload_n 3, 1, 0) := m_at_of r_L_law (by decide +kernel)
theorem i_L_law_1341 : m_at k_L_law 1341 = some (.iconst 2, 1, 0) := m_at_of r_L_law (by decide +kernel)
theorem i_L_law_1342 : m_at k_L_law 1342 = some (.iadd, 1, 0) := m_at_of r_L_law (by decide +kernel)
theorem i_L_law_1343 : m_at k_L_law 1343 = some (.iaload, 1, 0) := m_at_of r_L_law (by decide +kernel)
theorem i_L_law_1344 : m_at k_L_law 1344 = some (.ifCond .eq (7), 3, 0) := m_at_of r_L_law (by decide +kernel)
theorem i_L_law_1347 : m_at k_L_law 1347 = some (.iconst 1, 1, 0) := m_at_of r_L_law (by decide +kernel)
theorem i_L_law_1348 : m_at k_L_law 1348 = some (.goto (4), 3, 0) := m_at_of r_L_law (by decide +kernel)
theorem i_L_law_1351 : m_at k_L_law 1351 = some (.iconst 0, 1, 0) := m_at_of r_L_law (by decide +kernel)
theorem i_L_law_1352 : m_at k_L_law 1352 = some (.invokevirtual 158, 3, 69) := m_at_of r_L_law (by decide +kernel)
theorem i_L_law_1355 : m_at k_L_law 1355 = some (.if_icmp .eq (310), 3, 0) := m_at_of r_L_law (by decide +kernel)
theorem i_L_law_1358 : m_at k_L_law 1358 = some (.iconst 0, 1, 0) := m_at_of r_L_law (by decide +kernel)
theorem i_L_law_1359 : m_at k_L_law 1359 = some (.ireturn, 1, 0) := m_at_of r_L_law (by decide +kernel)
theorem i_L_law_1360 : m_at k_L_law 1360 = some (.aload_n 1, 1, 0) := m_at_of r_L_law (by decide +kernel)
theorem i_L_law_1361 : m_at k_L_law 1361 = some (.aload_n 0, 1, 0) := m_at_of r_L_law (by decide +kernel)
theorem i_L_law_1362 : m_at k_L_law 1362 = some (.iload_n 3, 1, 0) := m_at_of r_L_law (by decide +kernel)
theorem i_L_law_1363 : m_at k_L_law 1363 = some (.iconst 1, 1, 0) := m_at_of r_L_law (by decide +kernel)
theorem i_L_law_1364 : m_at k_L_law 1364 = some (.iadd, 1, 0) := m_at_of r_L_law (by decide +kernel)
theorem i_L_law_1365 : m_at k_L_law 1365 = some (.iaload, 1, 0) := m_at_of r_L_law (by decide +kernel)
theorem i_L_law_1366 : m_at k_L_law 1366 = some (.aload_n 0, 1, 0) := m_at_of r_L_law (by decide +kernel)
theorem i_L_law_1367 : m_at k_L_law 1367 = some (.iload_n 3, 1, 0) := m_at_of r_L_law (by decide +kernel)
theorem i_L_law_1368 : m_at k_L_law 1368 = some (.iconst 2, 1, 0) := m_at_of r_L_law (by decide +kernel)
theorem i_L_law_1369 : m_at k_L_law 1369 = some (.iadd, 1, 0) := m_at_of r_L_law (by decide +kernel)
theorem i_L_law_1370 : m_at k_L_law 1370 = some (.iaload, 1, 0) := m_at_of r_L_law (by decide +kernel)
theorem i_L_law_1371 : m_at k_L_law 1371 = some (.invokevirtual 159, 3, 70) := m_at_of r_L_law (by decide +kernel)
theorem i_L_law_1374 : m_at k_L_law 1374 = some (.aload_n 2, 1, 0) := m_at_of r_L_law (by decide +kernel)
theorem i_L_law_1375 : m_at k_L_law 1375 = some (.aload_n 0, 1, 0) := m_at_of r_L_law (by decide +kernel)
theorem i_L_law_1376 : m_at k_L_law 1376 = some (.iload_n 3, 1, 0) := m_at_of r_L_law (by decide +kernel)
theorem i_L_law_1377 : m_at k_L_law 1377 = some (.iconst 1, 1, 0) := m_at_of r_L_law (by decide +kernel)
theorem i_L_law_1378 : m_at k_L_law 1378 = some (.iadd, 1, 0) := m_at_of r_L_law (by decide +kernel)
theorem i_L_law_1379 : m_at k_L_law 1379 = some (.iaload, 1, 0) := m_at_of r_L_law (by decide +kernel)
theorem i_L_law_1380 : m_at k_L_law 1380 = some (.aload_n 0, 1, 0) := m_at_of r_L_law (by decide +kernel)
theorem i_L_law_1381 : m_at k_L_law 1381 = some (.iload_n 3, 1, 0) := m_at_of r_L_law (by decide +kernel)
theorem i_L_law_1382 : m_at k_L_law 1382 = some (.iconst 2, 1, 0) := m_at_of r_L_law (by decide +kernel)
theorem i_L_law_1383 : m_at k_L_law 1383 = some (.iadd, 1, 0) := m_at_of r_L_law (by decide +kernel)
theorem i_L_law_1384 : m_at k_L_law 1384 = some (.iaload, 1, 0) := m_at_of r_L_law (by decide +kernel)
theorem i_L_law_1385 : m_at k_L_law 1385 = some (.invokevirtual 162, 3, 71) := m_at_of r_L_law (by decide +kernel)
theorem i_L_law_1388 : m_at k_L_law 1388 = some (.if_icmp .eq (277), 3, 0) := m_at_of r_L_law (by decide +kernel)
theorem i_L_law_1391 : m_at k_L_law 1391 = some (.iconst 0, 1, 0) := m_at_of r_L_law (by decide +kernel)
theorem i_L_law_1392 : m_at k_L_law 1392 = some (.ireturn, 1, 0) := m_at_of r_L_law (by decide +kernel)
theorem i_L_law_1393 : m_at k_L_law 1393 = some (.aload_n 1, 1, 0) := m_at_of r_L_law (by decide +kernel)
theorem i_L_law_1394 : m_at k_L_law 1394 = some (.aload_n 0, 1, 0) := m_at_of r_L_law (by decide +kernel)
theorem i_L_law_1395 : m_at k_L_law 1395 = some (.iload_n 3, 1, 0) := m_at_of r_L_law (by decide +kernel)
theorem i_L_law_1396 : m_at k_L_law 1396 = some (.iconst 1, 1, 0) := m_at_of r_L_law (by decide +kernel)
theorem i_L_law_1397 : m_at k_L_law 1397 = some (.iadd, 1, 0) := m_at_of r_L_law (by decide +kernel)
theorem i_L_law_1398 : m_at k_L_law 1398 = some (.iaload, 1, 0) := m_at_of r_L_law (by decide +kernel)
theorem i_L_law_1399 : m_at k_L_law 1399 = some (.invokevirtual 163, 3, 72) := m_at_of r_L_law (by decide +kernel)
theorem i_L_law_1402 : m_at k_L_law 1402 = some (.aload_n 2, 1, 0) := m_at_of r_L_law (by decide +kernel)
theorem i_L_law_1403 : m_at k_L_law 1403 = some (.aload_n 0, 1, 0) := m_at_of r_L_law (by decide +kernel)
theorem i_L_law_1404 : m_at k_L_law 1404 = some (.iload_n 3, 1, 0) := m_at_of r_L_law (by decide +kernel)
theorem i_L_law_1405 : m_at k_L_law 1405 = some (.iconst 1, 1, 0) := m_at_of r_L_law (by decide +kernel)
theorem i_L_law_1406 : m_at k_L_law 1406 = some (.iadd, 1, 0) := m_at_of r_L_law (by decide +kernel)
theorem i_L_law_1407 : m_at k_L_law 1407 = some (.iaload, 1, 0) := m_at_of r_L_law (by decide +kernel)
theorem i_L_law_1408 : m_at k_L_law 1408 = some (.invokevirtual 166, 3, 73) := m_at_of r_L_law (by decide +kernel)
theorem i_L_law_1411 : m_at k_L_law 1411 = some (.if_icmp .eq (254), 3, 0) := m_at_of r_L_law (by decide +kernel)
theorem i_L_law_1414 : m_at k_L_law 1414 = some (.iconst 0, 1, 0) := m_at_of r_L_law (by decide +kernel)
theorem i_L_law_1415 : m_at k_L_law 1415 = some (.ireturn, 1, 0) := m_at_of r_L_law (by decide +kernel)
theorem i_L_law_1416 : m_at k_L_law 1416 = some (.aload_n 1, 1, 0) := m_at_of r_L_law (by decide +kernel)
theorem i_L_law_1417 : m_at k_L_law 1417 = some (.aload_n 0, 1, 0) := m_at_of r_L_law (by decide +kernel)
theorem i_L_law_1418 : m_at k_L_law 1418 = some (.iload_n 3, 1, 0) := m_at_of r_L_law (by decide +kernel)
theorem i_L_law_1419 : m_at k_L_law 1419 = some (.iconst 1, 1, 0) := m_at_of r_L_law (by decide +kernel)
theorem i_L_law_1420 : m_at k_L_law 1420 = some (.iadd, 1, 0) := m_at_of r_L_law (by decide +kernel)
theorem i_L_law_1421 : m_at k_L_law 1421 = some (.iaload, 1, 0) := m_at_of r_L_law (by decide +kernel)
theorem i_L_law_1422 : m_at k_L_law 1422 = some (.aload_n 0, 1, 0) := m_at_of r_L_law (by decide +kernel)
theorem i_L_law_1423 : m_at k_L_law 1423 = some (.iload_n 3, 1, 0) := m_at_of r_L_law (by decide +kernel)
theorem i_L_law_1424 : m_at k_L_law 1424 = some (.iconst 2, 1, 0) := m_at_of r_L_law (by decide +kernel)
theorem i_L_law_1425 : m_at k_L_law 1425 = some (.iadd, 1, 0) := m_at_of r_L_law (by decide +kernel)
theorem i_L_law_1426 : m_at k_L_law 1426 = some (.iaload, 1, 0) := m_at_of r_L_law (by decide +kernel)
theorem i_L_law_1427 : m_at k_L_law 1427 = some (.aload_n 0, 1, 0) := m_at_of r_L_law (by decide +kernel)
theorem i_L_law_1428 : m_at k_L_law 1428 = some (.iload_n 3, 1, 0) := m_at_of r_L_law (by decide +kernel)
theorem i_L_law_1429 : m_at k_L_law 1429 = some (.iconst 3, 1, 0) := m_at_of r_L_law (by decide +kernel)
theorem i_L_law_1430 : m_at k_L_law 1430 = some (.iadd, 1, 0) := m_at_of r_L_law (by decide +kernel)
theorem i_L_law_1431 : m_at k_L_law 1431 = some (.iaload, 1, 0) := m_at_of r_L_law (by decide +kernel)
theorem i_L_law_1432 : m_at k_L_law 1432 = some (.aload_n 0, 1, 0) := m_at_of r_L_law (by decide +kernel)
theorem i_L_law_1433 : m_at k_L_law 1433 = some (.iload_n 3, 1, 0) := m_at_of r_L_law (by decide +kernel)
theorem i_L_law_1434 : m_at k_L_law 1434 = some (.iconst 4, 1, 0) := m_at_of r_L_law (by decide +kernel)
theorem i_L_law_1435 : m_at k_L_law 1435 = some (.iadd, 1, 0) := m_at_of r_L_law (by decide +kernel)
theorem i_L_law_1436 : m_at k_L_law 1436 = some (.iaload, 1, 0) := m_at_of r_L_law (by decide +kernel)
theorem i_L_law_1437 : m_at k_L_law 1437 = some (.aload_n 0, 1, 0) := m_at_of r_L_law (by decide +kernel)
theorem i_L_law_1438 : m_at k_L_law 1438 = some (.iload_n 3, 1, 0) := m_at_of r_L_law (by decide +kernel)
theorem i_L_law_1439 : m_at k_L_law 1439 = some (.iconst 5, 1, 0) := m_at_of r_L_law (by decide +kernel)
theorem i_L_law_1440 : m_at k_L_law 1440 = some (.iadd, 1, 0) := m_at_of r_L_law (by decide +kernel)
theorem i_L_law_1441 : m_at k_L_law 1441 = some (.iaload, 1, 0) := m_at_of r_L_law (by decide +kernel)
theorem i_L_law_1442 : m_at k_L_law 1442 = some (.ifCond .eq (7), 3, 0) := m_at_of r_L_law (by decide +kernel)
theorem i_L_law_1445 : m_at k_L_law 1445 = some (.iconst 1, 1, 0) := m_at_of r_L_law (by decide +kernel)
theorem i_L_law_1446 : m_at k_L_law 1446 = some (.goto (4), 3, 0) := m_at_of r_L_law (by decide +kernel)
theorem i_L_law_1449 : m_at k_L_law 1449 = some (.iconst 0, 1, 0) := m_at_of r_L_law (by decide +kernel)
theorem i_L_law_1450 : m_at k_L_law 1450 = some (.invokevirtual 167, 3, 74) := m_at_of r_L_law (by decide +kernel)
theorem i_L_law_1453 : m_at k_L_law 1453 = some (.aload_n 2, 1, 0) := m_at_of r_L_law (by decide +kernel)
theorem i_L_law_1454 : m_at k_L_law 1454 = some (.aload_n 0, 1, 0) := m_at_of r_L_law (by decide +kernel)
theorem i_L_law_1455 : m_at k_L_law 1455 = some (.iload_n 3, 1, 0) := m_at_of r_L_law (by decide +kernel)
theorem i_L_law_1456 : m_at k_L_law 1456 = some (.iconst 1, 1, 0) := m_at_of r_L_law (by decide +kernel)
theorem i_L_law_1457 : m_at k_L_law 1457 = some (.iadd, 1, 0) := m_at_of r_L_law (by decide +kernel)
theorem i_L_law_1458 : m_at k_L_law 1458 = some (.iaload, 1, 0) := m_at_of r_L_law (by decide +kernel)
theorem i_L_law_1459 : m_at k_L_law 1459 = some (.aload_n 0, 1, 0) := m_at_of r_L_law (by decide +kernel)
theorem i_L_law_1460 : m_at k_L_law 1460 = some (.iload_n 3, 1, 0) := m_at_of r_L_law (by decide +kernel)
theorem i_L_law_1461 : m_at k_L_law 1461 = some (.iconst 2, 1, 0) := m_at_of r_L_law (by decide +kernel)
theorem i_L_law_1462 : m_at k_L_law 1462 = some (.iadd, 1, 0) := m_at_of r_L_law (by decide +kernel)
theorem i_L_law_1463 : m_at k_L_law 1463 = some (.iaload, 1, 0) := m_at_of r_L_law (by decide +kernel)
theorem i_L_law_1464 : m_at k_L_law 1464 = some (.aload_n 0, 1, 0) := m_at_of r_L_law (by decide +kernel)
theorem i_L_law_1465 : m_at k_L_law 1465 = some (.iload_n 3, 1, 0) := m_at_of r_L_law (by decide +kernel)
theorem i_L_law_1466 : m_at k_L_law 1466 = some (.iconst 3, 1, 0) := m_at_of r_L_law (by decide +kernel)
theorem i_L_law_1467 : m_at k_L_law 1467 = some (.iadd, 1, 0) := m_at_of r_L_law (by decide +kernel)
theorem i_L_law_1468 : m_at k_L_law 1468 = some (.iaload, 1, 0) := m_at_of r_L_law (by decide +kernel)
theorem i_L_law_1469 : m_at k_L_law 1469 = some (.aload_n 0, 1, 0) := m_at_of r_L_law (by decide +kernel)
theorem i_L_law_1470 : m_at k_L_law 1470 = some (.iload_n 3, 1, 0) := m_at_of r_L_law (by decide +kernel)
theorem i_L_law_1471 : m_at k_L_law 1471 = some (.iconst 4, 1, 0) := m_at_of r_L_law (by decide +kernel)
theorem i_L_law_1472 : m_at k_L_law 1472 = some (.iadd, 1, 0) := m_at_of r_L_law (by decide +kernel)
theorem i_L_law_1473 : m_at k_L_law 1473 = some (.iaload, 1, 0) := m_at_of r_L_law (by decide +kernel)
theorem i_L_law_1474 : m_at k_L_law 1474 = some (.aload_n 0, 1, 0) := m_at_of r_L_law (by decide +kernel)
theorem i_L_law_1475 : m_at k_L_law 1475 = some (.iload_n 3, 1, 0) := m_at_of r_L_law (by decide +kernel)
theorem i_L_law_1476 : m_at k_L_law 1476 = some (.iconst 5, 1, 0) := m_at_of r_L_law (by decide +kernel)
theorem i_L_law_1477 : m_at k_L_law 1477 = some (.iadd, 1, 0) := m_at_of r_L_law (by decide +kernel)
theorem i_L_law_1478 : m_at k_L_law 1478 = some (.iaload, 1, 0) := m_at_of r_L_law (by decide +kernel)
theorem i_L_law_1479 : m_at k_L_law 1479 = some (.ifCond .eq (7), 3, 0) := m_at_of r_L_law (by decide +kernel)
theorem i_L_law_1482 : m_at k_L_law 1482 = some (.iconst 1, 1, 0) := m_at_of r_L_law (by decide +kernel)
theorem i_L_law_1483 : m_at k_L_law 1483 = some (.goto (4), 3, 0) := m_at_of r_L_law (by decide +kernel)
theorem i_L_law_1486 : m_at k_L_law 1486 = some (.iconst 0, 1, 0) := m_at_of r_L_law (by decide +kernel)
theorem i_L_law_1487 : m_at k_L_law 1487 = some (.invokevirtual 171, 3, 75) := m_at_of r_L_law (by decide +kernel)
theorem i_L_law_1490 : m_at k_L_law 1490 = some (.if_icmp .eq (175), 3, 0) := m_at_of r_L_law (by decide +kernel)
theorem i_L_law_1493 : m_at k_L_law 1493 = some (.iconst 0, 1, 0) := m_at_of r_L_law (by decide +kernel)
theorem i_L_law_1494 : m_at k_L_law 1494 = some (.ireturn, 1, 0) := m_at_of r_L_law (by decide +kernel)
theorem i_L_law_1495 : m_at k_L_law 1495 = some (.aload_n 1, 1, 0) := m_at_of r_L_law (by decide +kernel)
theorem i_L_law_1496 : m_at k_L_law 1496 = some (.invokevirtual 172, 3, 76) := m_at_of r_L_law (by decide +kernel)
theorem i_L_law_1499 : m_at k_L_law 1499 = some (.aload_n 2, 1, 0) := m_at_of r_L_law (by decide +kernel)
theorem i_L_law_1500 : m_at k_L_law 1500 = some (.invokevirtual 175, 3, 77) := m_at_of r_L_law (by decide +kernel)
theorem i_L_law_1503 : m_at k_L_law 1503 = some (.if_icmp .eq (162), 3, 0) := m_at_of r_L_law (by decide +kernel)
theorem i_L_law_1506 : m_at k_L_law 1506 = some (.iconst 0, 1, 0) := m_at_of r_L_law (by decide +kernel)
theorem i_L_law_1507 : m_at k_L_law 1507 = some (.ireturn, 1, 0) := m_at_of r_L_law (by decide +kernel)
theorem i_L_law_1508 : m_at k_L_law 1508 = some (.aload_n 1, 1, 0) := m_at_of r_L_law (by decide +kernel)
theorem i_L_law_1509 : m_at k_L_law 1509 = some (.invokevirtual 176, 3, 78) := m_at_of r_L_law (by decide +kernel)
theorem i_L_law_1512 : m_at k_L_law 1512 = some (.aload_n 2, 1, 0) := m_at_of r_L_law (by decide +kernel)
theorem i_L_law_1513 : m_at k_L_law 1513 = some (.invokevirtual 179, 3, 79) := m_at_of r_L_law (by decide +kernel)
theorem i_L_law_1516 : m_at k_L_law 1516 = some (.if_icmp .eq (149), 3, 0) := m_at_of r_L_law (by decide +kernel)
theorem i_L_law_1519 : m_at k_L_law 1519 = some (.iconst 0, 1, 0) := m_at_of r_L_law (by decide +kernel)
theorem i_L_law_1520 : m_at k_L_law 1520 = some (.ireturn, 1, 0) := m_at_of r_L_law (by decide +kernel)
theorem i_L_law_1521 : m_at k_L_law 1521 = some (.aload_n 1, 1, 0) := m_at_of r_L_law (by decide +kernel)
theorem i_L_law_1522 : m_at k_L_law 1522 = some (.aload_n 0, 1, 0) := m_at_of r_L_law (by decide +kernel)
theorem i_L_law_1523 : m_at k_L_law 1523 = some (.iload_n 3, 1, 0) := m_at_of r_L_law (by decide +kernel)
theorem i_L_law_1524 : m_at k_L_law 1524 = some (.iconst 1, 1, 0) := m_at_of r_L_law (by decide +kernel)
theorem i_L_law_1525 : m_at k_L_law 1525 = some (.iadd, 1, 0) := m_at_of r_L_law (by decide +kernel)
theorem i_L_law_1526 : m_at k_L_law 1526 = some (.iaload, 1, 0) := m_at_of r_L_law (by decide +kernel)
theorem i_L_law_1527 : m_at k_L_law 1527 = some (.aload_n 0, 1, 0) := m_at_of r_L_law (by decide +kernel)
theorem i_L_law_1528 : m_at k_L_law 1528 = some (.iload_n 3, 1, 0) := m_at_of r_L_law (by decide +kernel)
theorem i_L_law_1529 : m_at k_L_law 1529 = some (.iconst 2, 1, 0) := m_at_of r_L_law (by decide +kernel)
theorem i_L_law_1530 : m_at k_L_law 1530 = some (.iadd, 1, 0) := m_at_of r_L_law (by decide +kernel)
theorem i_L_law_1531 : m_at k_L_law 1531 = some (.iaload, 1, 0) := m_at_of r_L_law (by decide +kernel)
theorem i_L_law_1532 : m_at k_L_law 1532 = some (.invokevirtual 180, 3, 80) := m_at_of r_L_law (by decide +kernel)
theorem i_L_law_1535 : m_at k_L_law 1535 = some (.aload_n 2, 1, 0) := m_at_of r_L_law (by decide +kernel)
theorem i_L_law_1536 : m_at k_L_law 1536 = some (.aload_n 0, 1, 0) := m_at_of r_L_law (by decide +kernel)
theorem i_L_law_1537 : m_at k_L_law 1537 = some (.iload_n 3, 1, 0) := m_at_of r_L_law (by decide +kernel)
theorem i_L_law_1538 : m_at k_L_law 1538 = some (.iconst 1, 1, 0) := m_at_of r_L_law (by decide +kernel)
theorem i_L_law_1539 : m_at k_L_law 1539 = some (.iadd, 1, 0) := m_at_of r_L_law (by decide +kernel)
theorem i_L_law_1540 : m_at k_L_law 1540 = some (.iaload, 1, 0) := m_at_of r_L_law (by decide +kernel)
theorem i_L_law_1541 : m_at k_L_law 1541 = some (.aload_n 0, 1, 0) := m_at_of r_L_law (by decide +kernel)
theorem i_L_law_1542 : m_at k_L_law 1542 = some (.iload_n 3, 1, 0) := m_at_of r_L_law (by decide +kernel)
theorem i_L_law_1543 : m_at k_L_law 1543 = some (.iconst 2, 1, 0) := m_at_of r_L_law (by decide +kernel)
theorem i_L_law_1544 : m_at k_L_law 1544 = some (.iadd, 1, 0) := m_at_of r_L_law (by decide +kernel)
theorem i_L_law_1545 : m_at k_L_law 1545 = some (.iaload, 1, 0) := m_at_of r_L_law (by decide +kernel)
theorem i_L_law_1546 : m_at k_L_law 1546 = some (.invokevirtual 183, 3, 81) := m_at_of r_L_law (by decide +kernel)
theorem i_L_law_1549 : m_at k_L_law 1549 = some (.if_icmp .eq (116), 3, 0) := m_at_of r_L_law (by decide +kernel)
theorem i_L_law_1552 : m_at k_L_law 1552 = some (.iconst 0, 1, 0) := m_at_of r_L_law (by decide +kernel)
theorem i_L_law_1553 : m_at k_L_law 1553 = some (.ireturn, 1, 0) := m_at_of r_L_law (by decide +kernel)
theorem i_L_law_1554 : m_at k_L_law 1554 = some (.aload_n 1, 1, 0) := m_at_of r_L_law (by decide +kernel)
theorem i_L_law_1555 : m_at k_L_law 1555 = some (.invokevirtual 184, 3, 82) := m_at_of r_L_law (by decide +kernel)
theorem i_L_law_1558 : m_at k_L_law 1558 = some (.aload_n 2, 1, 0) := m_at_of r_L_law (by decide +kernel)
theorem i_L_law_1559 : m_at k_L_law 1559 = some (.invokevirtual 187, 3, 83) := m_at_of r_L_law (by decide +kernel)
theorem i_L_law_1562 : m_at k_L_law 1562 = some (.if_icmp .eq (103), 3, 0) := m_at_of r_L_law (by decide +kernel)
theorem i_L_law_1565 : m_at k_L_law 1565 = some (.iconst 0, 1, 0) := m_at_of r_L_law (by decide +kernel)
theorem i_L_law_1566 : m_at k_L_law 1566 = some (.ireturn, 1, 0) := m_at_of r_L_law (by decide +kernel)
theorem i_L_law_1567 : m_at k_L_law 1567 = some (.aload_n 1, 1, 0) := m_at_of r_L_law (by decide +kernel)
theorem i_L_law_1568 : m_at k_L_law 1568 = some (.aload_n 0, 1, 0) := m_at_of r_L_law (by decide +kernel)
theorem i_L_law_1569 : m_at k_L_law 1569 = some (.iload_n 3, 1, 0) := m_at_of r_L_law (by decide +kernel)
theorem i_L_law_1570 : m_at k_L_law 1570 = some (.iconst 1, 1, 0) := m_at_of r_L_law (by decide +kernel)
theorem i_L_law_1571 : m_at k_L_law 1571 = some (.iadd, 1, 0) := m_at_of r_L_law (by decide +kernel)
theorem i_L_law_1572 : m_at k_L_law 1572 = some (.iaload, 1, 0) := m_at_of r_L_law (by decide +kernel)
theorem i_L_law_1573 : m_at k_L_law 1573 = some (.invokevirtual 188, 3, 84) := m_at_of r_L_law (by decide +kernel)
theorem i_L_law_1576 : m_at k_L_law 1576 = some (.aload_n 2, 1, 0) := m_at_of r_L_law (by decide +kernel)
theorem i_L_law_1577 : m_at k_L_law 1577 = some (.aload_n 0, 1, 0) := m_at_of r_L_law (by decide +kernel)
theorem i_L_law_1578 : m_at k_L_law 1578 = some (.iload_n 3, 1, 0) := m_at_of r_L_law (by decide +kernel)
theorem i_L_law_1579 : m_at k_L_law 1579 = some (.iconst 1, 1, 0) := m_at_of r_L_law (by decide +kernel)
theorem i_L_law_1580 : m_at k_L_law 1580 = some (.iadd, 1, 0) := m_at_of r_L_law (by decide +kernel)
theorem i_L_law_1581 : m_at k_L_law 1581 = some (.iaload, 1, 0) := m_at_of r_L_law (by decide +kernel)
theorem i_L_law_1582 : m_at k_L_law 1582 = some (.invokevirtual 191, 3, 85) := m_at_of r_L_law (by decide +kernel)
theorem i_L_law_1585 : m_at k_L_law 1585 = some (.if_icmp .eq (80), 3, 0) := m_at_of r_L_law (by decide +kernel)
theorem i_L_law_1588 : m_at k_L_law 1588 = some (.iconst 0, 1, 0) := m_at_of r_L_law (by decide +kernel)
theorem i_L_law_1589 : m_at k_L_law 1589 = some (.ireturn, 1, 0) := m_at_of r_L_law (by decide +kernel)
theorem i_L_law_1590 : m_at k_L_law 1590 = some (.aload_n 1, 1, 0) := m_at_of r_L_law (by decide +kernel)
theorem i_L_law_1591 : m_at k_L_law 1591 = some (.invokevirtual 192, 3, 86) := m_at_of r_L_law (by decide +kernel)
theorem i_L_law_1594 : m_at k_L_law 1594 = some (.aload_n 2, 1, 0) := m_at_of r_L_law (by decide +kernel)
theorem i_L_law_1595 : m_at k_L_law 1595 = some (.invokevirtual 195, 3, 87) := m_at_of r_L_law (by decide +kernel)
theorem i_L_law_1598 : m_at k_L_law 1598 = some (.if_icmp .eq (67), 3, 0) := m_at_of r_L_law (by decide +kernel)
theorem i_L_law_1601 : m_at k_L_law 1601 = some (.iconst 0, 1, 0) := m_at_of r_L_law (by decide +kernel)
theorem i_L_law_1602 : m_at k_L_law 1602 = some (.ireturn, 1, 0) := m_at_of r_L_law (by decide +kernel)
theorem i_L_law_1603 : m_at k_L_law 1603 = some (.aload_n 1, 1, 0) := m_at_of r_L_law (by decide +kernel)
theorem i_L_law_1604 : m_at k_L_law 1604 = some (.invokevirtual 196, 3, 88) := m_at_of r_L_law (by decide +kernel)
theorem i_L_law_1607 : m_at k_L_law 1607 = some (.aload_n 2, 1, 0) := m_at_of r_L_law (by decide +kernel)
theorem i_L_law_1608 : m_at k_L_law 1608 = some (.invokevirtual 199, 3, 89) := m_at_of r_L_law (by decide +kernel)
theorem i_L_law_1611 : m_at k_L_law 1611 = some (.if_icmp .eq (54), 3, 0) := m_at_of r_L_law (by decide +kernel)
theorem i_L_law_1614 : m_at k_L_law 1614 = some (.iconst 0, 1, 0) := m_at_of r_L_law (by decide +kernel)
theorem i_L_law_1615 : m_at k_L_law 1615 = some (.ireturn, 1, 0) := m_at_of r_L_law (by decide +kernel)
theorem i_L_law_1616 : m_at k_L_law 1616 = some (.aload_n 1, 1, 0) := m_at_of r_L_law (by decide +kernel)
theorem i_L_law_1617 : m_at k_L_law 1617 = some (.invokevirtual 200, 3, 90) := m_at_of r_L_law (by decide +kernel)
theorem i_L_law_1620 : m_at k_L_law 1620 = some (.aload_n 2, 1, 0) := m_at_of r_L_law (by decide +kernel)
theorem i_L_law_1621 : m_at k_L_law 1621 = some (.invokevirtual 203, 3, 91) := m_at_of r_L_law (by decide +kernel)
theorem i_L_law_1624 : m_at k_L_law 1624 = some (.if_icmp .eq (41), 3, 0) := m_at_of r_L_law (by decide +kernel)
theorem i_L_law_1627 : m_at k_L_law 1627 = some (.iconst 0, 1, 0) := m_at_of r_L_law (by decide +kernel)
theorem i_L_law_1628 : m_at k_L_law 1628 = some (.ireturn, 1, 0) := m_at_of r_L_law (by decide +kernel)
theorem i_L_law_1629 : m_at k_L_law 1629 = some (.aload_n 1, 1, 0) := m_at_of r_L_law (by decide +kernel)
theorem i_L_law_1630 : m_at k_L_law 1630 = some (.invokevirtual 204, 3, 92) := m_at_of r_L_law (by decide +kernel)
theorem i_L_law_1633 : m_at k_L_law 1633 = some (.aload_n 2, 1, 0) := m_at_of r_L_law (by decide +kernel)
theorem i_L_law_1634 : m_at k_L_law 1634 = some (.invokevirtual 207, 3, 93) := m_at_of r_L_law (by decide +kernel)
theorem i_L_law_1637 : m_at k_L_law 1637 = some (.if_icmp .eq (28), 3, 0) := m_at_of r_L_law (by decide +kernel)
theorem i_L_law_1640 : m_at k_L_law 1640 = some (.iconst 0, 1, 0) := m_at_of r_L_law (by decide +kernel)
theorem i_L_law_1641 : m_at k_L_law 1641 = some (.ireturn, 1, 0) := m_at_of r_L_law (by decide +kernel)
theorem i_L_law_1642 : m_at k_L_law 1642 = some (.aload_n 1, 1, 0) := m_at_of r_L_law (by decide +kernel)
theorem i_L_law_1643 : m_at k_L_law 1643 = some (.aload_n 0, 1, 0) := m_at_of r_L_law (by decide +kernel)
theorem i_L_law_1644 : m_at k_L_law 1644 = some (.iload_n 3, 1, 0) := m_at_of r_L_law (by decide +kernel)
theorem i_L_law_1645 : m_at k_L_law 1645 = some (.iconst 1, 1, 0) := m_at_of r_L_law (by decide +kernel)
theorem i_L_law_1646 : m_at k_L_law 1646 = some (.iadd, 1, 0) := m_at_of r_L_law (by decide +kernel)
theorem i_L_law_1647 : m_at k_L_law 1647 = some (.iaload, 1, 0) := m_at_of r_L_law (by decide +kernel)
theorem i_L_law_1648 : m_at k_L_law 1648 = some (.invokevirtual 208, 3, 94) := m_at_of r_L_law (by decide +kernel)
theorem i_L_law_1651 : m_at k_L_law 1651 = some (.aload_n 2, 1, 0) := m_at_of r_L_law (by decide +kernel)
theorem i_L_law_1652 : m_at k_L_law 1652 = some (.aload_n 0, 1, 0) := m_at_of r_L_law (by decide +kernel)
theorem i_L_law_1653 : m_at k_L_law 1653 = some (.iload_n 3, 1, 0) := m_at_of r_L_law (by decide +kernel)
theorem i_L_law_1654 : m_at k_L_law 1654 = some (.iconst 1, 1, 0) := m_at_of r_L_law (by decide +kernel)
theorem i_L_law_1655 : m_at k_L_law 1655 = some (.iadd, 1, 0) := m_at_of r_L_law (by decide +kernel)
theorem i_L_law_1656 : m_at k_L_law 1656 = some (.iaload, 1, 0) := m_at_of r_L_law (by decide +kernel)
theorem i_L_law_1657 : m_at k_L_law 1657 = some (.invokevirtual 211, 3, 95) := m_at_of r_L_law (by decide +kernel)
theorem i_L_law_1660 : m_at k_L_law 1660 = some (.if_icmp .eq (5), 3, 0) := m_at_of r_L_law (by decide +kernel)
theorem i_L_law_1663 : m_at k_L_law 1663 = some (.iconst 0, 1, 0) := m_at_of r_L_law (by decide +kernel)
theorem i_L_law_1664 : m_at k_L_law 1664 = some (.ireturn, 1, 0) := m_at_of r_L_law (by decide +kernel)
theorem i_L_law_1665 : m_at k_L_law 1665 = some (.iinc 3 (8), 3, 0) := m_at_of r_L_law (by decide +kernel)
theorem i_L_law_1668 : m_at k_L_law 1668 = some (.goto (-1650), 3, 0) := m_at_of r_L_law (by decide +kernel)
theorem i_L_law_1671 : m_at k_L_law 1671 = some (.iconst 1, 1, 0) := m_at_of r_L_law (by decide +kernel)
theorem i_L_law_1672 : m_at k_L_law 1672 = some (.ireturn, 1, 0) := m_at_of r_L_law (by decide +kernel)
set_option maxRecDepth 20000 in
set_option maxHeartbeats 1000000 in
theorem E_L_law (x : m_X) (s : m_H) (r0 : Nat) : m_M x k_L_law [.ref r0] s = if s.length < 900 then (m_bV (m_M x k_G_init [.ref s.length] (s ++ [.inr (10, m_nf 10)])) fun s4 => if s4.length < 900 then (m_bV (m_M x k_M_init [.ref s4.length] (s4 ++ [.inr (11, m_nf 11)])) fun s12 => m_D x 100 k_L_law 18 [some (.ref r0), some (.ref s.length), some (.ref s4.length), some (.int 0)] [] s12) else none) else none := by
  refine e_M0 (L0 := [some (.ref r0), none, none, none]) rfl (q_L_law _) rfl ?_
  refine e_new i_L_law_0 rfl ?_
  refine e_dup i_L_law_3 rfl ?_
  refine e_callV (as := [.ref s.length]) (st' := [.ref s.length]) i_L_law_4 lm_0 (Or.inr (Or.inr ⟨rfl, rfl⟩)) w_G_init rfl rfl rfl (Nat.le_of_ble_eq_true rfl) (Nat.le_of_ble_eq_true rfl) (m_rlt (q_G_init _) (by decide)) rfl (fun s4 => ?_)
  refine e_astore_n (L' := [some (.ref r0), some (.ref s.length), none, none]) i_L_law_7 (of_decide_eq_true rfl) rfl ?_
  refine e_new i_L_law_8 rfl ?_
  refine e_dup i_L_law_11 rfl ?_
  refine e_callV (as := [.ref s4.length]) (st' := [.ref s4.length]) i_L_law_12 lm_1 (Or.inr (Or.inr ⟨rfl, rfl⟩)) w_M_init rfl rfl rfl (Nat.le_of_ble_eq_true rfl) (Nat.le_of_ble_eq_true rfl) (m_rlt (q_M_init _) (by decide)) rfl (fun s12 => ?_)
  refine e_astore_n (L' := [some (.ref r0), some (.ref s.length), some (.ref s4.length), none]) i_L_law_15 (of_decide_eq_true rfl) rfl ?_
  refine e_iconst (v := 0) i_L_law_16 (by decide) ?_
  refine e_istore_n (L' := [some (.ref r0), some (.ref s.length), some (.ref s4.length), some (.int 0)]) i_L_law_17 (of_decide_eq_true rfl) rfl ?_
  exact rfl
set_option maxRecDepth 20000 in
set_option maxHeartbeats 1000000 in
theorem E_L_law_18 (x : m_X) (ρ : Nat) (hρ : 100 ≤ ρ) (s : m_H) (r0 : Nat) (r1 : Nat) (r2 : Nat) (n3 : Int32)  : m_D x ρ k_L_law 18 [some (.ref r0), some (.ref r1), some (.ref r2), some (.int n3)] [] s = (m_len x s r0).bind fun v20 => if (v20 - (8 : Int32)) < n3 then (some (some (.int 1), s)) else (m_ia x s r0 n3).bind fun v29 => if (v29 &&& (63 : Int32)) = 0 then ((m_ia x s r0 (n3 + (1 : Int32))).bind fun v241 => (m_ia x s r0 (n3 + (2 : Int32))).bind fun v246 => m_bI (m_M x k_G_one [.ref r1, .int v241, .int v246] s) fun v247 s247 => (m_ia x s247 r0 (n3 + (1 : Int32))).bind fun v255 => (m_ia x s247 r0 (n3 + (2 : Int32))).bind fun v260 => m_bI (m_M x k_M_one [.ref r2, .int v255, .int v260] s247) fun v261 s261 => if v247 = v261 then (m_D x ρ k_L_law 18 [some (.ref r0), some (.ref r1), some (.ref r2), some (.int (n3 + (8 : Int32)))] [] s261) else some (some (.int 0), s261)) else if (v29 &&& (63 : Int32)) = 1 then ((m_ia x s r0 (n3 + (1 : Int32))).bind fun v274 => (m_ia x s r0 (n3 + (2 : Int32))).bind fun v279 => (m_ia x s r0 (n3 + (3 : Int32))).bind fun v284 => (m_ia x s r0 (n3 + (4 : Int32))).bind fun v289 => (m_ia x s r0 (n3 + (5 : Int32))).bind fun v294 => m_bI (m_M x k_G_feed [.ref r1, .int v274, .int v279, .int v284, .int v289, .int v294] s) fun v295 s295 => (m_ia x s295 r0 (n3 + (1 : Int32))).bind fun v303 => (m_ia x s295 r0 (n3 + (2 : Int32))).bind fun v308 => (m_ia x s295 r0 (n3 + (3 : Int32))).bind fun v313 => (m_ia x s295 r0 (n3 + (4 : Int32))).bind fun v318 => (m_ia x s295 r0 (n3 + (5 : Int32))).bind fun v323 => m_bI (m_M x k_M_feed [.ref r2, .int v303, .int v308, .int v313, .int v318, .int v323] s295) fun v324 s324 => if v295 = v324 then (m_D x ρ k_L_law 18 [some (.ref r0), some (.ref r1), some (.ref r2), some (.int (n3 + (8 : Int32)))] [] s324) else some (some (.int 0), s324)) else if (v29 &&& (63 : Int32)) = 2 then ((m_ia x s r0 (n3 + (1 : Int32))).bind fun v337 => m_bI (m_M x k_G_end [.ref r1, .int v337] s) fun v338 s338 => (m_ia x s338 r0 (n3 + (1 : Int32))).bind fun v346 => m_bI (m_M x k_M_end [.ref r2, .int v346] s338) fun v347 s347 => if v338 = v347 then (m_D x ρ k_L_law 18 [some (.ref r0), some (.ref r1), some (.ref r2), some (.int (n3 + (8 : Int32)))] [] s347) else some (some (.int 0), s347)) else if (v29 &&& (63 : Int32)) = 3 then (m_bI (m_M x k_G_text [.ref r1] s) fun v356 s356 => m_bI (m_M x k_M_text [.ref r2] s356) fun v360 s360 => if v356 = v360 then (m_D x ρ k_L_law 18 [some (.ref r0), some (.ref r1), some (.ref r2), some (.int (n3 + (8 : Int32)))] [] s360) else some (some (.int 0), s360)) else if (v29 &&& (63 : Int32)) = 4 then ((m_ia x s r0 (n3 + (1 : Int32))).bind fun v373 => m_bI (m_M x k_G_fault [.ref r1, .int v373] s) fun v374 s374 => (m_ia x s374 r0 (n3 + (1 : Int32))).bind fun v382 => m_bI (m_M x k_M_fault [.ref r2, .int v382] s374) fun v383 s383 => if v374 = v383 then (m_D x ρ k_L_law 18 [some (.ref r0), some (.ref r1), some (.ref r2), some (.int (n3 + (8 : Int32)))] [] s383) else some (some (.int 0), s383)) else if (v29 &&& (63 : Int32)) = 5 then ((m_ia x s r0 (n3 + (1 : Int32))).bind fun v396 => m_bI (m_M x k_G_by [.ref r1, .int v396] s) fun v397 s397 => (m_ia x s397 r0 (n3 + (1 : Int32))).bind fun v405 => m_bI (m_M x k_M_by [.ref r2, .int v405] s397) fun v406 s406 => if v397 = v406 then (m_D x ρ k_L_law 18 [some (.ref r0), some (.ref r1), some (.ref r2), some (.int (n3 + (8 : Int32)))] [] s406) else some (some (.int 0), s406)) else if (v29 &&& (63 : Int32)) = 6 then ((m_ia x s r0 (n3 + (1 : Int32))).bind fun v419 => (m_ia x s r0 (n3 + (2 : Int32))).bind fun v424 => (m_ia x s r0 (n3 + (3 : Int32))).bind fun v429 => (m_ia x s r0 (n3 + (4 : Int32))).bind fun v434 => (m_ia x s r0 (n3 + (5 : Int32))).bind fun v439 => m_bI (m_M x k_G_bargain [.ref r1, .int v419, .int v424, .int v429, .int v434, .int v439] s) fun v440 s440 => (m_ia x s440 r0 (n3 + (1 : Int32))).bind fun v448 => (m_ia x s440 r0 (n3 + (2 : Int32))).bind fun v453 => (m_ia x s440 r0 (n3 + (3 : Int32))).bind fun v458 => (m_ia x s440 r0 (n3 + (4 : Int32))).bind fun v463 => (m_ia x s440 r0 (n3 + (5 : Int32))).bind fun v468 => m_bI (m_M x k_M_bargain [.ref r2, .int v448, .int v453, .int v458, .int v463, .int v468] s440) fun v469 s469 => if v440 = v469 then (m_D x ρ k_L_law 18 [some (.ref r0), some (.ref r1), some (.ref r2), some (.int (n3 + (8 : Int32)))] [] s469) else some (some (.int 0), s469)) else if (v29 &&& (63 : Int32)) = 7 then ((m_ia x s r0 (n3 + (1 : Int32))).bind fun v482 => (m_ia x s r0 (n3 + (2 : Int32))).bind fun v487 => m_bI (m_M x k_G_work [.ref r1, .int v482, .int v487] s) fun v488 s488 => (m_ia x s488 r0 (n3 + (1 : Int32))).bind fun v496 => (m_ia x s488 r0 (n3 + (2 : Int32))).bind fun v501 => m_bI (m_M x k_M_work [.ref r2, .int v496, .int v501] s488) fun v502 s502 => if v488 = v502 then (m_D x ρ k_L_law 18 [some (.ref r0), some (.ref r1), some (.ref r2), some (.int (n3 + (8 : Int32)))] [] s502) else some (some (.int 0), s502)) else if (v29 &&& (63 : Int32)) = 8 then ((m_ia x s r0 (n3 + (1 : Int32))).bind fun v515 => (m_ia x s r0 (n3 + (2 : Int32))).bind fun v520 => m_bI (m_M x k_G_pass [.ref r1, .int v515, .int v520] s) fun v521 s521 => (m_ia x s521 r0 (n3 + (1 : Int32))).bind fun v529 => (m_ia x s521 r0 (n3 + (2 : Int32))).bind fun v534 => m_bI (m_M x k_M_pass [.ref r2, .int v529, .int v534] s521) fun v535 s535 => if v521 = v535 then (m_D x ρ k_L_law 18 [some (.ref r0), some (.ref r1), some (.ref r2), some (.int (n3 + (8 : Int32)))] [] s535) else some (some (.int 0), s535)) else if (v29 &&& (63 : Int32)) = 9 then ((m_ia x s r0 (n3 + (1 : Int32))).bind fun v548 => m_bI (m_M x k_G_lose [.ref r1, .int v548] s) fun v549 s549 => (m_ia x s549 r0 (n3 + (1 : Int32))).bind fun v557 => m_bI (m_M x k_M_lose [.ref r2, .int v557] s549) fun v558 s558 => if v549 = v558 then (m_D x ρ k_L_law 18 [some (.ref r0), some (.ref r1), some (.ref r2), some (.int (n3 + (8 : Int32)))] [] s558) else some (some (.int 0), s558)) else if (v29 &&& (63 : Int32)) = 10 then ((m_ia x s r0 (n3 + (1 : Int32))).bind fun v571 => (m_ia x s r0 (n3 + (2 : Int32))).bind fun v576 => m_bI (m_M x k_G_find [.ref r1, .int v571, .int v576] s) fun v577 s577 => (m_ia x s577 r0 (n3 + (1 : Int32))).bind fun v585 => (m_ia x s577 r0 (n3 + (2 : Int32))).bind fun v590 => m_bI (m_M x k_M_find [.ref r2, .int v585, .int v590] s577) fun v591 s591 => if v577 = v591 then (m_D x ρ k_L_law 18 [some (.ref r0), some (.ref r1), some (.ref r2), some (.int (n3 + (8 : Int32)))] [] s591) else some (some (.int 0), s591)) else if (v29 &&& (63 : Int32)) = 11 then ((m_ia x s r0 (n3 + (1 : Int32))).bind fun v604 => m_bI (m_M x k_G_pledge [.ref r1, .int v604] s) fun v605 s605 => (m_ia x s605 r0 (n3 + (1 : Int32))).bind fun v613 => m_bI (m_M x k_M_pledge [.ref r2, .int v613] s605) fun v614 s614 => if v605 = v614 then (m_D x ρ k_L_law 18 [some (.ref r0), some (.ref r1), some (.ref r2), some (.int (n3 + (8 : Int32)))] [] s614) else some (some (.int 0), s614)) else if (v29 &&& (63 : Int32)) = 12 then ((m_ia x s r0 (n3 + (1 : Int32))).bind fun v627 => m_bI (m_M x k_G_redeem [.ref r1, .int v627] s) fun v628 s628 => (m_ia x s628 r0 (n3 + (1 : Int32))).bind fun v636 => m_bI (m_M x k_M_redeem [.ref r2, .int v636] s628) fun v637 s637 => if v628 = v637 then (m_D x ρ k_L_law 18 [some (.ref r0), some (.ref r1), some (.ref r2), some (.int (n3 + (8 : Int32)))] [] s637) else some (some (.int 0), s637)) else if (v29 &&& (63 : Int32)) = 13 then ((m_ia x s r0 (n3 + (1 : Int32))).bind fun v650 => m_bI (m_M x k_G_day [.ref r1, .int v650] s) fun v651 s651 => (m_ia x s651 r0 (n3 + (1 : Int32))).bind fun v659 => m_bI (m_M x k_M_day [.ref r2, .int v659] s651) fun v660 s660 => if v651 = v660 then (m_D x ρ k_L_law 18 [some (.ref r0), some (.ref r1), some (.ref r2), some (.int (n3 + (8 : Int32)))] [] s660) else some (some (.int 0), s660)) else if (v29 &&& (63 : Int32)) = 14 then ((m_ia x s r0 (n3 + (1 : Int32))).bind fun v673 => m_bI (m_M x k_G_played [.ref r1, .int v673] s) fun v674 s674 => (m_ia x s674 r0 (n3 + (1 : Int32))).bind fun v682 => m_bI (m_M x k_M_played [.ref r2, .int v682] s674) fun v683 s683 => if v674 = v683 then (m_D x ρ k_L_law 18 [some (.ref r0), some (.ref r1), some (.ref r2), some (.int (n3 + (8 : Int32)))] [] s683) else some (some (.int 0), s683)) else if (v29 &&& (63 : Int32)) = 15 then ((m_ia x s r0 (n3 + (1 : Int32))).bind fun v696 => (m_ia x s r0 (n3 + (2 : Int32))).bind fun v701 => m_bI (m_M x k_G_winters [.ref r1, .int v696, .int v701] s) fun v702 s702 => (m_ia x s702 r0 (n3 + (1 : Int32))).bind fun v710 => (m_ia x s702 r0 (n3 + (2 : Int32))).bind fun v715 => m_bI (m_M x k_M_winters [.ref r2, .int v710, .int v715] s702) fun v716 s716 => if v702 = v716 then (m_D x ρ k_L_law 18 [some (.ref r0), some (.ref r1), some (.ref r2), some (.int (n3 + (8 : Int32)))] [] s716) else some (some (.int 0), s716)) else if (v29 &&& (63 : Int32)) = 16 then (m_bI (m_M x k_G_undo [.ref r1] s) fun v725 s725 => m_bI (m_M x k_M_undo [.ref r2] s725) fun v729 s729 => if v725 = v729 then (m_D x ρ k_L_law 18 [some (.ref r0), some (.ref r1), some (.ref r2), some (.int (n3 + (8 : Int32)))] [] s729) else some (some (.int 0), s729)) else if (v29 &&& (63 : Int32)) = 17 then ((m_ia x s r0 (n3 + (1 : Int32))).bind fun v742 => (m_ia x s r0 (n3 + (2 : Int32))).bind fun v747 => m_bI (m_M x k_G_of [.ref r1, .int v742, .int v747] s) fun v748 s748 => (m_ia x s748 r0 (n3 + (1 : Int32))).bind fun v756 => (m_ia x s748 r0 (n3 + (2 : Int32))).bind fun v761 => m_bI (m_M x k_M_of [.ref r2, .int v756, .int v761] s748) fun v762 s762 => if v748 = v762 then (m_D x ρ k_L_law 18 [some (.ref r0), some (.ref r1), some (.ref r2), some (.int (n3 + (8 : Int32)))] [] s762) else some (some (.int 0), s762)) else if (v29 &&& (63 : Int32)) = 18 then ((m_ia x s r0 (n3 + (1 : Int32))).bind fun v775 => (m_ia x s r0 (n3 + (2 : Int32))).bind fun v780 => m_bI (m_M x k_G_ofGlove [.ref r1, .int v775, .int v780] s) fun v781 s781 => (m_ia x s781 r0 (n3 + (1 : Int32))).bind fun v789 => (m_ia x s781 r0 (n3 + (2 : Int32))).bind fun v794 => m_bI (m_M x k_M_ofGlove [.ref r2, .int v789, .int v794] s781) fun v795 s795 => if v781 = v795 then (m_D x ρ k_L_law 18 [some (.ref r0), some (.ref r1), some (.ref r2), some (.int (n3 + (8 : Int32)))] [] s795) else some (some (.int 0), s795)) else if (v29 &&& (63 : Int32)) = 19 then ((m_ia x s r0 (n3 + (1 : Int32))).bind fun v808 => m_bI (m_M x k_G_is [.ref r1, .int v808] s) fun v809 s809 => (m_ia x s809 r0 (n3 + (1 : Int32))).bind fun v817 => m_bI (m_M x k_M_is [.ref r2, .int v817] s809) fun v818 s818 => if v809 = v818 then (m_D x ρ k_L_law 18 [some (.ref r0), some (.ref r1), some (.ref r2), some (.int (n3 + (8 : Int32)))] [] s818) else some (some (.int 0), s818)) else if (v29 &&& (63 : Int32)) = 20 then ((m_ia x s r0 (n3 + (1 : Int32))).bind fun v831 => (m_ia x s r0 (n3 + (2 : Int32))).bind fun v836 => m_bI (m_M x k_G_book [.ref r1, .int v831, .int v836] s) fun v837 s837 => (m_ia x s837 r0 (n3 + (1 : Int32))).bind fun v845 => (m_ia x s837 r0 (n3 + (2 : Int32))).bind fun v850 => m_bI (m_M x k_M_book [.ref r2, .int v845, .int v850] s837) fun v851 s851 => if v837 = v851 then (m_D x ρ k_L_law 18 [some (.ref r0), some (.ref r1), some (.ref r2), some (.int (n3 + (8 : Int32)))] [] s851) else some (some (.int 0), s851)) else if (v29 &&& (63 : Int32)) = 21 then ((m_ia x s r0 (n3 + (1 : Int32))).bind fun v864 => (m_ia x s r0 (n3 + (2 : Int32))).bind fun v869 => (m_ia x s r0 (n3 + (3 : Int32))).bind fun v874 => m_bI (m_M x k_G_foretold [.ref r1, .int v864, .int v869, .int v874] s) fun v875 s875 => (m_ia x s875 r0 (n3 + (1 : Int32))).bind fun v883 => (m_ia x s875 r0 (n3 + (2 : Int32))).bind fun v888 => (m_ia x s875 r0 (n3 + (3 : Int32))).bind fun v893 => m_bI (m_M x k_M_foretold [.ref r2, .int v883, .int v888, .int v893] s875) fun v894 s894 => if v875 = v894 then (m_D x ρ k_L_law 18 [some (.ref r0), some (.ref r1), some (.ref r2), some (.int (n3 + (8 : Int32)))] [] s894) else some (some (.int 0), s894)) else if (v29 &&& (63 : Int32)) = 22 then ((m_ia x s r0 (n3 + (1 : Int32))).bind fun v907 => m_bI (m_M x k_G_firstFine [.ref r1, .int v907] s) fun v908 s908 => (m_ia x s908 r0 (n3 + (1 : Int32))).bind fun v916 => m_bI (m_M x k_M_firstFine [.ref r2, .int v916] s908) fun v917 s917 => if v908 = v917 then (m_D x ρ k_L_law 18 [some (.ref r0), some (.ref r1), some (.ref r2), some (.int (n3 + (8 : Int32)))] [] s917) else some (some (.int 0), s917)) else if (v29 &&& (63 : Int32)) = 23 then (m_bI (m_M x k_G_free [.ref r1] s) fun v926 s926 => m_bI (m_M x k_M_free [.ref r2] s926) fun v930 s930 => if v926 = v930 then (m_D x ρ k_L_law 18 [some (.ref r0), some (.ref r1), some (.ref r2), some (.int (n3 + (8 : Int32)))] [] s930) else some (some (.int 0), s930)) else if (v29 &&& (63 : Int32)) = 24 then ((m_ia x s r0 (n3 + (1 : Int32))).bind fun v943 => (m_ia x s r0 (n3 + (2 : Int32))).bind fun v948 => m_bI (m_M x k_G_price [.ref r1, .int v943, .int v948] s) fun v949 s949 => (m_ia x s949 r0 (n3 + (1 : Int32))).bind fun v957 => (m_ia x s949 r0 (n3 + (2 : Int32))).bind fun v962 => m_bI (m_M x k_M_price [.ref r2, .int v957, .int v962] s949) fun v963 s963 => if v949 = v963 then (m_D x ρ k_L_law 18 [some (.ref r0), some (.ref r1), some (.ref r2), some (.int (n3 + (8 : Int32)))] [] s963) else some (some (.int 0), s963)) else if (v29 &&& (63 : Int32)) = 25 then ((m_ia x s r0 (n3 + (1 : Int32))).bind fun v976 => (m_ia x s r0 (n3 + (2 : Int32))).bind fun v981 => m_bI (m_M x k_G_order [.ref r1, .int v976, .int v981] s) fun v982 s982 => (m_ia x s982 r0 (n3 + (1 : Int32))).bind fun v990 => (m_ia x s982 r0 (n3 + (2 : Int32))).bind fun v995 => m_bI (m_M x k_M_order [.ref r2, .int v990, .int v995] s982) fun v996 s996 => if v982 = v996 then (m_D x ρ k_L_law 18 [some (.ref r0), some (.ref r1), some (.ref r2), some (.int (n3 + (8 : Int32)))] [] s996) else some (some (.int 0), s996)) else if (v29 &&& (63 : Int32)) = 26 then ((m_ia x s r0 (n3 + (1 : Int32))).bind fun v1009 => (m_ia x s r0 (n3 + (2 : Int32))).bind fun v1014 => m_bI (m_M x k_G_whose [.ref r1, .int v1009, .int v1014] s) fun v1015 s1015 => (m_ia x s1015 r0 (n3 + (1 : Int32))).bind fun v1023 => (m_ia x s1015 r0 (n3 + (2 : Int32))).bind fun v1028 => m_bI (m_M x k_M_whose [.ref r2, .int v1023, .int v1028] s1015) fun v1029 s1029 => if v1015 = v1029 then (m_D x ρ k_L_law 18 [some (.ref r0), some (.ref r1), some (.ref r2), some (.int (n3 + (8 : Int32)))] [] s1029) else some (some (.int 0), s1029)) else if (v29 &&& (63 : Int32)) = 27 then ((m_ia x s r0 (n3 + (1 : Int32))).bind fun v1042 => m_bI (m_M x k_G_test [.ref r1, .int v1042] s) fun v1043 s1043 => (m_ia x s1043 r0 (n3 + (1 : Int32))).bind fun v1051 => m_bI (m_M x k_M_test [.ref r2, .int v1051] s1043) fun v1052 s1052 => if v1043 = v1052 then (m_D x ρ k_L_law 18 [some (.ref r0), some (.ref r1), some (.ref r2), some (.int (n3 + (8 : Int32)))] [] s1052) else some (some (.int 0), s1052)) else if (v29 &&& (63 : Int32)) = 28 then ((m_ia x s r0 (n3 + (1 : Int32))).bind fun v1065 => (m_ia x s r0 (n3 + (2 : Int32))).bind fun v1070 => if v1070 = 0 then (m_D x ρ k_L_law 1079 [some (.ref r0), some (.ref r1), some (.ref r2), some (.int n3)] [.int 0, .int v1065, .ref r1] s) else m_D x ρ k_L_law 1079 [some (.ref r0), some (.ref r1), some (.ref r2), some (.int n3)] [.int 1, .int v1065, .ref r1] s) else if (v29 &&& (63 : Int32)) = 29 then ((m_ia x s r0 (n3 + (1 : Int32))).bind fun v1114 => (m_ia x s r0 (n3 + (2 : Int32))).bind fun v1119 => m_bI (m_M x k_G_weds [.ref r1, .int v1114, .int v1119] s) fun v1120 s1120 => (m_ia x s1120 r0 (n3 + (1 : Int32))).bind fun v1128 => (m_ia x s1120 r0 (n3 + (2 : Int32))).bind fun v1133 => m_bI (m_M x k_M_weds [.ref r2, .int v1128, .int v1133] s1120) fun v1134 s1134 => if v1120 = v1134 then (m_D x ρ k_L_law 18 [some (.ref r0), some (.ref r1), some (.ref r2), some (.int (n3 + (8 : Int32)))] [] s1134) else some (some (.int 0), s1134)) else if (v29 &&& (63 : Int32)) = 30 then ((m_ia x s r0 (n3 + (1 : Int32))).bind fun v1147 => (m_ia x s r0 (n3 + (2 : Int32))).bind fun v1152 => (m_ia x s r0 (n3 + (3 : Int32))).bind fun v1157 => (m_ia x s r0 (n3 + (4 : Int32))).bind fun v1162 => (m_ia x s r0 (n3 + (5 : Int32))).bind fun v1167 => (m_ia x s r0 (n3 + (6 : Int32))).bind fun v1173 => (m_ia x s r0 (n3 + (7 : Int32))).bind fun v1179 => m_bI (m_M x k_G_unrest [.ref r1, .int v1147, .int v1152, .int v1157, .int v1162, .int v1167, .int v1173, .int v1179] s) fun v1180 s1180 => (m_ia x s1180 r0 (n3 + (1 : Int32))).bind fun v1188 => (m_ia x s1180 r0 (n3 + (2 : Int32))).bind fun v1193 => (m_ia x s1180 r0 (n3 + (3 : Int32))).bind fun v1198 => (m_ia x s1180 r0 (n3 + (4 : Int32))).bind fun v1203 => (m_ia x s1180 r0 (n3 + (5 : Int32))).bind fun v1208 => (m_ia x s1180 r0 (n3 + (6 : Int32))).bind fun v1214 => (m_ia x s1180 r0 (n3 + (7 : Int32))).bind fun v1220 => m_bI (m_M x k_M_unrest [.ref r2, .int v1188, .int v1193, .int v1198, .int v1203, .int v1208, .int v1214, .int v1220] s1180) fun v1221 s1221 => if v1180 = v1221 then (m_D x ρ k_L_law 18 [some (.ref r0), some (.ref r1), some (.ref r2), some (.int (n3 + (8 : Int32)))] [] s1221) else some (some (.int 0), s1221)) else if (v29 &&& (63 : Int32)) = 31 then ((m_ia x s r0 (n3 + (1 : Int32))).bind fun v1234 => m_bI (m_M x k_G_claim [.ref r1, .int v1234] s) fun v1235 s1235 => (m_ia x s1235 r0 (n3 + (1 : Int32))).bind fun v1243 => m_bI (m_M x k_M_claim [.ref r2, .int v1243] s1235) fun v1244 s1244 => if v1235 = v1244 then (m_D x ρ k_L_law 18 [some (.ref r0), some (.ref r1), some (.ref r2), some (.int (n3 + (8 : Int32)))] [] s1244) else some (some (.int 0), s1244)) else if (v29 &&& (63 : Int32)) = 32 then ((m_ia x s r0 (n3 + (1 : Int32))).bind fun v1257 => (m_ia x s r0 (n3 + (2 : Int32))).bind fun v1262 => (m_ia x s r0 (n3 + (3 : Int32))).bind fun v1267 => if v1267 = 0 then (m_D x ρ k_L_law 1276 [some (.ref r0), some (.ref r1), some (.ref r2), some (.int n3)] [.int 0, .int v1262, .int v1257, .ref r1] s) else m_D x ρ k_L_law 1276 [some (.ref r0), some (.ref r1), some (.ref r2), some (.int n3)] [.int 1, .int v1262, .int v1257, .ref r1] s) else if (v29 &&& (63 : Int32)) = 33 then ((m_ia x s r0 (n3 + (1 : Int32))).bind fun v1316 => (m_ia x s r0 (n3 + (2 : Int32))).bind fun v1321 => if v1321 = 0 then (m_D x ρ k_L_law 1330 [some (.ref r0), some (.ref r1), some (.ref r2), some (.int n3)] [.int 0, .int v1316, .ref r1] s) else m_D x ρ k_L_law 1330 [some (.ref r0), some (.ref r1), some (.ref r2), some (.int n3)] [.int 1, .int v1316, .ref r1] s) else if (v29 &&& (63 : Int32)) = 34 then ((m_ia x s r0 (n3 + (1 : Int32))).bind fun v1365 => (m_ia x s r0 (n3 + (2 : Int32))).bind fun v1370 => m_bI (m_M x k_G_chest [.ref r1, .int v1365, .int v1370] s) fun v1371 s1371 => (m_ia x s1371 r0 (n3 + (1 : Int32))).bind fun v1379 => (m_ia x s1371 r0 (n3 + (2 : Int32))).bind fun v1384 => m_bI (m_M x k_M_chest [.ref r2, .int v1379, .int v1384] s1371) fun v1385 s1385 => if v1371 = v1385 then (m_D x ρ k_L_law 18 [some (.ref r0), some (.ref r1), some (.ref r2), some (.int (n3 + (8 : Int32)))] [] s1385) else some (some (.int 0), s1385)) else if (v29 &&& (63 : Int32)) = 35 then ((m_ia x s r0 (n3 + (1 : Int32))).bind fun v1398 => m_bI (m_M x k_G_lives [.ref r1, .int v1398] s) fun v1399 s1399 => (m_ia x s1399 r0 (n3 + (1 : Int32))).bind fun v1407 => m_bI (m_M x k_M_lives [.ref r2, .int v1407] s1399) fun v1408 s1408 => if v1399 = v1408 then (m_D x ρ k_L_law 18 [some (.ref r0), some (.ref r1), some (.ref r2), some (.int (n3 + (8 : Int32)))] [] s1408) else some (some (.int 0), s1408)) else if (v29 &&& (63 : Int32)) = 36 then ((m_ia x s r0 (n3 + (1 : Int32))).bind fun v1421 => (m_ia x s r0 (n3 + (2 : Int32))).bind fun v1426 => (m_ia x s r0 (n3 + (3 : Int32))).bind fun v1431 => (m_ia x s r0 (n3 + (4 : Int32))).bind fun v1436 => (m_ia x s r0 (n3 + (5 : Int32))).bind fun v1441 => if v1441 = 0 then (m_D x ρ k_L_law 1450 [some (.ref r0), some (.ref r1), some (.ref r2), some (.int n3)] [.int 0, .int v1436, .int v1431, .int v1426, .int v1421, .ref r1] s) else m_D x ρ k_L_law 1450 [some (.ref r0), some (.ref r1), some (.ref r2), some (.int n3)] [.int 1, .int v1436, .int v1431, .int v1426, .int v1421, .ref r1] s) else if (v29 &&& (63 : Int32)) = 37 then (m_bI (m_M x k_G_ring [.ref r1] s) fun v1496 s1496 => m_bI (m_M x k_M_ring [.ref r2] s1496) fun v1500 s1500 => if v1496 = v1500 then (m_D x ρ k_L_law 18 [some (.ref r0), some (.ref r1), some (.ref r2), some (.int (n3 + (8 : Int32)))] [] s1500) else some (some (.int 0), s1500)) else if (v29 &&& (63 : Int32)) = 38 then (m_bI (m_M x k_G_richest [.ref r1] s) fun v1509 s1509 => m_bI (m_M x k_M_richest [.ref r2] s1509) fun v1513 s1513 => if v1509 = v1513 then (m_D x ρ k_L_law 18 [some (.ref r0), some (.ref r1), some (.ref r2), some (.int (n3 + (8 : Int32)))] [] s1513) else some (some (.int 0), s1513)) else if (v29 &&& (63 : Int32)) = 39 then ((m_ia x s r0 (n3 + (1 : Int32))).bind fun v1526 => (m_ia x s r0 (n3 + (2 : Int32))).bind fun v1531 => m_bI (m_M x k_G_grown [.ref r1, .int v1526, .int v1531] s) fun v1532 s1532 => (m_ia x s1532 r0 (n3 + (1 : Int32))).bind fun v1540 => (m_ia x s1532 r0 (n3 + (2 : Int32))).bind fun v1545 => m_bI (m_M x k_M_grown [.ref r2, .int v1540, .int v1545] s1532) fun v1546 s1546 => if v1532 = v1546 then (m_D x ρ k_L_law 18 [some (.ref r0), some (.ref r1), some (.ref r2), some (.int (n3 + (8 : Int32)))] [] s1546) else some (some (.int 0), s1546)) else if (v29 &&& (63 : Int32)) = 40 then (m_bI (m_M x k_G_whoseLaw [.ref r1] s) fun v1555 s1555 => m_bI (m_M x k_M_whoseLaw [.ref r2] s1555) fun v1559 s1559 => if v1555 = v1559 then (m_D x ρ k_L_law 18 [some (.ref r0), some (.ref r1), some (.ref r2), some (.int (n3 + (8 : Int32)))] [] s1559) else some (some (.int 0), s1559)) else if (v29 &&& (63 : Int32)) = 41 then ((m_ia x s r0 (n3 + (1 : Int32))).bind fun v1572 => m_bI (m_M x k_G_fined [.ref r1, .int v1572] s) fun v1573 s1573 => (m_ia x s1573 r0 (n3 + (1 : Int32))).bind fun v1581 => m_bI (m_M x k_M_fined [.ref r2, .int v1581] s1573) fun v1582 s1582 => if v1573 = v1582 then (m_D x ρ k_L_law 18 [some (.ref r0), some (.ref r1), some (.ref r2), some (.int (n3 + (8 : Int32)))] [] s1582) else some (some (.int 0), s1582)) else if (v29 &&& (63 : Int32)) = 42 then (m_bI (m_M x k_G_pairs [.ref r1] s) fun v1591 s1591 => m_bI (m_M x k_M_pairs [.ref r2] s1591) fun v1595 s1595 => if v1591 = v1595 then (m_D x ρ k_L_law 18 [some (.ref r0), some (.ref r1), some (.ref r2), some (.int (n3 + (8 : Int32)))] [] s1595) else some (some (.int 0), s1595)) else if (v29 &&& (63 : Int32)) = 43 then (m_bI (m_M x k_G_coldest [.ref r1] s) fun v1604 s1604 => m_bI (m_M x k_M_coldest [.ref r2] s1604) fun v1608 s1608 => if v1604 = v1608 then (m_D x ρ k_L_law 18 [some (.ref r0), some (.ref r1), some (.ref r2), some (.int (n3 + (8 : Int32)))] [] s1608) else some (some (.int 0), s1608)) else if (v29 &&& (63 : Int32)) = 44 then (m_bI (m_M x k_G_image [.ref r1] s) fun v1617 s1617 => m_bI (m_M x k_M_image [.ref r2] s1617) fun v1621 s1621 => if v1617 = v1621 then (m_D x ρ k_L_law 18 [some (.ref r0), some (.ref r1), some (.ref r2), some (.int (n3 + (8 : Int32)))] [] s1621) else some (some (.int 0), s1621)) else if (v29 &&& (63 : Int32)) = 45 then (m_bI (m_M x k_G_back [.ref r1] s) fun v1630 s1630 => m_bI (m_M x k_M_back [.ref r2] s1630) fun v1634 s1634 => if v1630 = v1634 then (m_D x ρ k_L_law 18 [some (.ref r0), some (.ref r1), some (.ref r2), some (.int (n3 + (8 : Int32)))] [] s1634) else some (some (.int 0), s1634)) else if (v29 &&& (63 : Int32)) = 46 then ((m_ia x s r0 (n3 + (1 : Int32))).bind fun v1647 => m_bI (m_M x k_G_about [.ref r1, .int v1647] s) fun v1648 s1648 => (m_ia x s1648 r0 (n3 + (1 : Int32))).bind fun v1656 => m_bI (m_M x k_M_about [.ref r2, .int v1656] s1648) fun v1657 s1657 => if v1648 = v1657 then (m_D x ρ k_L_law 18 [some (.ref r0), some (.ref r1), some (.ref r2), some (.int (n3 + (8 : Int32)))] [] s1657) else some (some (.int 0), s1657)) else m_D x ρ k_L_law 18 [some (.ref r0), some (.ref r1), some (.ref r2), some (.int (n3 + (8 : Int32)))] [] s := by
  refine e_iload_n i_L_law_18 rfl ?_
  refine e_aload_n i_L_law_19 rfl ?_
  refine e_alen i_L_law_20 (fun v20 => ?_)
  refine e_bipush (v := 8) i_L_law_21 (by decide) ?_
  refine e_isub i_L_law_23 ?_
  refine e_icmpgt (t := 1671) i_L_law_24 (by decide) ?_ ?_
  · refine e_iconst (v := 1) i_L_law_1671 (by decide) ?_
    exact e_iretZ i_L_law_1672 rfl (by decide)
  · refine e_aload_n i_L_law_27 rfl ?_
    refine e_iload_n i_L_law_28 rfl ?_
    refine e_iald i_L_law_29 (fun v29 => ?_)
    refine e_bipush (v := 63) i_L_law_30 (by decide) ?_
    refine e_iand i_L_law_32 ?_
    refine e_tsw (cs := [(0, 236), (1, 269), (2, 332), (3, 355), (4, 368), (5, 391), (6, 414), (7, 477), (8, 510), (9, 543), (10, 566), (11, 599), (12, 622), (13, 645), (14, 668), (15, 691), (16, 724), (17, 737), (18, 770), (19, 803), (20, 826), (21, 859), (22, 902), (23, 925), (24, 938), (25, 971), (26, 1004), (27, 1037), (28, 1060), (29, 1109), (30, 1142), (31, 1229), (32, 1252), (33, 1311), (34, 1360), (35, 1393), (36, 1416), (37, 1495), (38, 1508), (39, 1521), (40, 1554), (41, 1567), (42, 1590), (43, 1603), (44, 1616), (45, 1629), (46, 1642)]) (td := 1665) i_L_law_33 (by decide +kernel) ?_
    refine m_sw_c ?_ ?_
    · refine e_aload_n i_L_law_236 rfl ?_
      refine e_aload_n i_L_law_237 rfl ?_
      refine e_iload_n i_L_law_238 rfl ?_
      refine e_iconst (v := 1) i_L_law_239 (by decide) ?_
      refine e_iadd i_L_law_240 ?_
      refine e_iald i_L_law_241 (fun v241 => ?_)
      refine e_aload_n i_L_law_242 rfl ?_
      refine e_iload_n i_L_law_243 rfl ?_
      refine e_iconst (v := 2) i_L_law_244 (by decide) ?_
      refine e_iadd i_L_law_245 ?_
      refine e_iald i_L_law_246 (fun v246 => ?_)
      refine e_callI (as := [.ref r1, .int v241, .int v246]) (st' := []) i_L_law_247 lm_2 (Or.inr (Or.inl ⟨rfl, rfl⟩)) w_G_one rfl rfl rfl (Nat.le_of_ble_eq_true rfl) (Nat.le_of_ble_eq_true rfl) (m_rlt (q_G_one _) (Nat.lt_of_lt_of_le (by decide) hρ)) rfl (fun v247 s247 => ?_)
      refine e_aload_n i_L_law_250 rfl ?_
      refine e_aload_n i_L_law_251 rfl ?_
      refine e_iload_n i_L_law_252 rfl ?_
      refine e_iconst (v := 1) i_L_law_253 (by decide) ?_
      refine e_iadd i_L_law_254 ?_
      refine e_iald i_L_law_255 (fun v255 => ?_)
      refine e_aload_n i_L_law_256 rfl ?_
      refine e_iload_n i_L_law_257 rfl ?_
      refine e_iconst (v := 2) i_L_law_258 (by decide) ?_
      refine e_iadd i_L_law_259 ?_
      refine e_iald i_L_law_260 (fun v260 => ?_)
      refine e_callI (as := [.ref r2, .int v255, .int v260]) (st' := [.int v247]) i_L_law_261 lm_3 (Or.inr (Or.inl ⟨rfl, rfl⟩)) w_M_one rfl rfl rfl (Nat.le_of_ble_eq_true rfl) (Nat.le_of_ble_eq_true rfl) (m_rlt (q_M_one _) (Nat.lt_of_lt_of_le (by decide) hρ)) rfl (fun v261 s261 => ?_)
      refine e_icmpeq (t := 1665) i_L_law_264 (by decide) ?_ ?_
      · refine e_iinc (w := 8) (L' := [some (.ref r0), some (.ref r1), some (.ref r2), some (.int (n3 + (8 : Int32)))]) i_L_law_1665 rfl (of_decide_eq_true rfl) (by decide) rfl ?_
        refine e_goto (t := 18) i_L_law_1668 (by decide) ?_
        exact rfl
      · refine e_iconst (v := 0) i_L_law_267 (by decide) ?_
        exact e_iretZ i_L_law_268 rfl (by decide)
    refine m_sw_c ?_ ?_
    · refine e_aload_n i_L_law_269 rfl ?_
      refine e_aload_n i_L_law_270 rfl ?_
      refine e_iload_n i_L_law_271 rfl ?_
      refine e_iconst (v := 1) i_L_law_272 (by decide) ?_
      refine e_iadd i_L_law_273 ?_
      refine e_iald i_L_law_274 (fun v274 => ?_)
      refine e_aload_n i_L_law_275 rfl ?_
      refine e_iload_n i_L_law_276 rfl ?_
      refine e_iconst (v := 2) i_L_law_277 (by decide) ?_
      refine e_iadd i_L_law_278 ?_
      refine e_iald i_L_law_279 (fun v279 => ?_)
      refine e_aload_n i_L_law_280 rfl ?_
      refine e_iload_n i_L_law_281 rfl ?_
      refine e_iconst (v := 3) i_L_law_282 (by decide) ?_
      refine e_iadd i_L_law_283 ?_
      refine e_iald i_L_law_284 (fun v284 => ?_)
      refine e_aload_n i_L_law_285 rfl ?_
      refine e_iload_n i_L_law_286 rfl ?_
      refine e_iconst (v := 4) i_L_law_287 (by decide) ?_
      refine e_iadd i_L_law_288 ?_
      refine e_iald i_L_law_289 (fun v289 => ?_)
      refine e_aload_n i_L_law_290 rfl ?_
      refine e_iload_n i_L_law_291 rfl ?_
      refine e_iconst (v := 5) i_L_law_292 (by decide) ?_
      refine e_iadd i_L_law_293 ?_
      refine e_iald i_L_law_294 (fun v294 => ?_)
      refine e_callI (as := [.ref r1, .int v274, .int v279, .int v284, .int v289, .int v294]) (st' := []) i_L_law_295 lm_4 (Or.inr (Or.inl ⟨rfl, rfl⟩)) w_G_feed rfl rfl rfl (Nat.le_of_ble_eq_true rfl) (Nat.le_of_ble_eq_true rfl) (m_rlt (q_G_feed _) (Nat.lt_of_lt_of_le (by decide) hρ)) rfl (fun v295 s295 => ?_)
      refine e_aload_n i_L_law_298 rfl ?_
      refine e_aload_n i_L_law_299 rfl ?_
      refine e_iload_n i_L_law_300 rfl ?_
      refine e_iconst (v := 1) i_L_law_301 (by decide) ?_
      refine e_iadd i_L_law_302 ?_
      refine e_iald i_L_law_303 (fun v303 => ?_)
      refine e_aload_n i_L_law_304 rfl ?_
      refine e_iload_n i_L_law_305 rfl ?_
      refine e_iconst (v := 2) i_L_law_306 (by decide) ?_
      refine e_iadd i_L_law_307 ?_
      refine e_iald i_L_law_308 (fun v308 => ?_)
      refine e_aload_n i_L_law_309 rfl ?_
      refine e_iload_n i_L_law_310 rfl ?_
      refine e_iconst (v := 3) i_L_law_311 (by decide) ?_
      refine e_iadd i_L_law_312 ?_
      refine e_iald i_L_law_313 (fun v313 => ?_)
      refine e_aload_n i_L_law_314 rfl ?_
      refine e_iload_n i_L_law_315 rfl ?_
      refine e_iconst (v := 4) i_L_law_316 (by decide) ?_
      refine e_iadd i_L_law_317 ?_
      refine e_iald i_L_law_318 (fun v318 => ?_)
      refine e_aload_n i_L_law_319 rfl ?_
      refine e_iload_n i_L_law_320 rfl ?_
      refine e_iconst (v := 5) i_L_law_321 (by decide) ?_
      refine e_iadd i_L_law_322 ?_
      refine e_iald i_L_law_323 (fun v323 => ?_)
      refine e_callI (as := [.ref r2, .int v303, .int v308, .int v313, .int v318, .int v323]) (st' := [.int v295]) i_L_law_324 lm_5 (Or.inr (Or.inl ⟨rfl, rfl⟩)) w_M_feed rfl rfl rfl (Nat.le_of_ble_eq_true rfl) (Nat.le_of_ble_eq_true rfl) (m_rlt (q_M_feed _) (Nat.lt_of_lt_of_le (by decide) hρ)) rfl (fun v324 s324 => ?_)
      refine e_icmpeq (t := 1665) i_L_law_327 (by decide) ?_ ?_
      · refine e_iinc (w := 8) (L' := [some (.ref r0), some (.ref r1), some (.ref r2), some (.int (n3 + (8 : Int32)))]) i_L_law_1665 rfl (of_decide_eq_true rfl) (by decide) rfl ?_
        refine e_goto (t := 18) i_L_law_1668 (by decide) ?_
        exact rfl
      · refine e_iconst (v := 0) i_L_law_330 (by decide) ?_
        exact e_iretZ i_L_law_331 rfl (by decide)
    refine m_sw_c ?_ ?_
    · refine e_aload_n i_L_law_332 rfl ?_
      refine e_aload_n i_L_law_333 rfl ?_
      refine e_iload_n i_L_law_334 rfl ?_
      refine e_iconst (v := 1) i_L_law_335 (by decide) ?_
      refine e_iadd i_L_law_336 ?_
      refine e_iald i_L_law_337 (fun v337 => ?_)
      refine e_callI (as := [.ref r1, .int v337]) (st' := []) i_L_law_338 lm_6 (Or.inr (Or.inl ⟨rfl, rfl⟩)) w_G_end rfl rfl rfl (Nat.le_of_ble_eq_true rfl) (Nat.le_of_ble_eq_true rfl) (m_rlt (q_G_end _) (Nat.lt_of_lt_of_le (by decide) hρ)) rfl (fun v338 s338 => ?_)
      refine e_aload_n i_L_law_341 rfl ?_
      refine e_aload_n i_L_law_342 rfl ?_
      refine e_iload_n i_L_law_343 rfl ?_
      refine e_iconst (v := 1) i_L_law_344 (by decide) ?_
      refine e_iadd i_L_law_345 ?_
      refine e_iald i_L_law_346 (fun v346 => ?_)
      refine e_callI (as := [.ref r2, .int v346]) (st' := [.int v338]) i_L_law_347 lm_7 (Or.inr (Or.inl ⟨rfl, rfl⟩)) w_M_end rfl rfl rfl (Nat.le_of_ble_eq_true rfl) (Nat.le_of_ble_eq_true rfl) (m_rlt (q_M_end _) (Nat.lt_of_lt_of_le (by decide) hρ)) rfl (fun v347 s347 => ?_)
      refine e_icmpeq (t := 1665) i_L_law_350 (by decide) ?_ ?_
      · refine e_iinc (w := 8) (L' := [some (.ref r0), some (.ref r1), some (.ref r2), some (.int (n3 + (8 : Int32)))]) i_L_law_1665 rfl (of_decide_eq_true rfl) (by decide) rfl ?_
        refine e_goto (t := 18) i_L_law_1668 (by decide) ?_
        exact rfl
      · refine e_iconst (v := 0) i_L_law_353 (by decide) ?_
        exact e_iretZ i_L_law_354 rfl (by decide)
    refine m_sw_c ?_ ?_
    · refine e_aload_n i_L_law_355 rfl ?_
      refine e_callI (as := [.ref r1]) (st' := []) i_L_law_356 lm_8 (Or.inr (Or.inl ⟨rfl, rfl⟩)) w_G_text rfl rfl rfl (Nat.le_of_ble_eq_true rfl) (Nat.le_of_ble_eq_true rfl) (m_rlt (q_G_text _) (Nat.lt_of_lt_of_le (by decide) hρ)) rfl (fun v356 s356 => ?_)
      refine e_aload_n i_L_law_359 rfl ?_
      refine e_callI (as := [.ref r2]) (st' := [.int v356]) i_L_law_360 lm_9 (Or.inr (Or.inl ⟨rfl, rfl⟩)) w_M_text rfl rfl rfl (Nat.le_of_ble_eq_true rfl) (Nat.le_of_ble_eq_true rfl) (m_rlt (q_M_text _) (Nat.lt_of_lt_of_le (by decide) hρ)) rfl (fun v360 s360 => ?_)
      refine e_icmpeq (t := 1665) i_L_law_363 (by decide) ?_ ?_
      · refine e_iinc (w := 8) (L' := [some (.ref r0), some (.ref r1), some (.ref r2), some (.int (n3 + (8 : Int32)))]) i_L_law_1665 rfl (of_decide_eq_true rfl) (by decide) rfl ?_
        refine e_goto (t := 18) i_L_law_1668 (by decide) ?_
        exact rfl
      · refine e_iconst (v := 0) i_L_law_366 (by decide) ?_
        exact e_iretZ i_L_law_367 rfl (by decide)
    refine m_sw_c ?_ ?_
    · refine e_aload_n i_L_law_368 rfl ?_
      refine e_aload_n i_L_law_369 rfl ?_
      refine e_iload_n i_L_law_370 rfl ?_
      refine e_iconst (v := 1) i_L_law_371 (by decide) ?_
      refine e_iadd i_L_law_372 ?_
      refine e_iald i_L_law_373 (fun v373 => ?_)
      refine e_callI (as := [.ref r1, .int v373]) (st' := []) i_L_law_374 lm_10 (Or.inr (Or.inl ⟨rfl, rfl⟩)) w_G_fault rfl rfl rfl (Nat.le_of_ble_eq_true rfl) (Nat.le_of_ble_eq_true rfl) (m_rlt (q_G_fault _) (Nat.lt_of_lt_of_le (by decide) hρ)) rfl (fun v374 s374 => ?_)
      refine e_aload_n i_L_law_377 rfl ?_
      refine e_aload_n i_L_law_378 rfl ?_
      refine e_iload_n i_L_law_379 rfl ?_
      refine e_iconst (v := 1) i_L_law_380 (by decide) ?_
      refine e_iadd i_L_law_381 ?_
      refine e_iald i_L_law_382 (fun v382 => ?_)
      refine e_callI (as := [.ref r2, .int v382]) (st' := [.int v374]) i_L_law_383 lm_11 (Or.inr (Or.inl ⟨rfl, rfl⟩)) w_M_fault rfl rfl rfl (Nat.le_of_ble_eq_true rfl) (Nat.le_of_ble_eq_true rfl) (m_rlt (q_M_fault _) (Nat.lt_of_lt_of_le (by decide) hρ)) rfl (fun v383 s383 => ?_)
      refine e_icmpeq (t := 1665) i_L_law_386 (by decide) ?_ ?_
      · refine e_iinc (w := 8) (L' := [some (.ref r0), some (.ref r1), some (.ref r2), some (.int (n3 + (8 : Int32)))]) i_L_law_1665 rfl (of_decide_eq_true rfl) (by decide) rfl ?_
        refine e_goto (t := 18) i_L_law_1668 (by decide) ?_
        exact rfl
      · refine e_iconst (v := 0) i_L_law_389 (by decide) ?_
        exact e_iretZ i_L_law_390 rfl (by decide)
    refine m_sw_c ?_ ?_
    · refine e_aload_n i_L_law_391 rfl ?_
      refine e_aload_n i_L_law_392 rfl ?_
      refine e_iload_n i_L_law_393 rfl ?_
      refine e_iconst (v := 1) i_L_law_394 (by decide) ?_
      refine e_iadd i_L_law_395 ?_
      refine e_iald i_L_law_396 (fun v396 => ?_)
      refine e_callI (as := [.ref r1, .int v396]) (st' := []) i_L_law_397 lm_12 (Or.inr (Or.inl ⟨rfl, rfl⟩)) w_G_by rfl rfl rfl (Nat.le_of_ble_eq_true rfl) (Nat.le_of_ble_eq_true rfl) (m_rlt (q_G_by _) (Nat.lt_of_lt_of_le (by decide) hρ)) rfl (fun v397 s397 => ?_)
      refine e_aload_n i_L_law_400 rfl ?_
      refine e_aload_n i_L_law_401 rfl ?_
      refine e_iload_n i_L_law_402 rfl ?_
      refine e_iconst (v := 1) i_L_law_403 (by decide) ?_
      refine e_iadd i_L_law_404 ?_
      refine e_iald i_L_law_405 (fun v405 => ?_)
      refine e_callI (as := [.ref r2, .int v405]) (st' := [.int v397]) i_L_law_406 lm_13 (Or.inr (Or.inl ⟨rfl, rfl⟩)) w_M_by rfl rfl rfl (Nat.le_of_ble_eq_true rfl) (Nat.le_of_ble_eq_true rfl) (m_rlt (q_M_by _) (Nat.lt_of_lt_of_le (by decide) hρ)) rfl (fun v406 s406 => ?_)
      refine e_icmpeq (t := 1665) i_L_law_409 (by decide) ?_ ?_
      · refine e_iinc (w := 8) (L' := [some (.ref r0), some (.ref r1), some (.ref r2), some (.int (n3 + (8 : Int32)))]) i_L_law_1665 rfl (of_decide_eq_true rfl) (by decide) rfl ?_
        refine e_goto (t := 18) i_L_law_1668 (by decide) ?_
        exact rfl
      · refine e_iconst (v := 0) i_L_law_412 (by decide) ?_
        exact e_iretZ i_L_law_413 rfl (by decide)
    refine m_sw_c ?_ ?_
    · refine e_aload_n i_L_law_414 rfl ?_
      refine e_aload_n i_L_law_415 rfl ?_
      refine e_iload_n i_L_law_416 rfl ?_
      refine e_iconst (v := 1) i_L_law_417 (by decide) ?_
      refine e_iadd i_L_law_418 ?_
      refine e_iald i_L_law_419 (fun v419 => ?_)
      refine e_aload_n i_L_law_420 rfl ?_
      refine e_iload_n i_L_law_421 rfl ?_
      refine e_iconst (v := 2) i_L_law_422 (by decide) ?_
      refine e_iadd i_L_law_423 ?_
      refine e_iald i_L_law_424 (fun v424 => ?_)
      refine e_aload_n i_L_law_425 rfl ?_
      refine e_iload_n i_L_law_426 rfl ?_
      refine e_iconst (v := 3) i_L_law_427 (by decide) ?_
      refine e_iadd i_L_law_428 ?_
      refine e_iald i_L_law_429 (fun v429 => ?_)
      refine e_aload_n i_L_law_430 rfl ?_
      refine e_iload_n i_L_law_431 rfl ?_
      refine e_iconst (v := 4) i_L_law_432 (by decide) ?_
      refine e_iadd i_L_law_433 ?_
      refine e_iald i_L_law_434 (fun v434 => ?_)
      refine e_aload_n i_L_law_435 rfl ?_
      refine e_iload_n i_L_law_436 rfl ?_
      refine e_iconst (v := 5) i_L_law_437 (by decide) ?_
      refine e_iadd i_L_law_438 ?_
      refine e_iald i_L_law_439 (fun v439 => ?_)
      refine e_callI (as := [.ref r1, .int v419, .int v424, .int v429, .int v434, .int v439]) (st' := []) i_L_law_440 lm_14 (Or.inr (Or.inl ⟨rfl, rfl⟩)) w_G_bargain rfl rfl rfl (Nat.le_of_ble_eq_true rfl) (Nat.le_of_ble_eq_true rfl) (m_rlt (q_G_bargain _) (Nat.lt_of_lt_of_le (by decide) hρ)) rfl (fun v440 s440 => ?_)
      refine e_aload_n i_L_law_443 rfl ?_
      refine e_aload_n i_L_law_444 rfl ?_
      refine e_iload_n i_L_law_445 rfl ?_
      refine e_iconst (v := 1) i_L_law_446 (by decide) ?_
      refine e_iadd i_L_law_447 ?_
      refine e_iald i_L_law_448 (fun v448 => ?_)
      refine e_aload_n i_L_law_449 rfl ?_
      refine e_iload_n i_L_law_450 rfl ?_
      refine e_iconst (v := 2) i_L_law_451 (by decide) ?_
      refine e_iadd i_L_law_452 ?_
      refine e_iald i_L_law_453 (fun v453 => ?_)
      refine e_aload_n i_L_law_454 rfl ?_
      refine e_iload_n i_L_law_455 rfl ?_
      refine e_iconst (v := 3) i_L_law_456 (by decide) ?_
      refine e_iadd i_L_law_457 ?_
      refine e_iald i_L_law_458 (fun v458 => ?_)
      refine e_aload_n i_L_law_459 rfl ?_
      refine e_iload_n i_L_law_460 rfl ?_
      refine e_iconst (v := 4) i_L_law_461 (by decide) ?_
      refine e_iadd i_L_law_462 ?_
      refine e_iald i_L_law_463 (fun v463 => ?_)
      refine e_aload_n i_L_law_464 rfl ?_
      refine e_iload_n i_L_law_465 rfl ?_
      refine e_iconst (v := 5) i_L_law_466 (by decide) ?_
      refine e_iadd i_L_law_467 ?_
      refine e_iald i_L_law_468 (fun v468 => ?_)
      refine e_callI (as := [.ref r2, .int v448, .int v453, .int v458, .int v463, .int v468]) (st' := [.int v440]) i_L_law_469 lm_15 (Or.inr (Or.inl ⟨rfl, rfl⟩)) w_M_bargain rfl rfl rfl (Nat.le_of_ble_eq_true rfl) (Nat.le_of_ble_eq_true rfl) (m_rlt (q_M_bargain _) (Nat.lt_of_lt_of_le (by decide) hρ)) rfl (fun v469 s469 => ?_)
      refine e_icmpeq (t := 1665) i_L_law_472 (by decide) ?_ ?_
      · refine e_iinc (w := 8) (L' := [some (.ref r0), some (.ref r1), some (.ref r2), some (.int (n3 + (8 : Int32)))]) i_L_law_1665 rfl (of_decide_eq_true rfl) (by decide) rfl ?_
        refine e_goto (t := 18) i_L_law_1668 (by decide) ?_
        exact rfl
      · refine e_iconst (v := 0) i_L_law_475 (by decide) ?_
        exact e_iretZ i_L_law_476 rfl (by decide)
    refine m_sw_c ?_ ?_
    · refine e_aload_n i_L_law_477 rfl ?_
      refine e_aload_n i_L_law_478 rfl ?_
      refine e_iload_n i_L_law_479 rfl ?_
      refine e_iconst (v := 1) i_L_law_480 (by decide) ?_
      refine e_iadd i_L_law_481 ?_
      refine e_iald i_L_law_482 (fun v482 => ?_)
      refine e_aload_n i_L_law_483 rfl ?_
      refine e_iload_n i_L_law_484 rfl ?_
      refine e_iconst (v := 2) i_L_law_485 (by decide) ?_
      refine e_iadd i_L_law_486 ?_
      refine e_iald i_L_law_487 (fun v487 => ?_)
      refine e_callI (as := [.ref r1, .int v482, .int v487]) (st' := []) i_L_law_488 lm_16 (Or.inr (Or.inl ⟨rfl, rfl⟩)) w_G_work rfl rfl rfl (Nat.le_of_ble_eq_true rfl) (Nat.le_of_ble_eq_true rfl) (m_rlt (q_G_work _) (Nat.lt_of_lt_of_le (by decide) hρ)) rfl (fun v488 s488 => ?_)
      refine e_aload_n i_L_law_491 rfl ?_
      refine e_aload_n i_L_law_492 rfl ?_
      refine e_iload_n i_L_law_493 rfl ?_
      refine e_iconst (v := 1) i_L_law_494 (by decide) ?_
      refine e_iadd i_L_law_495 ?_
      refine e_iald i_L_law_496 (fun v496 => ?_)
      refine e_aload_n i_L_law_497 rfl ?_
      refine e_iload_n i_L_law_498 rfl ?_
      refine e_iconst (v := 2) i_L_law_499 (by decide) ?_
      refine e_iadd i_L_law_500 ?_
      refine e_iald i_L_law_501 (fun v501 => ?_)
      refine e_callI (as := [.ref r2, .int v496, .int v501]) (st' := [.int v488]) i_L_law_502 lm_17 (Or.inr (Or.inl ⟨rfl, rfl⟩)) w_M_work rfl rfl rfl (Nat.le_of_ble_eq_true rfl) (Nat.le_of_ble_eq_true rfl) (m_rlt (q_M_work _) (Nat.lt_of_lt_of_le (by decide) hρ)) rfl (fun v502 s502 => ?_)
      refine e_icmpeq (t := 1665) i_L_law_505 (by decide) ?_ ?_
      · refine e_iinc (w := 8) (L' := [some (.ref r0), some (.ref r1), some (.ref r2), some (.int (n3 + (8 : Int32)))]) i_L_law_1665 rfl (of_decide_eq_true rfl) (by decide) rfl ?_
        refine e_goto (t := 18) i_L_law_1668 (by decide) ?_
        exact rfl
      · refine e_iconst (v := 0) i_L_law_508 (by decide) ?_
        exact e_iretZ i_L_law_509 rfl (by decide)
    refine m_sw_c ?_ ?_
    · refine e_aload_n i_L_law_510 rfl ?_
      refine e_aload_n i_L_law_511 rfl ?_
      refine e_iload_n i_L_law_512 rfl ?_
      refine e_iconst (v := 1) i_L_law_513 (by decide) ?_
      refine e_iadd i_L_law_514 ?_
      refine e_iald i_L_law_515 (fun v515 => ?_)
      refine e_aload_n i_L_law_516 rfl ?_
      refine e_iload_n i_L_law_517 rfl ?_
      refine e_iconst (v := 2) i_L_law_518 (by decide) ?_
      refine e_iadd i_L_law_519 ?_
      refine e_iald i_L_law_520 (fun v520 => ?_)
      refine e_callI (as := [.ref r1, .int v515, .int v520]) (st' := []) i_L_law_521 lm_18 (Or.inr (Or.inl ⟨rfl, rfl⟩)) w_G_pass rfl rfl rfl (Nat.le_of_ble_eq_true rfl) (Nat.le_of_ble_eq_true rfl) (m_rlt (q_G_pass _) (Nat.lt_of_lt_of_le (by decide) hρ)) rfl (fun v521 s521 => ?_)
      refine e_aload_n i_L_law_524 rfl ?_
      refine e_aload_n i_L_law_525 rfl ?_
      refine e_iload_n i_L_law_526 rfl ?_
      refine e_iconst (v := 1) i_L_law_527 (by decide) ?_
      refine e_iadd i_L_law_528 ?_
      refine e_iald i_L_law_529 (fun v529 => ?_)
      refine e_aload_n i_L_law_530 rfl ?_
      refine e_iload_n i_L_law_531 rfl ?_
      refine e_iconst (v := 2) i_L_law_532 (by decide) ?_
      refine e_iadd i_L_law_533 ?_
      refine e_iald i_L_law_534 (fun v534 => ?_)
      refine e_callI (as := [.ref r2, .int v529, .int v534]) (st' := [.int v521]) i_L_law_535 lm_19 (Or.inr (Or.inl ⟨rfl, rfl⟩)) w_M_pass rfl rfl rfl (Nat.le_of_ble_eq_true rfl) (Nat.le_of_ble_eq_true rfl) (m_rlt (q_M_pass _) (Nat.lt_of_lt_of_le (by decide) hρ)) rfl (fun v535 s535 => ?_)
      refine e_icmpeq (t := 1665) i_L_law_538 (by decide) ?_ ?_
      · refine e_iinc (w := 8) (L' := [some (.ref r0), some (.ref r1), some (.ref r2), some (.int (n3 + (8 : Int32)))]) i_L_law_1665 rfl (of_decide_eq_true rfl) (by decide) rfl ?_
        refine e_goto (t := 18) i_L_law_1668 (by decide) ?_
        exact rfl
      · refine e_iconst (v := 0) i_L_law_541 (by decide) ?_
        exact e_iretZ i_L_law_542 rfl (by decide)
    refine m_sw_c ?_ ?_
    · refine e_aload_n i_L_law_543 rfl ?_
      refine e_aload_n i_L_law_544 rfl ?_
      refine e_iload_n i_L_law_545 rfl ?_
      refine e_iconst (v := 1) i_L_law_546 (by decide) ?_
      refine e_iadd i_L_law_547 ?_
      refine e_iald i_L_law_548 (fun v548 => ?_)
      refine e_callI (as := [.ref r1, .int v548]) (st' := []) i_L_law_549 lm_20 (Or.inr (Or.inl ⟨rfl, rfl⟩)) w_G_lose rfl rfl rfl (Nat.le_of_ble_eq_true rfl) (Nat.le_of_ble_eq_true rfl) (m_rlt (q_G_lose _) (Nat.lt_of_lt_of_le (by decide) hρ)) rfl (fun v549 s549 => ?_)
      refine e_aload_n i_L_law_552 rfl ?_
      refine e_aload_n i_L_law_553 rfl ?_
      refine e_iload_n i_L_law_554 rfl ?_
      refine e_iconst (v := 1) i_L_law_555 (by decide) ?_
      refine e_iadd i_L_law_556 ?_
      refine e_iald i_L_law_557 (fun v557 => ?_)
      refine e_callI (as := [.ref r2, .int v557]) (st' := [.int v549]) i_L_law_558 lm_21 (Or.inr (Or.inl ⟨rfl, rfl⟩)) w_M_lose rfl rfl rfl (Nat.le_of_ble_eq_true rfl) (Nat.le_of_ble_eq_true rfl) (m_rlt (q_M_lose _) (Nat.lt_of_lt_of_le (by decide) hρ)) rfl (fun v558 s558 => ?_)
      refine e_icmpeq (t := 1665) i_L_law_561 (by decide) ?_ ?_
      · refine e_iinc (w := 8) (L' := [some (.ref r0), some (.ref r1), some (.ref r2), some (.int (n3 + (8 : Int32)))]) i_L_law_1665 rfl (of_decide_eq_true rfl) (by decide) rfl ?_
        refine e_goto (t := 18) i_L_law_1668 (by decide) ?_
        exact rfl
      · refine e_iconst (v := 0) i_L_law_564 (by decide) ?_
        exact e_iretZ i_L_law_565 rfl (by decide)
    refine m_sw_c ?_ ?_
    · refine e_aload_n i_L_law_566 rfl ?_
      refine e_aload_n i_L_law_567 rfl ?_
      refine e_iload_n i_L_law_568 rfl ?_
      refine e_iconst (v := 1) i_L_law_569 (by decide) ?_
      refine e_iadd i_L_law_570 ?_
      refine e_iald i_L_law_571 (fun v571 => ?_)
      refine e_aload_n i_L_law_572 rfl ?_
      refine e_iload_n i_L_law_573 rfl ?_
      refine e_iconst (v := 2) i_L_law_574 (by decide) ?_
      refine e_iadd i_L_law_575 ?_
      refine e_iald i_L_law_576 (fun v576 => ?_)
      refine e_callI (as := [.ref r1, .int v571, .int v576]) (st' := []) i_L_law_577 lm_22 (Or.inr (Or.inl ⟨rfl, rfl⟩)) w_G_find rfl rfl rfl (Nat.le_of_ble_eq_true rfl) (Nat.le_of_ble_eq_true rfl) (m_rlt (q_G_find _) (Nat.lt_of_lt_of_le (by decide) hρ)) rfl (fun v577 s577 => ?_)
      refine e_aload_n i_L_law_580 rfl ?_
      refine e_aload_n i_L_law_581 rfl ?_
      refine e_iload_n i_L_law_582 rfl ?_
      refine e_iconst (v := 1) i_L_law_583 (by decide) ?_
      refine e_iadd i_L_law_584 ?_
      refine e_iald i_L_law_585 (fun v585 => ?_)
      refine e_aload_n i_L_law_586 rfl ?_
      refine e_iload_n i_L_law_587 rfl ?_
      refine e_iconst (v := 2) i_L_law_588 (by decide) ?_
      refine e_iadd i_L_law_589 ?_
      refine e_iald i_L_law_590 (fun v590 => ?_)
      refine e_callI (as := [.ref r2, .int v585, .int v590]) (st' := [.int v577]) i_L_law_591 lm_23 (Or.inr (Or.inl ⟨rfl, rfl⟩)) w_M_find rfl rfl rfl (Nat.le_of_ble_eq_true rfl) (Nat.le_of_ble_eq_true rfl) (m_rlt (q_M_find _) (Nat.lt_of_lt_of_le (by decide) hρ)) rfl (fun v591 s591 => ?_)
      refine e_icmpeq (t := 1665) i_L_law_594 (by decide) ?_ ?_
      · refine e_iinc (w := 8) (L' := [some (.ref r0), some (.ref r1), some (.ref r2), some (.int (n3 + (8 : Int32)))]) i_L_law_1665 rfl (of_decide_eq_true rfl) (by decide) rfl ?_
        refine e_goto (t := 18) i_L_law_1668 (by decide) ?_
        exact rfl
      · refine e_iconst (v := 0) i_L_law_597 (by decide) ?_
        exact e_iretZ i_L_law_598 rfl (by decide)
    refine m_sw_c ?_ ?_
    · refine e_aload_n i_L_law_599 rfl ?_
      refine e_aload_n i_L_law_600 rfl ?_
      refine e_iload_n i_L_law_601 rfl ?_
      refine e_iconst (v := 1) i_L_law_602 (by decide) ?_
      refine e_iadd i_L_law_603 ?_
      refine e_iald i_L_law_604 (fun v604 => ?_)
      refine e_callI (as := [.ref r1, .int v604]) (st' := []) i_L_law_605 lm_24 (Or.inr (Or.inl ⟨rfl, rfl⟩)) w_G_pledge rfl rfl rfl (Nat.le_of_ble_eq_true rfl) (Nat.le_of_ble_eq_true rfl) (m_rlt (q_G_pledge _) (Nat.lt_of_lt_of_le (by decide) hρ)) rfl (fun v605 s605 => ?_)
      refine e_aload_n i_L_law_608 rfl ?_
      refine e_aload_n i_L_law_609 rfl ?_
      refine e_iload_n i_L_law_610 rfl ?_
      refine e_iconst (v := 1) i_L_law_611 (by decide) ?_
      refine e_iadd i_L_law_612 ?_
      refine e_iald i_L_law_613 (fun v613 => ?_)
      refine e_callI (as := [.ref r2, .int v613]) (st' := [.int v605]) i_L_law_614 lm_25 (Or.inr (Or.inl ⟨rfl, rfl⟩)) w_M_pledge rfl rfl rfl (Nat.le_of_ble_eq_true rfl) (Nat.le_of_ble_eq_true rfl) (m_rlt (q_M_pledge _) (Nat.lt_of_lt_of_le (by decide) hρ)) rfl (fun v614 s614 => ?_)
      refine e_icmpeq (t := 1665) i_L_law_617 (by decide) ?_ ?_
      · refine e_iinc (w := 8) (L' := [some (.ref r0), some (.ref r1), some (.ref r2), some (.int (n3 + (8 : Int32)))]) i_L_law_1665 rfl (of_decide_eq_true rfl) (by decide) rfl ?_
        refine e_goto (t := 18) i_L_law_1668 (by decide) ?_
        exact rfl
      · refine e_iconst (v := 0) i_L_law_620 (by decide) ?_
        exact e_iretZ i_L_law_621 rfl (by decide)
    refine m_sw_c ?_ ?_
    · refine e_aload_n i_L_law_622 rfl ?_
      refine e_aload_n i_L_law_623 rfl ?_
      refine e_iload_n i_L_law_624 rfl ?_
      refine e_iconst (v := 1) i_L_law_625 (by decide) ?_
      refine e_iadd i_L_law_626 ?_
      refine e_iald i_L_law_627 (fun v627 => ?_)
      refine e_callI (as := [.ref r1, .int v627]) (st' := []) i_L_law_628 lm_26 (Or.inr (Or.inl ⟨rfl, rfl⟩)) w_G_redeem rfl rfl rfl (Nat.le_of_ble_eq_true rfl) (Nat.le_of_ble_eq_true rfl) (m_rlt (q_G_redeem _) (Nat.lt_of_lt_of_le (by decide) hρ)) rfl (fun v628 s628 => ?_)
      refine e_aload_n i_L_law_631 rfl ?_
      refine e_aload_n i_L_law_632 rfl ?_
      refine e_iload_n i_L_law_633 rfl ?_
      refine e_iconst (v := 1) i_L_law_634 (by decide) ?_
      refine e_iadd i_L_law_635 ?_
      refine e_iald i_L_law_636 (fun v636 => ?_)
      refine e_callI (as := [.ref r2, .int v636]) (st' := [.int v628]) i_L_law_637 lm_27 (Or.inr (Or.inl ⟨rfl, rfl⟩)) w_M_redeem rfl rfl rfl (Nat.le_of_ble_eq_true rfl) (Nat.le_of_ble_eq_true rfl) (m_rlt (q_M_redeem _) (Nat.lt_of_lt_of_le (by decide) hρ)) rfl (fun v637 s637 => ?_)
      refine e_icmpeq (t := 1665) i_L_law_640 (by decide) ?_ ?_
      · refine e_iinc (w := 8) (L' := [some (.ref r0), some (.ref r1), some (.ref r2), some (.int (n3 + (8 : Int32)))]) i_L_law_1665 rfl (of_decide_eq_true rfl) (by decide) rfl ?_
        refine e_goto (t := 18) i_L_law_1668 (by decide) ?_
        exact rfl
      · refine e_iconst (v := 0) i_L_law_643 (by decide) ?_
        exact e_iretZ i_L_law_644 rfl (by decide)
    refine m_sw_c ?_ ?_
    · refine e_aload_n i_L_law_645 rfl ?_
      refine e_aload_n i_L_law_646 rfl ?_
      refine e_iload_n i_L_law_647 rfl ?_
      refine e_iconst (v := 1) i_L_law_648 (by decide) ?_
      refine e_iadd i_L_law_649 ?_
      refine e_iald i_L_law_650 (fun v650 => ?_)
      refine e_callI (as := [.ref r1, .int v650]) (st' := []) i_L_law_651 lm_28 (Or.inr (Or.inl ⟨rfl, rfl⟩)) w_G_day rfl rfl rfl (Nat.le_of_ble_eq_true rfl) (Nat.le_of_ble_eq_true rfl) (m_rlt (q_G_day _) (Nat.lt_of_lt_of_le (by decide) hρ)) rfl (fun v651 s651 => ?_)
      refine e_aload_n i_L_law_654 rfl ?_
      refine e_aload_n i_L_law_655 rfl ?_
      refine e_iload_n i_L_law_656 rfl ?_
      refine e_iconst (v := 1) i_L_law_657 (by decide) ?_
      refine e_iadd i_L_law_658 ?_
      refine e_iald i_L_law_659 (fun v659 => ?_)
      refine e_callI (as := [.ref r2, .int v659]) (st' := [.int v651]) i_L_law_660 lm_29 (Or.inr (Or.inl ⟨rfl, rfl⟩)) w_M_day rfl rfl rfl (Nat.le_of_ble_eq_true rfl) (Nat.le_of_ble_eq_true rfl) (m_rlt (q_M_day _) (Nat.lt_of_lt_of_le (by decide) hρ)) rfl (fun v660 s660 => ?_)
      refine e_icmpeq (t := 1665) i_L_law_663 (by decide) ?_ ?_
      · refine e_iinc (w := 8) (L' := [some (.ref r0), some (.ref r1), some (.ref r2), some (.int (n3 + (8 : Int32)))]) i_L_law_1665 rfl (of_decide_eq_true rfl) (by decide) rfl ?_
        refine e_goto (t := 18) i_L_law_1668 (by decide) ?_
        exact rfl
      · refine e_iconst (v := 0) i_L_law_666 (by decide) ?_
        exact e_iretZ i_L_law_667 rfl (by decide)
    refine m_sw_c ?_ ?_
    · refine e_aload_n i_L_law_668 rfl ?_
      refine e_aload_n i_L_law_669 rfl ?_
      refine e_iload_n i_L_law_670 rfl ?_
      refine e_iconst (v := 1) i_L_law_671 (by decide) ?_
      refine e_iadd i_L_law_672 ?_
      refine e_iald i_L_law_673 (fun v673 => ?_)
      refine e_callI (as := [.ref r1, .int v673]) (st' := []) i_L_law_674 lm_30 (Or.inr (Or.inl ⟨rfl, rfl⟩)) w_G_played rfl rfl rfl (Nat.le_of_ble_eq_true rfl) (Nat.le_of_ble_eq_true rfl) (m_rlt (q_G_played _) (Nat.lt_of_lt_of_le (by decide) hρ)) rfl (fun v674 s674 => ?_)
      refine e_aload_n i_L_law_677 rfl ?_
      refine e_aload_n i_L_law_678 rfl ?_
      refine e_iload_n i_L_law_679 rfl ?_
      refine e_iconst (v := 1) i_L_law_680 (by decide) ?_
      refine e_iadd i_L_law_681 ?_
      refine e_iald i_L_law_682 (fun v682 => ?_)
      refine e_callI (as := [.ref r2, .int v682]) (st' := [.int v674]) i_L_law_683 lm_31 (Or.inr (Or.inl ⟨rfl, rfl⟩)) w_M_played rfl rfl rfl (Nat.le_of_ble_eq_true rfl) (Nat.le_of_ble_eq_true rfl) (m_rlt (q_M_played _) (Nat.lt_of_lt_of_le (by decide) hρ)) rfl (fun v683 s683 => ?_)
      refine e_icmpeq (t := 1665) i_L_law_686 (by decide) ?_ ?_
      · refine e_iinc (w := 8) (L' := [some (.ref r0), some (.ref r1), some (.ref r2), some (.int (n3 + (8 : Int32)))]) i_L_law_1665 rfl (of_decide_eq_true rfl) (by decide) rfl ?_
        refine e_goto (t := 18) i_L_law_1668 (by decide) ?_
        exact rfl
      · refine e_iconst (v := 0) i_L_law_689 (by decide) ?_
        exact e_iretZ i_L_law_690 rfl (by decide)
    refine m_sw_c ?_ ?_
    · refine e_aload_n i_L_law_691 rfl ?_
      refine e_aload_n i_L_law_692 rfl ?_
      refine e_iload_n i_L_law_693 rfl ?_
      refine e_iconst (v := 1) i_L_law_694 (by decide) ?_
      refine e_iadd i_L_law_695 ?_
      refine e_iald i_L_law_696 (fun v696 => ?_)
      refine e_aload_n i_L_law_697 rfl ?_
      refine e_iload_n i_L_law_698 rfl ?_
      refine e_iconst (v := 2) i_L_law_699 (by decide) ?_
      refine e_iadd i_L_law_700 ?_
      refine e_iald i_L_law_701 (fun v701 => ?_)
      refine e_callI (as := [.ref r1, .int v696, .int v701]) (st' := []) i_L_law_702 lm_32 (Or.inr (Or.inl ⟨rfl, rfl⟩)) w_G_winters rfl rfl rfl (Nat.le_of_ble_eq_true rfl) (Nat.le_of_ble_eq_true rfl) (m_rlt (q_G_winters _) (Nat.lt_of_lt_of_le (by decide) hρ)) rfl (fun v702 s702 => ?_)
      refine e_aload_n i_L_law_705 rfl ?_
      refine e_aload_n i_L_law_706 rfl ?_
      refine e_iload_n i_L_law_707 rfl ?_
      refine e_iconst (v := 1) i_L_law_708 (by decide) ?_
      refine e_iadd i_L_law_709 ?_
      refine e_iald i_L_law_710 (fun v710 => ?_)
      refine e_aload_n i_L_law_711 rfl ?_
      refine e_iload_n i_L_law_712 rfl ?_
      refine e_iconst (v := 2) i_L_law_713 (by decide) ?_
      refine e_iadd i_L_law_714 ?_
      refine e_iald i_L_law_715 (fun v715 => ?_)
      refine e_callI (as := [.ref r2, .int v710, .int v715]) (st' := [.int v702]) i_L_law_716 lm_33 (Or.inr (Or.inl ⟨rfl, rfl⟩)) w_M_winters rfl rfl rfl (Nat.le_of_ble_eq_true rfl) (Nat.le_of_ble_eq_true rfl) (m_rlt (q_M_winters _) (Nat.lt_of_lt_of_le (by decide) hρ)) rfl (fun v716 s716 => ?_)
      refine e_icmpeq (t := 1665) i_L_law_719 (by decide) ?_ ?_
      · refine e_iinc (w := 8) (L' := [some (.ref r0), some (.ref r1), some (.ref r2), some (.int (n3 + (8 : Int32)))]) i_L_law_1665 rfl (of_decide_eq_true rfl) (by decide) rfl ?_
        refine e_goto (t := 18) i_L_law_1668 (by decide) ?_
        exact rfl
      · refine e_iconst (v := 0) i_L_law_722 (by decide) ?_
        exact e_iretZ i_L_law_723 rfl (by decide)
    refine m_sw_c ?_ ?_
    · refine e_aload_n i_L_law_724 rfl ?_
      refine e_callI (as := [.ref r1]) (st' := []) i_L_law_725 lm_34 (Or.inr (Or.inl ⟨rfl, rfl⟩)) w_G_undo rfl rfl rfl (Nat.le_of_ble_eq_true rfl) (Nat.le_of_ble_eq_true rfl) (m_rlt (q_G_undo _) (Nat.lt_of_lt_of_le (by decide) hρ)) rfl (fun v725 s725 => ?_)
      refine e_aload_n i_L_law_728 rfl ?_
      refine e_callI (as := [.ref r2]) (st' := [.int v725]) i_L_law_729 lm_35 (Or.inr (Or.inl ⟨rfl, rfl⟩)) w_M_undo rfl rfl rfl (Nat.le_of_ble_eq_true rfl) (Nat.le_of_ble_eq_true rfl) (m_rlt (q_M_undo _) (Nat.lt_of_lt_of_le (by decide) hρ)) rfl (fun v729 s729 => ?_)
      refine e_icmpeq (t := 1665) i_L_law_732 (by decide) ?_ ?_
      · refine e_iinc (w := 8) (L' := [some (.ref r0), some (.ref r1), some (.ref r2), some (.int (n3 + (8 : Int32)))]) i_L_law_1665 rfl (of_decide_eq_true rfl) (by decide) rfl ?_
        refine e_goto (t := 18) i_L_law_1668 (by decide) ?_
        exact rfl
      · refine e_iconst (v := 0) i_L_law_735 (by decide) ?_
        exact e_iretZ i_L_law_736 rfl (by decide)
    refine m_sw_c ?_ ?_
    · refine e_aload_n i_L_law_737 rfl ?_
      refine e_aload_n i_L_law_738 rfl ?_
      refine e_iload_n i_L_law_739 rfl ?_
      refine e_iconst (v := 1) i_L_law_740 (by decide) ?_
      refine e_iadd i_L_law_741 ?_
      refine e_iald i_L_law_742 (fun v742 => ?_)
      refine e_aload_n i_L_law_743 rfl ?_
      refine e_iload_n i_L_law_744 rfl ?_
      refine e_iconst (v := 2) i_L_law_745 (by decide) ?_
      refine e_iadd i_L_law_746 ?_
      refine e_iald i_L_law_747 (fun v747 => ?_)
      refine e_callI (as := [.ref r1, .int v742, .int v747]) (st' := []) i_L_law_748 lm_36 (Or.inr (Or.inl ⟨rfl, rfl⟩)) w_G_of rfl rfl rfl (Nat.le_of_ble_eq_true rfl) (Nat.le_of_ble_eq_true rfl) (m_rlt (q_G_of _) (Nat.lt_of_lt_of_le (by decide) hρ)) rfl (fun v748 s748 => ?_)
      refine e_aload_n i_L_law_751 rfl ?_
      refine e_aload_n i_L_law_752 rfl ?_
      refine e_iload_n i_L_law_753 rfl ?_
      refine e_iconst (v := 1) i_L_law_754 (by decide) ?_
      refine e_iadd i_L_law_755 ?_
      refine e_iald i_L_law_756 (fun v756 => ?_)
      refine e_aload_n i_L_law_757 rfl ?_
      refine e_iload_n i_L_law_758 rfl ?_
      refine e_iconst (v := 2) i_L_law_759 (by decide) ?_
      refine e_iadd i_L_law_760 ?_
      refine e_iald i_L_law_761 (fun v761 => ?_)
      refine e_callI (as := [.ref r2, .int v756, .int v761]) (st' := [.int v748]) i_L_law_762 lm_37 (Or.inr (Or.inl ⟨rfl, rfl⟩)) w_M_of rfl rfl rfl (Nat.le_of_ble_eq_true rfl) (Nat.le_of_ble_eq_true rfl) (m_rlt (q_M_of _) (Nat.lt_of_lt_of_le (by decide) hρ)) rfl (fun v762 s762 => ?_)
      refine e_icmpeq (t := 1665) i_L_law_765 (by decide) ?_ ?_
      · refine e_iinc (w := 8) (L' := [some (.ref r0), some (.ref r1), some (.ref r2), some (.int (n3 + (8 : Int32)))]) i_L_law_1665 rfl (of_decide_eq_true rfl) (by decide) rfl ?_
        refine e_goto (t := 18) i_L_law_1668 (by decide) ?_
        exact rfl
      · refine e_iconst (v := 0) i_L_law_768 (by decide) ?_
        exact e_iretZ i_L_law_769 rfl (by decide)
    refine m_sw_c ?_ ?_
    · refine e_aload_n i_L_law_770 rfl ?_
      refine e_aload_n i_L_law_771 rfl ?_
      refine e_iload_n i_L_law_772 rfl ?_
      refine e_iconst (v := 1) i_L_law_773 (by decide) ?_
      refine e_iadd i_L_law_774 ?_
      refine e_iald i_L_law_775 (fun v775 => ?_)
      refine e_aload_n i_L_law_776 rfl ?_
      refine e_iload_n i_L_law_777 rfl ?_
      refine e_iconst (v := 2) i_L_law_778 (by decide) ?_
      refine e_iadd i_L_law_779 ?_
      refine e_iald i_L_law_780 (fun v780 => ?_)
      refine e_callI (as := [.ref r1, .int v775, .int v780]) (st' := []) i_L_law_781 lm_38 (Or.inr (Or.inl ⟨rfl, rfl⟩)) w_G_ofGlove rfl rfl rfl (Nat.le_of_ble_eq_true rfl) (Nat.le_of_ble_eq_true rfl) (m_rlt (q_G_ofGlove _) (Nat.lt_of_lt_of_le (by decide) hρ)) rfl (fun v781 s781 => ?_)
      refine e_aload_n i_L_law_784 rfl ?_
      refine e_aload_n i_L_law_785 rfl ?_
      refine e_iload_n i_L_law_786 rfl ?_
      refine e_iconst (v := 1) i_L_law_787 (by decide) ?_
      refine e_iadd i_L_law_788 ?_
      refine e_iald i_L_law_789 (fun v789 => ?_)
      refine e_aload_n i_L_law_790 rfl ?_
      refine e_iload_n i_L_law_791 rfl ?_
      refine e_iconst (v := 2) i_L_law_792 (by decide) ?_
      refine e_iadd i_L_law_793 ?_
      refine e_iald i_L_law_794 (fun v794 => ?_)
      refine e_callI (as := [.ref r2, .int v789, .int v794]) (st' := [.int v781]) i_L_law_795 lm_39 (Or.inr (Or.inl ⟨rfl, rfl⟩)) w_M_ofGlove rfl rfl rfl (Nat.le_of_ble_eq_true rfl) (Nat.le_of_ble_eq_true rfl) (m_rlt (q_M_ofGlove _) (Nat.lt_of_lt_of_le (by decide) hρ)) rfl (fun v795 s795 => ?_)
      refine e_icmpeq (t := 1665) i_L_law_798 (by decide) ?_ ?_
      · refine e_iinc (w := 8) (L' := [some (.ref r0), some (.ref r1), some (.ref r2), some (.int (n3 + (8 : Int32)))]) i_L_law_1665 rfl (of_decide_eq_true rfl) (by decide) rfl ?_
        refine e_goto (t := 18) i_L_law_1668 (by decide) ?_
        exact rfl
      · refine e_iconst (v := 0) i_L_law_801 (by decide) ?_
        exact e_iretZ i_L_law_802 rfl (by decide)
    refine m_sw_c ?_ ?_
    · refine e_aload_n i_L_law_803 rfl ?_
      refine e_aload_n i_L_law_804 rfl ?_
      refine e_iload_n i_L_law_805 rfl ?_
      refine e_iconst (v := 1) i_L_law_806 (by decide) ?_
      refine e_iadd i_L_law_807 ?_
      refine e_iald i_L_law_808 (fun v808 => ?_)
      refine e_callI (as := [.ref r1, .int v808]) (st' := []) i_L_law_809 lm_40 (Or.inr (Or.inl ⟨rfl, rfl⟩)) w_G_is rfl rfl rfl (Nat.le_of_ble_eq_true rfl) (Nat.le_of_ble_eq_true rfl) (m_rlt (q_G_is _) (Nat.lt_of_lt_of_le (by decide) hρ)) rfl (fun v809 s809 => ?_)
      refine e_aload_n i_L_law_812 rfl ?_
      refine e_aload_n i_L_law_813 rfl ?_
      refine e_iload_n i_L_law_814 rfl ?_
      refine e_iconst (v := 1) i_L_law_815 (by decide) ?_
      refine e_iadd i_L_law_816 ?_
      refine e_iald i_L_law_817 (fun v817 => ?_)
      refine e_callI (as := [.ref r2, .int v817]) (st' := [.int v809]) i_L_law_818 lm_41 (Or.inr (Or.inl ⟨rfl, rfl⟩)) w_M_is rfl rfl rfl (Nat.le_of_ble_eq_true rfl) (Nat.le_of_ble_eq_true rfl) (m_rlt (q_M_is _) (Nat.lt_of_lt_of_le (by decide) hρ)) rfl (fun v818 s818 => ?_)
      refine e_icmpeq (t := 1665) i_L_law_821 (by decide) ?_ ?_
      · refine e_iinc (w := 8) (L' := [some (.ref r0), some (.ref r1), some (.ref r2), some (.int (n3 + (8 : Int32)))]) i_L_law_1665 rfl (of_decide_eq_true rfl) (by decide) rfl ?_
        refine e_goto (t := 18) i_L_law_1668 (by decide) ?_
        exact rfl
      · refine e_iconst (v := 0) i_L_law_824 (by decide) ?_
        exact e_iretZ i_L_law_825 rfl (by decide)
    refine m_sw_c ?_ ?_
    · refine e_aload_n i_L_law_826 rfl ?_
      refine e_aload_n i_L_law_827 rfl ?_
      refine e_iload_n i_L_law_828 rfl ?_
      refine e_iconst (v := 1) i_L_law_829 (by decide) ?_
      refine e_iadd i_L_law_830 ?_
      refine e_iald i_L_law_831 (fun v831 => ?_)
      refine e_aload_n i_L_law_832 rfl ?_
      refine e_iload_n i_L_law_833 rfl ?_
      refine e_iconst (v := 2) i_L_law_834 (by decide) ?_
      refine e_iadd i_L_law_835 ?_
      refine e_iald i_L_law_836 (fun v836 => ?_)
      refine e_callI (as := [.ref r1, .int v831, .int v836]) (st' := []) i_L_law_837 lm_42 (Or.inr (Or.inl ⟨rfl, rfl⟩)) w_G_book rfl rfl rfl (Nat.le_of_ble_eq_true rfl) (Nat.le_of_ble_eq_true rfl) (m_rlt (q_G_book _) (Nat.lt_of_lt_of_le (by decide) hρ)) rfl (fun v837 s837 => ?_)
      refine e_aload_n i_L_law_840 rfl ?_
      refine e_aload_n i_L_law_841 rfl ?_
      refine e_iload_n i_L_law_842 rfl ?_
      refine e_iconst (v := 1) i_L_law_843 (by decide) ?_
      refine e_iadd i_L_law_844 ?_
      refine e_iald i_L_law_845 (fun v845 => ?_)
      refine e_aload_n i_L_law_846 rfl ?_
      refine e_iload_n i_L_law_847 rfl ?_
      refine e_iconst (v := 2) i_L_law_848 (by decide) ?_
      refine e_iadd i_L_law_849 ?_
      refine e_iald i_L_law_850 (fun v850 => ?_)
      refine e_callI (as := [.ref r2, .int v845, .int v850]) (st' := [.int v837]) i_L_law_851 lm_43 (Or.inr (Or.inl ⟨rfl, rfl⟩)) w_M_book rfl rfl rfl (Nat.le_of_ble_eq_true rfl) (Nat.le_of_ble_eq_true rfl) (m_rlt (q_M_book _) (Nat.lt_of_lt_of_le (by decide) hρ)) rfl (fun v851 s851 => ?_)
      refine e_icmpeq (t := 1665) i_L_law_854 (by decide) ?_ ?_
      · refine e_iinc (w := 8) (L' := [some (.ref r0), some (.ref r1), some (.ref r2), some (.int (n3 + (8 : Int32)))]) i_L_law_1665 rfl (of_decide_eq_true rfl) (by decide) rfl ?_
        refine e_goto (t := 18) i_L_law_1668 (by decide) ?_
        exact rfl
      · refine e_iconst (v := 0) i_L_law_857 (by decide) ?_
        exact e_iretZ i_L_law_858 rfl (by decide)
    refine m_sw_c ?_ ?_
    · refine e_aload_n i_L_law_859 rfl ?_
      refine e_aload_n i_L_law_860 rfl ?_
      refine e_iload_n i_L_law_861 rfl ?_
      refine e_iconst (v := 1) i_L_law_862 (by decide) ?_
      refine e_iadd i_L_law_863 ?_
      refine e_iald i_L_law_864 (fun v864 => ?_)
      refine e_aload_n i_L_law_865 rfl ?_
      refine e_iload_n i_L_law_866 rfl ?_
      refine e_iconst (v := 2) i_L_law_867 (by decide) ?_
      refine e_iadd i_L_law_868 ?_
      refine e_iald i_L_law_869 (fun v869 => ?_)
      refine e_aload_n i_L_law_870 rfl ?_
      refine e_iload_n i_L_law_871 rfl ?_
      refine e_iconst (v := 3) i_L_law_872 (by decide) ?_
      refine e_iadd i_L_law_873 ?_
      refine e_iald i_L_law_874 (fun v874 => ?_)
      refine e_callI (as := [.ref r1, .int v864, .int v869, .int v874]) (st' := []) i_L_law_875 lm_44 (Or.inr (Or.inl ⟨rfl, rfl⟩)) w_G_foretold rfl rfl rfl (Nat.le_of_ble_eq_true rfl) (Nat.le_of_ble_eq_true rfl) (m_rlt (q_G_foretold _) (Nat.lt_of_lt_of_le (by decide) hρ)) rfl (fun v875 s875 => ?_)
      refine e_aload_n i_L_law_878 rfl ?_
      refine e_aload_n i_L_law_879 rfl ?_
      refine e_iload_n i_L_law_880 rfl ?_
      refine e_iconst (v := 1) i_L_law_881 (by decide) ?_
      refine e_iadd i_L_law_882 ?_
      refine e_iald i_L_law_883 (fun v883 => ?_)
      refine e_aload_n i_L_law_884 rfl ?_
      refine e_iload_n i_L_law_885 rfl ?_
      refine e_iconst (v := 2) i_L_law_886 (by decide) ?_
      refine e_iadd i_L_law_887 ?_
      refine e_iald i_L_law_888 (fun v888 => ?_)
      refine e_aload_n i_L_law_889 rfl ?_
      refine e_iload_n i_L_law_890 rfl ?_
      refine e_iconst (v := 3) i_L_law_891 (by decide) ?_
      refine e_iadd i_L_law_892 ?_
      refine e_iald i_L_law_893 (fun v893 => ?_)
      refine e_callI (as := [.ref r2, .int v883, .int v888, .int v893]) (st' := [.int v875]) i_L_law_894 lm_45 (Or.inr (Or.inl ⟨rfl, rfl⟩)) w_M_foretold rfl rfl rfl (Nat.le_of_ble_eq_true rfl) (Nat.le_of_ble_eq_true rfl) (m_rlt (q_M_foretold _) (Nat.lt_of_lt_of_le (by decide) hρ)) rfl (fun v894 s894 => ?_)
      refine e_icmpeq (t := 1665) i_L_law_897 (by decide) ?_ ?_
      · refine e_iinc (w := 8) (L' := [some (.ref r0), some (.ref r1), some (.ref r2), some (.int (n3 + (8 : Int32)))]) i_L_law_1665 rfl (of_decide_eq_true rfl) (by decide) rfl ?_
        refine e_goto (t := 18) i_L_law_1668 (by decide) ?_
        exact rfl
      · refine e_iconst (v := 0) i_L_law_900 (by decide) ?_
        exact e_iretZ i_L_law_901 rfl (by decide)
    refine m_sw_c ?_ ?_
    · refine e_aload_n i_L_law_902 rfl ?_
      refine e_aload_n i_L_law_903 rfl ?_
      refine e_iload_n i_L_law_904 rfl ?_
      refine e_iconst (v := 1) i_L_law_905 (by decide) ?_
      refine e_iadd i_L_law_906 ?_
      refine e_iald i_L_law_907 (fun v907 => ?_)
      refine e_callI (as := [.ref r1, .int v907]) (st' := []) i_L_law_908 lm_46 (Or.inr (Or.inl ⟨rfl, rfl⟩)) w_G_firstFine rfl rfl rfl (Nat.le_of_ble_eq_true rfl) (Nat.le_of_ble_eq_true rfl) (m_rlt (q_G_firstFine _) (Nat.lt_of_lt_of_le (by decide) hρ)) rfl (fun v908 s908 => ?_)
      refine e_aload_n i_L_law_911 rfl ?_
      refine e_aload_n i_L_law_912 rfl ?_
      refine e_iload_n i_L_law_913 rfl ?_
      refine e_iconst (v := 1) i_L_law_914 (by decide) ?_
      refine e_iadd i_L_law_915 ?_
      refine e_iald i_L_law_916 (fun v916 => ?_)
      refine e_callI (as := [.ref r2, .int v916]) (st' := [.int v908]) i_L_law_917 lm_47 (Or.inr (Or.inl ⟨rfl, rfl⟩)) w_M_firstFine rfl rfl rfl (Nat.le_of_ble_eq_true rfl) (Nat.le_of_ble_eq_true rfl) (m_rlt (q_M_firstFine _) (Nat.lt_of_lt_of_le (by decide) hρ)) rfl (fun v917 s917 => ?_)
      refine e_icmpeq (t := 1665) i_L_law_920 (by decide) ?_ ?_
      · refine e_iinc (w := 8) (L' := [some (.ref r0), some (.ref r1), some (.ref r2), some (.int (n3 + (8 : Int32)))]) i_L_law_1665 rfl (of_decide_eq_true rfl) (by decide) rfl ?_
        refine e_goto (t := 18) i_L_law_1668 (by decide) ?_
        exact rfl
      · refine e_iconst (v := 0) i_L_law_923 (by decide) ?_
        exact e_iretZ i_L_law_924 rfl (by decide)
    refine m_sw_c ?_ ?_
    · refine e_aload_n i_L_law_925 rfl ?_
      refine e_callI (as := [.ref r1]) (st' := []) i_L_law_926 lm_48 (Or.inr (Or.inl ⟨rfl, rfl⟩)) w_G_free rfl rfl rfl (Nat.le_of_ble_eq_true rfl) (Nat.le_of_ble_eq_true rfl) (m_rlt (q_G_free _) (Nat.lt_of_lt_of_le (by decide) hρ)) rfl (fun v926 s926 => ?_)
      refine e_aload_n i_L_law_929 rfl ?_
      refine e_callI (as := [.ref r2]) (st' := [.int v926]) i_L_law_930 lm_49 (Or.inr (Or.inl ⟨rfl, rfl⟩)) w_M_free rfl rfl rfl (Nat.le_of_ble_eq_true rfl) (Nat.le_of_ble_eq_true rfl) (m_rlt (q_M_free _) (Nat.lt_of_lt_of_le (by decide) hρ)) rfl (fun v930 s930 => ?_)
      refine e_icmpeq (t := 1665) i_L_law_933 (by decide) ?_ ?_
      · refine e_iinc (w := 8) (L' := [some (.ref r0), some (.ref r1), some (.ref r2), some (.int (n3 + (8 : Int32)))]) i_L_law_1665 rfl (of_decide_eq_true rfl) (by decide) rfl ?_
        refine e_goto (t := 18) i_L_law_1668 (by decide) ?_
        exact rfl
      · refine e_iconst (v := 0) i_L_law_936 (by decide) ?_
        exact e_iretZ i_L_law_937 rfl (by decide)
    refine m_sw_c ?_ ?_
    · refine e_aload_n i_L_law_938 rfl ?_
      refine e_aload_n i_L_law_939 rfl ?_
      refine e_iload_n i_L_law_940 rfl ?_
      refine e_iconst (v := 1) i_L_law_941 (by decide) ?_
      refine e_iadd i_L_law_942 ?_
      refine e_iald i_L_law_943 (fun v943 => ?_)
      refine e_aload_n i_L_law_944 rfl ?_
      refine e_iload_n i_L_law_945 rfl ?_
      refine e_iconst (v := 2) i_L_law_946 (by decide) ?_
      refine e_iadd i_L_law_947 ?_
      refine e_iald i_L_law_948 (fun v948 => ?_)
      refine e_callI (as := [.ref r1, .int v943, .int v948]) (st' := []) i_L_law_949 lm_50 (Or.inr (Or.inl ⟨rfl, rfl⟩)) w_G_price rfl rfl rfl (Nat.le_of_ble_eq_true rfl) (Nat.le_of_ble_eq_true rfl) (m_rlt (q_G_price _) (Nat.lt_of_lt_of_le (by decide) hρ)) rfl (fun v949 s949 => ?_)
      refine e_aload_n i_L_law_952 rfl ?_
      refine e_aload_n i_L_law_953 rfl ?_
      refine e_iload_n i_L_law_954 rfl ?_
      refine e_iconst (v := 1) i_L_law_955 (by decide) ?_
      refine e_iadd i_L_law_956 ?_
      refine e_iald i_L_law_957 (fun v957 => ?_)
      refine e_aload_n i_L_law_958 rfl ?_
      refine e_iload_n i_L_law_959 rfl ?_
      refine e_iconst (v := 2) i_L_law_960 (by decide) ?_
      refine e_iadd i_L_law_961 ?_
      refine e_iald i_L_law_962 (fun v962 => ?_)
      refine e_callI (as := [.ref r2, .int v957, .int v962]) (st' := [.int v949]) i_L_law_963 lm_51 (Or.inr (Or.inl ⟨rfl, rfl⟩)) w_M_price rfl rfl rfl (Nat.le_of_ble_eq_true rfl) (Nat.le_of_ble_eq_true rfl) (m_rlt (q_M_price _) (Nat.lt_of_lt_of_le (by decide) hρ)) rfl (fun v963 s963 => ?_)
      refine e_icmpeq (t := 1665) i_L_law_966 (by decide) ?_ ?_
      · refine e_iinc (w := 8) (L' := [some (.ref r0), some (.ref r1), some (.ref r2), some (.int (n3 + (8 : Int32)))]) i_L_law_1665 rfl (of_decide_eq_true rfl) (by decide) rfl ?_
        refine e_goto (t := 18) i_L_law_1668 (by decide) ?_
        exact rfl
      · refine e_iconst (v := 0) i_L_law_969 (by decide) ?_
        exact e_iretZ i_L_law_970 rfl (by decide)
    refine m_sw_c ?_ ?_
    · refine e_aload_n i_L_law_971 rfl ?_
      refine e_aload_n i_L_law_972 rfl ?_
      refine e_iload_n i_L_law_973 rfl ?_
      refine e_iconst (v := 1) i_L_law_974 (by decide) ?_
      refine e_iadd i_L_law_975 ?_
      refine e_iald i_L_law_976 (fun v976 => ?_)
      refine e_aload_n i_L_law_977 rfl ?_
      refine e_iload_n i_L_law_978 rfl ?_
      refine e_iconst (v := 2) i_L_law_979 (by decide) ?_
      refine e_iadd i_L_law_980 ?_
      refine e_iald i_L_law_981 (fun v981 => ?_)
      refine e_callI (as := [.ref r1, .int v976, .int v981]) (st' := []) i_L_law_982 lm_52 (Or.inr (Or.inl ⟨rfl, rfl⟩)) w_G_order rfl rfl rfl (Nat.le_of_ble_eq_true rfl) (Nat.le_of_ble_eq_true rfl) (m_rlt (q_G_order _) (Nat.lt_of_lt_of_le (by decide) hρ)) rfl (fun v982 s982 => ?_)
      refine e_aload_n i_L_law_985 rfl ?_
      refine e_aload_n i_L_law_986 rfl ?_
      refine e_iload_n i_L_law_987 rfl ?_
      refine e_iconst (v := 1) i_L_law_988 (by decide) ?_
      refine e_iadd i_L_law_989 ?_
      refine e_iald i_L_law_990 (fun v990 => ?_)
      refine e_aload_n i_L_law_991 rfl ?_
      refine e_iload_n i_L_law_992 rfl ?_
      refine e_iconst (v := 2) i_L_law_993 (by decide) ?_
      refine e_iadd i_L_law_994 ?_
      refine e_iald i_L_law_995 (fun v995 => ?_)
      refine e_callI (as := [.ref r2, .int v990, .int v995]) (st' := [.int v982]) i_L_law_996 lm_53 (Or.inr (Or.inl ⟨rfl, rfl⟩)) w_M_order rfl rfl rfl (Nat.le_of_ble_eq_true rfl) (Nat.le_of_ble_eq_true rfl) (m_rlt (q_M_order _) (Nat.lt_of_lt_of_le (by decide) hρ)) rfl (fun v996 s996 => ?_)
      refine e_icmpeq (t := 1665) i_L_law_999 (by decide) ?_ ?_
      · refine e_iinc (w := 8) (L' := [some (.ref r0), some (.ref r1), some (.ref r2), some (.int (n3 + (8 : Int32)))]) i_L_law_1665 rfl (of_decide_eq_true rfl) (by decide) rfl ?_
        refine e_goto (t := 18) i_L_law_1668 (by decide) ?_
        exact rfl
      · refine e_iconst (v := 0) i_L_law_1002 (by decide) ?_
        exact e_iretZ i_L_law_1003 rfl (by decide)
    refine m_sw_c ?_ ?_
    · refine e_aload_n i_L_law_1004 rfl ?_
      refine e_aload_n i_L_law_1005 rfl ?_
      refine e_iload_n i_L_law_1006 rfl ?_
      refine e_iconst (v := 1) i_L_law_1007 (by decide) ?_
      refine e_iadd i_L_law_1008 ?_
      refine e_iald i_L_law_1009 (fun v1009 => ?_)
      refine e_aload_n i_L_law_1010 rfl ?_
      refine e_iload_n i_L_law_1011 rfl ?_
      refine e_iconst (v := 2) i_L_law_1012 (by decide) ?_
      refine e_iadd i_L_law_1013 ?_
      refine e_iald i_L_law_1014 (fun v1014 => ?_)
      refine e_callI (as := [.ref r1, .int v1009, .int v1014]) (st' := []) i_L_law_1015 lm_54 (Or.inr (Or.inl ⟨rfl, rfl⟩)) w_G_whose rfl rfl rfl (Nat.le_of_ble_eq_true rfl) (Nat.le_of_ble_eq_true rfl) (m_rlt (q_G_whose _) (Nat.lt_of_lt_of_le (by decide) hρ)) rfl (fun v1015 s1015 => ?_)
      refine e_aload_n i_L_law_1018 rfl ?_
      refine e_aload_n i_L_law_1019 rfl ?_
      refine e_iload_n i_L_law_1020 rfl ?_
      refine e_iconst (v := 1) i_L_law_1021 (by decide) ?_
      refine e_iadd i_L_law_1022 ?_
      refine e_iald i_L_law_1023 (fun v1023 => ?_)
      refine e_aload_n i_L_law_1024 rfl ?_
      refine e_iload_n i_L_law_1025 rfl ?_
      refine e_iconst (v := 2) i_L_law_1026 (by decide) ?_
      refine e_iadd i_L_law_1027 ?_
      refine e_iald i_L_law_1028 (fun v1028 => ?_)
      refine e_callI (as := [.ref r2, .int v1023, .int v1028]) (st' := [.int v1015]) i_L_law_1029 lm_55 (Or.inr (Or.inl ⟨rfl, rfl⟩)) w_M_whose rfl rfl rfl (Nat.le_of_ble_eq_true rfl) (Nat.le_of_ble_eq_true rfl) (m_rlt (q_M_whose _) (Nat.lt_of_lt_of_le (by decide) hρ)) rfl (fun v1029 s1029 => ?_)
      refine e_icmpeq (t := 1665) i_L_law_1032 (by decide) ?_ ?_
      · refine e_iinc (w := 8) (L' := [some (.ref r0), some (.ref r1), some (.ref r2), some (.int (n3 + (8 : Int32)))]) i_L_law_1665 rfl (of_decide_eq_true rfl) (by decide) rfl ?_
        refine e_goto (t := 18) i_L_law_1668 (by decide) ?_
        exact rfl
      · refine e_iconst (v := 0) i_L_law_1035 (by decide) ?_
        exact e_iretZ i_L_law_1036 rfl (by decide)
    refine m_sw_c ?_ ?_
    · refine e_aload_n i_L_law_1037 rfl ?_
      refine e_aload_n i_L_law_1038 rfl ?_
      refine e_iload_n i_L_law_1039 rfl ?_
      refine e_iconst (v := 1) i_L_law_1040 (by decide) ?_
      refine e_iadd i_L_law_1041 ?_
      refine e_iald i_L_law_1042 (fun v1042 => ?_)
      refine e_callI (as := [.ref r1, .int v1042]) (st' := []) i_L_law_1043 lm_56 (Or.inr (Or.inl ⟨rfl, rfl⟩)) w_G_test rfl rfl rfl (Nat.le_of_ble_eq_true rfl) (Nat.le_of_ble_eq_true rfl) (m_rlt (q_G_test _) (Nat.lt_of_lt_of_le (by decide) hρ)) rfl (fun v1043 s1043 => ?_)
      refine e_aload_n i_L_law_1046 rfl ?_
      refine e_aload_n i_L_law_1047 rfl ?_
      refine e_iload_n i_L_law_1048 rfl ?_
      refine e_iconst (v := 1) i_L_law_1049 (by decide) ?_
      refine e_iadd i_L_law_1050 ?_
      refine e_iald i_L_law_1051 (fun v1051 => ?_)
      refine e_callI (as := [.ref r2, .int v1051]) (st' := [.int v1043]) i_L_law_1052 lm_57 (Or.inr (Or.inl ⟨rfl, rfl⟩)) w_M_test rfl rfl rfl (Nat.le_of_ble_eq_true rfl) (Nat.le_of_ble_eq_true rfl) (m_rlt (q_M_test _) (Nat.lt_of_lt_of_le (by decide) hρ)) rfl (fun v1052 s1052 => ?_)
      refine e_icmpeq (t := 1665) i_L_law_1055 (by decide) ?_ ?_
      · refine e_iinc (w := 8) (L' := [some (.ref r0), some (.ref r1), some (.ref r2), some (.int (n3 + (8 : Int32)))]) i_L_law_1665 rfl (of_decide_eq_true rfl) (by decide) rfl ?_
        refine e_goto (t := 18) i_L_law_1668 (by decide) ?_
        exact rfl
      · refine e_iconst (v := 0) i_L_law_1058 (by decide) ?_
        exact e_iretZ i_L_law_1059 rfl (by decide)
    refine m_sw_c ?_ ?_
    · refine e_aload_n i_L_law_1060 rfl ?_
      refine e_aload_n i_L_law_1061 rfl ?_
      refine e_iload_n i_L_law_1062 rfl ?_
      refine e_iconst (v := 1) i_L_law_1063 (by decide) ?_
      refine e_iadd i_L_law_1064 ?_
      refine e_iald i_L_law_1065 (fun v1065 => ?_)
      refine e_aload_n i_L_law_1066 rfl ?_
      refine e_iload_n i_L_law_1067 rfl ?_
      refine e_iconst (v := 2) i_L_law_1068 (by decide) ?_
      refine e_iadd i_L_law_1069 ?_
      refine e_iald i_L_law_1070 (fun v1070 => ?_)
      refine e_ifeq (t := 1078) i_L_law_1071 (by decide) ?_ ?_
      · refine e_iconst (v := 0) i_L_law_1078 (by decide) ?_
        exact rfl
      · refine e_iconst (v := 1) i_L_law_1074 (by decide) ?_
        refine e_goto (t := 1079) i_L_law_1075 (by decide) ?_
        exact rfl
    refine m_sw_c ?_ ?_
    · refine e_aload_n i_L_law_1109 rfl ?_
      refine e_aload_n i_L_law_1110 rfl ?_
      refine e_iload_n i_L_law_1111 rfl ?_
      refine e_iconst (v := 1) i_L_law_1112 (by decide) ?_
      refine e_iadd i_L_law_1113 ?_
      refine e_iald i_L_law_1114 (fun v1114 => ?_)
      refine e_aload_n i_L_law_1115 rfl ?_
      refine e_iload_n i_L_law_1116 rfl ?_
      refine e_iconst (v := 2) i_L_law_1117 (by decide) ?_
      refine e_iadd i_L_law_1118 ?_
      refine e_iald i_L_law_1119 (fun v1119 => ?_)
      refine e_callI (as := [.ref r1, .int v1114, .int v1119]) (st' := []) i_L_law_1120 lm_60 (Or.inr (Or.inl ⟨rfl, rfl⟩)) w_G_weds rfl rfl rfl (Nat.le_of_ble_eq_true rfl) (Nat.le_of_ble_eq_true rfl) (m_rlt (q_G_weds _) (Nat.lt_of_lt_of_le (by decide) hρ)) rfl (fun v1120 s1120 => ?_)
      refine e_aload_n i_L_law_1123 rfl ?_
      refine e_aload_n i_L_law_1124 rfl ?_
      refine e_iload_n i_L_law_1125 rfl ?_
      refine e_iconst (v := 1) i_L_law_1126 (by decide) ?_
      refine e_iadd i_L_law_1127 ?_
      refine e_iald i_L_law_1128 (fun v1128 => ?_)
      refine e_aload_n i_L_law_1129 rfl ?_
      refine e_iload_n i_L_law_1130 rfl ?_
      refine e_iconst (v := 2) i_L_law_1131 (by decide) ?_
      refine e_iadd i_L_law_1132 ?_
      refine e_iald i_L_law_1133 (fun v1133 => ?_)
      refine e_callI (as := [.ref r2, .int v1128, .int v1133]) (st' := [.int v1120]) i_L_law_1134 lm_61 (Or.inr (Or.inl ⟨rfl, rfl⟩)) w_M_weds rfl rfl rfl (Nat.le_of_ble_eq_true rfl) (Nat.le_of_ble_eq_true rfl) (m_rlt (q_M_weds _) (Nat.lt_of_lt_of_le (by decide) hρ)) rfl (fun v1134 s1134 => ?_)
      refine e_icmpeq (t := 1665) i_L_law_1137 (by decide) ?_ ?_
      · refine e_iinc (w := 8) (L' := [some (.ref r0), some (.ref r1), some (.ref r2), some (.int (n3 + (8 : Int32)))]) i_L_law_1665 rfl (of_decide_eq_true rfl) (by decide) rfl ?_
        refine e_goto (t := 18) i_L_law_1668 (by decide) ?_
        exact rfl
      · refine e_iconst (v := 0) i_L_law_1140 (by decide) ?_
        exact e_iretZ i_L_law_1141 rfl (by decide)
    refine m_sw_c ?_ ?_
    · refine e_aload_n i_L_law_1142 rfl ?_
      refine e_aload_n i_L_law_1143 rfl ?_
      refine e_iload_n i_L_law_1144 rfl ?_
      refine e_iconst (v := 1) i_L_law_1145 (by decide) ?_
      refine e_iadd i_L_law_1146 ?_
      refine e_iald i_L_law_1147 (fun v1147 => ?_)
      refine e_aload_n i_L_law_1148 rfl ?_
      refine e_iload_n i_L_law_1149 rfl ?_
      refine e_iconst (v := 2) i_L_law_1150 (by decide) ?_
      refine e_iadd i_L_law_1151 ?_
      refine e_iald i_L_law_1152 (fun v1152 => ?_)
      refine e_aload_n i_L_law_1153 rfl ?_
      refine e_iload_n i_L_law_1154 rfl ?_
      refine e_iconst (v := 3) i_L_law_1155 (by decide) ?_
      refine e_iadd i_L_law_1156 ?_
      refine e_iald i_L_law_1157 (fun v1157 => ?_)
      refine e_aload_n i_L_law_1158 rfl ?_
      refine e_iload_n i_L_law_1159 rfl ?_
      refine e_iconst (v := 4) i_L_law_1160 (by decide) ?_
      refine e_iadd i_L_law_1161 ?_
      refine e_iald i_L_law_1162 (fun v1162 => ?_)
      refine e_aload_n i_L_law_1163 rfl ?_
      refine e_iload_n i_L_law_1164 rfl ?_
      refine e_iconst (v := 5) i_L_law_1165 (by decide) ?_
      refine e_iadd i_L_law_1166 ?_
      refine e_iald i_L_law_1167 (fun v1167 => ?_)
      refine e_aload_n i_L_law_1168 rfl ?_
      refine e_iload_n i_L_law_1169 rfl ?_
      refine e_bipush (v := 6) i_L_law_1170 (by decide) ?_
      refine e_iadd i_L_law_1172 ?_
      refine e_iald i_L_law_1173 (fun v1173 => ?_)
      refine e_aload_n i_L_law_1174 rfl ?_
      refine e_iload_n i_L_law_1175 rfl ?_
      refine e_bipush (v := 7) i_L_law_1176 (by decide) ?_
      refine e_iadd i_L_law_1178 ?_
      refine e_iald i_L_law_1179 (fun v1179 => ?_)
      refine e_callI (as := [.ref r1, .int v1147, .int v1152, .int v1157, .int v1162, .int v1167, .int v1173, .int v1179]) (st' := []) i_L_law_1180 lm_62 (Or.inr (Or.inl ⟨rfl, rfl⟩)) w_G_unrest rfl rfl rfl (Nat.le_of_ble_eq_true rfl) (Nat.le_of_ble_eq_true rfl) (m_rlt (q_G_unrest _) (Nat.lt_of_lt_of_le (by decide) hρ)) rfl (fun v1180 s1180 => ?_)
      refine e_aload_n i_L_law_1183 rfl ?_
      refine e_aload_n i_L_law_1184 rfl ?_
      refine e_iload_n i_L_law_1185 rfl ?_
      refine e_iconst (v := 1) i_L_law_1186 (by decide) ?_
      refine e_iadd i_L_law_1187 ?_
      refine e_iald i_L_law_1188 (fun v1188 => ?_)
      refine e_aload_n i_L_law_1189 rfl ?_
      refine e_iload_n i_L_law_1190 rfl ?_
      refine e_iconst (v := 2) i_L_law_1191 (by decide) ?_
      refine e_iadd i_L_law_1192 ?_
      refine e_iald i_L_law_1193 (fun v1193 => ?_)
      refine e_aload_n i_L_law_1194 rfl ?_
      refine e_iload_n i_L_law_1195 rfl ?_
      refine e_iconst (v := 3) i_L_law_1196 (by decide) ?_
      refine e_iadd i_L_law_1197 ?_
      refine e_iald i_L_law_1198 (fun v1198 => ?_)
      refine e_aload_n i_L_law_1199 rfl ?_
      refine e_iload_n i_L_law_1200 rfl ?_
      refine e_iconst (v := 4) i_L_law_1201 (by decide) ?_
      refine e_iadd i_L_law_1202 ?_
      refine e_iald i_L_law_1203 (fun v1203 => ?_)
      refine e_aload_n i_L_law_1204 rfl ?_
      refine e_iload_n i_L_law_1205 rfl ?_
      refine e_iconst (v := 5) i_L_law_1206 (by decide) ?_
      refine e_iadd i_L_law_1207 ?_
      refine e_iald i_L_law_1208 (fun v1208 => ?_)
      refine e_aload_n i_L_law_1209 rfl ?_
      refine e_iload_n i_L_law_1210 rfl ?_
      refine e_bipush (v := 6) i_L_law_1211 (by decide) ?_
      refine e_iadd i_L_law_1213 ?_
      refine e_iald i_L_law_1214 (fun v1214 => ?_)
      refine e_aload_n i_L_law_1215 rfl ?_
      refine e_iload_n i_L_law_1216 rfl ?_
      refine e_bipush (v := 7) i_L_law_1217 (by decide) ?_
      refine e_iadd i_L_law_1219 ?_
      refine e_iald i_L_law_1220 (fun v1220 => ?_)
      refine e_callI (as := [.ref r2, .int v1188, .int v1193, .int v1198, .int v1203, .int v1208, .int v1214, .int v1220]) (st' := [.int v1180]) i_L_law_1221 lm_63 (Or.inr (Or.inl ⟨rfl, rfl⟩)) w_M_unrest rfl rfl rfl (Nat.le_of_ble_eq_true rfl) (Nat.le_of_ble_eq_true rfl) (m_rlt (q_M_unrest _) (Nat.lt_of_lt_of_le (by decide) hρ)) rfl (fun v1221 s1221 => ?_)
      refine e_icmpeq (t := 1665) i_L_law_1224 (by decide) ?_ ?_
      · refine e_iinc (w := 8) (L' := [some (.ref r0), some (.ref r1), some (.ref r2), some (.int (n3 + (8 : Int32)))]) i_L_law_1665 rfl (of_decide_eq_true rfl) (by decide) rfl ?_
        refine e_goto (t := 18) i_L_law_1668 (by decide) ?_
        exact rfl
      · refine e_iconst (v := 0) i_L_law_1227 (by decide) ?_
        exact e_iretZ i_L_law_1228 rfl (by decide)
    refine m_sw_c ?_ ?_
    · refine e_aload_n i_L_law_1229 rfl ?_
      refine e_aload_n i_L_law_1230 rfl ?_
      refine e_iload_n i_L_law_1231 rfl ?_
      refine e_iconst (v := 1) i_L_law_1232 (by decide) ?_
      refine e_iadd i_L_law_1233 ?_
      refine e_iald i_L_law_1234 (fun v1234 => ?_)
      refine e_callI (as := [.ref r1, .int v1234]) (st' := []) i_L_law_1235 lm_64 (Or.inr (Or.inl ⟨rfl, rfl⟩)) w_G_claim rfl rfl rfl (Nat.le_of_ble_eq_true rfl) (Nat.le_of_ble_eq_true rfl) (m_rlt (q_G_claim _) (Nat.lt_of_lt_of_le (by decide) hρ)) rfl (fun v1235 s1235 => ?_)
      refine e_aload_n i_L_law_1238 rfl ?_
      refine e_aload_n i_L_law_1239 rfl ?_
      refine e_iload_n i_L_law_1240 rfl ?_
      refine e_iconst (v := 1) i_L_law_1241 (by decide) ?_
      refine e_iadd i_L_law_1242 ?_
      refine e_iald i_L_law_1243 (fun v1243 => ?_)
      refine e_callI (as := [.ref r2, .int v1243]) (st' := [.int v1235]) i_L_law_1244 lm_65 (Or.inr (Or.inl ⟨rfl, rfl⟩)) w_M_claim rfl rfl rfl (Nat.le_of_ble_eq_true rfl) (Nat.le_of_ble_eq_true rfl) (m_rlt (q_M_claim _) (Nat.lt_of_lt_of_le (by decide) hρ)) rfl (fun v1244 s1244 => ?_)
      refine e_icmpeq (t := 1665) i_L_law_1247 (by decide) ?_ ?_
      · refine e_iinc (w := 8) (L' := [some (.ref r0), some (.ref r1), some (.ref r2), some (.int (n3 + (8 : Int32)))]) i_L_law_1665 rfl (of_decide_eq_true rfl) (by decide) rfl ?_
        refine e_goto (t := 18) i_L_law_1668 (by decide) ?_
        exact rfl
      · refine e_iconst (v := 0) i_L_law_1250 (by decide) ?_
        exact e_iretZ i_L_law_1251 rfl (by decide)
    refine m_sw_c ?_ ?_
    · refine e_aload_n i_L_law_1252 rfl ?_
      refine e_aload_n i_L_law_1253 rfl ?_
      refine e_iload_n i_L_law_1254 rfl ?_
      refine e_iconst (v := 1) i_L_law_1255 (by decide) ?_
      refine e_iadd i_L_law_1256 ?_
      refine e_iald i_L_law_1257 (fun v1257 => ?_)
      refine e_aload_n i_L_law_1258 rfl ?_
      refine e_iload_n i_L_law_1259 rfl ?_
      refine e_iconst (v := 2) i_L_law_1260 (by decide) ?_
      refine e_iadd i_L_law_1261 ?_
      refine e_iald i_L_law_1262 (fun v1262 => ?_)
      refine e_aload_n i_L_law_1263 rfl ?_
      refine e_iload_n i_L_law_1264 rfl ?_
      refine e_iconst (v := 3) i_L_law_1265 (by decide) ?_
      refine e_iadd i_L_law_1266 ?_
      refine e_iald i_L_law_1267 (fun v1267 => ?_)
      refine e_ifeq (t := 1275) i_L_law_1268 (by decide) ?_ ?_
      · refine e_iconst (v := 0) i_L_law_1275 (by decide) ?_
        exact rfl
      · refine e_iconst (v := 1) i_L_law_1271 (by decide) ?_
        refine e_goto (t := 1276) i_L_law_1272 (by decide) ?_
        exact rfl
    refine m_sw_c ?_ ?_
    · refine e_aload_n i_L_law_1311 rfl ?_
      refine e_aload_n i_L_law_1312 rfl ?_
      refine e_iload_n i_L_law_1313 rfl ?_
      refine e_iconst (v := 1) i_L_law_1314 (by decide) ?_
      refine e_iadd i_L_law_1315 ?_
      refine e_iald i_L_law_1316 (fun v1316 => ?_)
      refine e_aload_n i_L_law_1317 rfl ?_
      refine e_iload_n i_L_law_1318 rfl ?_
      refine e_iconst (v := 2) i_L_law_1319 (by decide) ?_
      refine e_iadd i_L_law_1320 ?_
      refine e_iald i_L_law_1321 (fun v1321 => ?_)
      refine e_ifeq (t := 1329) i_L_law_1322 (by decide) ?_ ?_
      · refine e_iconst (v := 0) i_L_law_1329 (by decide) ?_
        exact rfl
      · refine e_iconst (v := 1) i_L_law_1325 (by decide) ?_
        refine e_goto (t := 1330) i_L_law_1326 (by decide) ?_
        exact rfl
    refine m_sw_c ?_ ?_
    · refine e_aload_n i_L_law_1360 rfl ?_
      refine e_aload_n i_L_law_1361 rfl ?_
      refine e_iload_n i_L_law_1362 rfl ?_
      refine e_iconst (v := 1) i_L_law_1363 (by decide) ?_
      refine e_iadd i_L_law_1364 ?_
      refine e_iald i_L_law_1365 (fun v1365 => ?_)
      refine e_aload_n i_L_law_1366 rfl ?_
      refine e_iload_n i_L_law_1367 rfl ?_
      refine e_iconst (v := 2) i_L_law_1368 (by decide) ?_
      refine e_iadd i_L_law_1369 ?_
      refine e_iald i_L_law_1370 (fun v1370 => ?_)
      refine e_callI (as := [.ref r1, .int v1365, .int v1370]) (st' := []) i_L_law_1371 lm_70 (Or.inr (Or.inl ⟨rfl, rfl⟩)) w_G_chest rfl rfl rfl (Nat.le_of_ble_eq_true rfl) (Nat.le_of_ble_eq_true rfl) (m_rlt (q_G_chest _) (Nat.lt_of_lt_of_le (by decide) hρ)) rfl (fun v1371 s1371 => ?_)
      refine e_aload_n i_L_law_1374 rfl ?_
      refine e_aload_n i_L_law_1375 rfl ?_
      refine e_iload_n i_L_law_1376 rfl ?_
      refine e_iconst (v := 1) i_L_law_1377 (by decide) ?_
      refine e_iadd i_L_law_1378 ?_
      refine e_iald i_L_law_1379 (fun v1379 => ?_)
      refine e_aload_n i_L_law_1380 rfl ?_
      refine e_iload_n i_L_law_1381 rfl ?_
      refine e_iconst (v := 2) i_L_law_1382 (by decide) ?_
      refine e_iadd i_L_law_1383 ?_
      refine e_iald i_L_law_1384 (fun v1384 => ?_)
      refine e_callI (as := [.ref r2, .int v1379, .int v1384]) (st' := [.int v1371]) i_L_law_1385 lm_71 (Or.inr (Or.inl ⟨rfl, rfl⟩)) w_M_chest rfl rfl rfl (Nat.le_of_ble_eq_true rfl) (Nat.le_of_ble_eq_true rfl) (m_rlt (q_M_chest _) (Nat.lt_of_lt_of_le (by decide) hρ)) rfl (fun v1385 s1385 => ?_)
      refine e_icmpeq (t := 1665) i_L_law_1388 (by decide) ?_ ?_
      · refine e_iinc (w := 8) (L' := [some (.ref r0), some (.ref r1), some (.ref r2), some (.int (n3 + (8 : Int32)))]) i_L_law_1665 rfl (of_decide_eq_true rfl) (by decide) rfl ?_
        refine e_goto (t := 18) i_L_law_1668 (by decide) ?_
        exact rfl
      · refine e_iconst (v := 0) i_L_law_1391 (by decide) ?_
        exact e_iretZ i_L_law_1392 rfl (by decide)
    refine m_sw_c ?_ ?_
    · refine e_aload_n i_L_law_1393 rfl ?_
      refine e_aload_n i_L_law_1394 rfl ?_
      refine e_iload_n i_L_law_1395 rfl ?_
      refine e_iconst (v := 1) i_L_law_1396 (by decide) ?_
      refine e_iadd i_L_law_1397 ?_
      refine e_iald i_L_law_1398 (fun v1398 => ?_)
      refine e_callI (as := [.ref r1, .int v1398]) (st' := []) i_L_law_1399 lm_72 (Or.inr (Or.inl ⟨rfl, rfl⟩)) w_G_lives rfl rfl rfl (Nat.le_of_ble_eq_true rfl) (Nat.le_of_ble_eq_true rfl) (m_rlt (q_G_lives _) (Nat.lt_of_lt_of_le (by decide) hρ)) rfl (fun v1399 s1399 => ?_)
      refine e_aload_n i_L_law_1402 rfl ?_
      refine e_aload_n i_L_law_1403 rfl ?_
      refine e_iload_n i_L_law_1404 rfl ?_
      refine e_iconst (v := 1) i_L_law_1405 (by decide) ?_
      refine e_iadd i_L_law_1406 ?_
      refine e_iald i_L_law_1407 (fun v1407 => ?_)
      refine e_callI (as := [.ref r2, .int v1407]) (st' := [.int v1399]) i_L_law_1408 lm_73 (Or.inr (Or.inl ⟨rfl, rfl⟩)) w_M_lives rfl rfl rfl (Nat.le_of_ble_eq_true rfl) (Nat.le_of_ble_eq_true rfl) (m_rlt (q_M_lives _) (Nat.lt_of_lt_of_le (by decide) hρ)) rfl (fun v1408 s1408 => ?_)
      refine e_icmpeq (t := 1665) i_L_law_1411 (by decide) ?_ ?_
      · refine e_iinc (w := 8) (L' := [some (.ref r0), some (.ref r1), some (.ref r2), some (.int (n3 + (8 : Int32)))]) i_L_law_1665 rfl (of_decide_eq_true rfl) (by decide) rfl ?_
        refine e_goto (t := 18) i_L_law_1668 (by decide) ?_
        exact rfl
      · refine e_iconst (v := 0) i_L_law_1414 (by decide) ?_
        exact e_iretZ i_L_law_1415 rfl (by decide)
    refine m_sw_c ?_ ?_
    · refine e_aload_n i_L_law_1416 rfl ?_
      refine e_aload_n i_L_law_1417 rfl ?_
      refine e_iload_n i_L_law_1418 rfl ?_
      refine e_iconst (v := 1) i_L_law_1419 (by decide) ?_
      refine e_iadd i_L_law_1420 ?_
      refine e_iald i_L_law_1421 (fun v1421 => ?_)
      refine e_aload_n i_L_law_1422 rfl ?_
      refine e_iload_n i_L_law_1423 rfl ?_
      refine e_iconst (v := 2) i_L_law_1424 (by decide) ?_
      refine e_iadd i_L_law_1425 ?_
      refine e_iald i_L_law_1426 (fun v1426 => ?_)
      refine e_aload_n i_L_law_1427 rfl ?_
      refine e_iload_n i_L_law_1428 rfl ?_
      refine e_iconst (v := 3) i_L_law_1429 (by decide) ?_
      refine e_iadd i_L_law_1430 ?_
      refine e_iald i_L_law_1431 (fun v1431 => ?_)
      refine e_aload_n i_L_law_1432 rfl ?_
      refine e_iload_n i_L_law_1433 rfl ?_
      refine e_iconst (v := 4) i_L_law_1434 (by decide) ?_
      refine e_iadd i_L_law_1435 ?_
      refine e_iald i_L_law_1436 (fun v1436 => ?_)
      refine e_aload_n i_L_law_1437 rfl ?_
      refine e_iload_n i_L_law_1438 rfl ?_
      refine e_iconst (v := 5) i_L_law_1439 (by decide) ?_
      refine e_iadd i_L_law_1440 ?_
      refine e_iald i_L_law_1441 (fun v1441 => ?_)
      refine e_ifeq (t := 1449) i_L_law_1442 (by decide) ?_ ?_
      · refine e_iconst (v := 0) i_L_law_1449 (by decide) ?_
        exact rfl
      · refine e_iconst (v := 1) i_L_law_1445 (by decide) ?_
        refine e_goto (t := 1450) i_L_law_1446 (by decide) ?_
        exact rfl
    refine m_sw_c ?_ ?_
    · refine e_aload_n i_L_law_1495 rfl ?_
      refine e_callI (as := [.ref r1]) (st' := []) i_L_law_1496 lm_76 (Or.inr (Or.inl ⟨rfl, rfl⟩)) w_G_ring rfl rfl rfl (Nat.le_of_ble_eq_true rfl) (Nat.le_of_ble_eq_true rfl) (m_rlt (q_G_ring _) (Nat.lt_of_lt_of_le (by decide) hρ)) rfl (fun v1496 s1496 => ?_)
      refine e_aload_n i_L_law_1499 rfl ?_
      refine e_callI (as := [.ref r2]) (st' := [.int v1496]) i_L_law_1500 lm_77 (Or.inr (Or.inl ⟨rfl, rfl⟩)) w_M_ring rfl rfl rfl (Nat.le_of_ble_eq_true rfl) (Nat.le_of_ble_eq_true rfl) (m_rlt (q_M_ring _) (Nat.lt_of_lt_of_le (by decide) hρ)) rfl (fun v1500 s1500 => ?_)
      refine e_icmpeq (t := 1665) i_L_law_1503 (by decide) ?_ ?_
      · refine e_iinc (w := 8) (L' := [some (.ref r0), some (.ref r1), some (.ref r2), some (.int (n3 + (8 : Int32)))]) i_L_law_1665 rfl (of_decide_eq_true rfl) (by decide) rfl ?_
        refine e_goto (t := 18) i_L_law_1668 (by decide) ?_
        exact rfl
      · refine e_iconst (v := 0) i_L_law_1506 (by decide) ?_
        exact e_iretZ i_L_law_1507 rfl (by decide)
    refine m_sw_c ?_ ?_
    · refine e_aload_n i_L_law_1508 rfl ?_
      refine e_callI (as := [.ref r1]) (st' := []) i_L_law_1509 lm_78 (Or.inr (Or.inl ⟨rfl, rfl⟩)) w_G_richest rfl rfl rfl (Nat.le_of_ble_eq_true rfl) (Nat.le_of_ble_eq_true rfl) (m_rlt (q_G_richest _) (Nat.lt_of_lt_of_le (by decide) hρ)) rfl (fun v1509 s1509 => ?_)
      refine e_aload_n i_L_law_1512 rfl ?_
      refine e_callI (as := [.ref r2]) (st' := [.int v1509]) i_L_law_1513 lm_79 (Or.inr (Or.inl ⟨rfl, rfl⟩)) w_M_richest rfl rfl rfl (Nat.le_of_ble_eq_true rfl) (Nat.le_of_ble_eq_true rfl) (m_rlt (q_M_richest _) (Nat.lt_of_lt_of_le (by decide) hρ)) rfl (fun v1513 s1513 => ?_)
      refine e_icmpeq (t := 1665) i_L_law_1516 (by decide) ?_ ?_
      · refine e_iinc (w := 8) (L' := [some (.ref r0), some (.ref r1), some (.ref r2), some (.int (n3 + (8 : Int32)))]) i_L_law_1665 rfl (of_decide_eq_true rfl) (by decide) rfl ?_
        refine e_goto (t := 18) i_L_law_1668 (by decide) ?_
        exact rfl
      · refine e_iconst (v := 0) i_L_law_1519 (by decide) ?_
        exact e_iretZ i_L_law_1520 rfl (by decide)
    refine m_sw_c ?_ ?_
    · refine e_aload_n i_L_law_1521 rfl ?_
      refine e_aload_n i_L_law_1522 rfl ?_
      refine e_iload_n i_L_law_1523 rfl ?_
      refine e_iconst (v := 1) i_L_law_1524 (by decide) ?_
      refine e_iadd i_L_law_1525 ?_
      refine e_iald i_L_law_1526 (fun v1526 => ?_)
      refine e_aload_n i_L_law_1527 rfl ?_
      refine e_iload_n i_L_law_1528 rfl ?_
      refine e_iconst (v := 2) i_L_law_1529 (by decide) ?_
      refine e_iadd i_L_law_1530 ?_
      refine e_iald i_L_law_1531 (fun v1531 => ?_)
      refine e_callI (as := [.ref r1, .int v1526, .int v1531]) (st' := []) i_L_law_1532 lm_80 (Or.inr (Or.inl ⟨rfl, rfl⟩)) w_G_grown rfl rfl rfl (Nat.le_of_ble_eq_true rfl) (Nat.le_of_ble_eq_true rfl) (m_rlt (q_G_grown _) (Nat.lt_of_lt_of_le (by decide) hρ)) rfl (fun v1532 s1532 => ?_)
      refine e_aload_n i_L_law_1535 rfl ?_
      refine e_aload_n i_L_law_1536 rfl ?_
      refine e_iload_n i_L_law_1537 rfl ?_
      refine e_iconst (v := 1) i_L_law_1538 (by decide) ?_
      refine e_iadd i_L_law_1539 ?_
      refine e_iald i_L_law_1540 (fun v1540 => ?_)
      refine e_aload_n i_L_law_1541 rfl ?_
      refine e_iload_n i_L_law_1542 rfl ?_
      refine e_iconst (v := 2) i_L_law_1543 (by decide) ?_
      refine e_iadd i_L_law_1544 ?_
      refine e_iald i_L_law_1545 (fun v1545 => ?_)
      refine e_callI (as := [.ref r2, .int v1540, .int v1545]) (st' := [.int v1532]) i_L_law_1546 lm_81 (Or.inr (Or.inl ⟨rfl, rfl⟩)) w_M_grown rfl rfl rfl (Nat.le_of_ble_eq_true rfl) (Nat.le_of_ble_eq_true rfl) (m_rlt (q_M_grown _) (Nat.lt_of_lt_of_le (by decide) hρ)) rfl (fun v1546 s1546 => ?_)
      refine e_icmpeq (t := 1665) i_L_law_1549 (by decide) ?_ ?_
      · refine e_iinc (w := 8) (L' := [some (.ref r0), some (.ref r1), some (.ref r2), some (.int (n3 + (8 : Int32)))]) i_L_law_1665 rfl (of_decide_eq_true rfl) (by decide) rfl ?_
        refine e_goto (t := 18) i_L_law_1668 (by decide) ?_
        exact rfl
      · refine e_iconst (v := 0) i_L_law_1552 (by decide) ?_
        exact e_iretZ i_L_law_1553 rfl (by decide)
    refine m_sw_c ?_ ?_
    · refine e_aload_n i_L_law_1554 rfl ?_
      refine e_callI (as := [.ref r1]) (st' := []) i_L_law_1555 lm_82 (Or.inr (Or.inl ⟨rfl, rfl⟩)) w_G_whoseLaw rfl rfl rfl (Nat.le_of_ble_eq_true rfl) (Nat.le_of_ble_eq_true rfl) (m_rlt (q_G_whoseLaw _) (Nat.lt_of_lt_of_le (by decide) hρ)) rfl (fun v1555 s1555 => ?_)
      refine e_aload_n i_L_law_1558 rfl ?_
      refine e_callI (as := [.ref r2]) (st' := [.int v1555]) i_L_law_1559 lm_83 (Or.inr (Or.inl ⟨rfl, rfl⟩)) w_M_whoseLaw rfl rfl rfl (Nat.le_of_ble_eq_true rfl) (Nat.le_of_ble_eq_true rfl) (m_rlt (q_M_whoseLaw _) (Nat.lt_of_lt_of_le (by decide) hρ)) rfl (fun v1559 s1559 => ?_)
      refine e_icmpeq (t := 1665) i_L_law_1562 (by decide) ?_ ?_
      · refine e_iinc (w := 8) (L' := [some (.ref r0), some (.ref r1), some (.ref r2), some (.int (n3 + (8 : Int32)))]) i_L_law_1665 rfl (of_decide_eq_true rfl) (by decide) rfl ?_
        refine e_goto (t := 18) i_L_law_1668 (by decide) ?_
        exact rfl
      · refine e_iconst (v := 0) i_L_law_1565 (by decide) ?_
        exact e_iretZ i_L_law_1566 rfl (by decide)
    refine m_sw_c ?_ ?_
    · refine e_aload_n i_L_law_1567 rfl ?_
      refine e_aload_n i_L_law_1568 rfl ?_
      refine e_iload_n i_L_law_1569 rfl ?_
      refine e_iconst (v := 1) i_L_law_1570 (by decide) ?_
      refine e_iadd i_L_law_1571 ?_
      refine e_iald i_L_law_1572 (fun v1572 => ?_)
      refine e_callI (as := [.ref r1, .int v1572]) (st' := []) i_L_law_1573 lm_84 (Or.inr (Or.inl ⟨rfl, rfl⟩)) w_G_fined rfl rfl rfl (Nat.le_of_ble_eq_true rfl) (Nat.le_of_ble_eq_true rfl) (m_rlt (q_G_fined _) (Nat.lt_of_lt_of_le (by decide) hρ)) rfl (fun v1573 s1573 => ?_)
      refine e_aload_n i_L_law_1576 rfl ?_
      refine e_aload_n i_L_law_1577 rfl ?_
      refine e_iload_n i_L_law_1578 rfl ?_
      refine e_iconst (v := 1) i_L_law_1579 (by decide) ?_
      refine e_iadd i_L_law_1580 ?_
      refine e_iald i_L_law_1581 (fun v1581 => ?_)
      refine e_callI (as := [.ref r2, .int v1581]) (st' := [.int v1573]) i_L_law_1582 lm_85 (Or.inr (Or.inl ⟨rfl, rfl⟩)) w_M_fined rfl rfl rfl (Nat.le_of_ble_eq_true rfl) (Nat.le_of_ble_eq_true rfl) (m_rlt (q_M_fined _) (Nat.lt_of_lt_of_le (by decide) hρ)) rfl (fun v1582 s1582 => ?_)
      refine e_icmpeq (t := 1665) i_L_law_1585 (by decide) ?_ ?_
      · refine e_iinc (w := 8) (L' := [some (.ref r0), some (.ref r1), some (.ref r2), some (.int (n3 + (8 : Int32)))]) i_L_law_1665 rfl (of_decide_eq_true rfl) (by decide) rfl ?_
        refine e_goto (t := 18) i_L_law_1668 (by decide) ?_
        exact rfl
      · refine e_iconst (v := 0) i_L_law_1588 (by decide) ?_
        exact e_iretZ i_L_law_1589 rfl (by decide)
    refine m_sw_c ?_ ?_
    · refine e_aload_n i_L_law_1590 rfl ?_
      refine e_callI (as := [.ref r1]) (st' := []) i_L_law_1591 lm_86 (Or.inr (Or.inl ⟨rfl, rfl⟩)) w_G_pairs rfl rfl rfl (Nat.le_of_ble_eq_true rfl) (Nat.le_of_ble_eq_true rfl) (m_rlt (q_G_pairs _) (Nat.lt_of_lt_of_le (by decide) hρ)) rfl (fun v1591 s1591 => ?_)
      refine e_aload_n i_L_law_1594 rfl ?_
      refine e_callI (as := [.ref r2]) (st' := [.int v1591]) i_L_law_1595 lm_87 (Or.inr (Or.inl ⟨rfl, rfl⟩)) w_M_pairs rfl rfl rfl (Nat.le_of_ble_eq_true rfl) (Nat.le_of_ble_eq_true rfl) (m_rlt (q_M_pairs _) (Nat.lt_of_lt_of_le (by decide) hρ)) rfl (fun v1595 s1595 => ?_)
      refine e_icmpeq (t := 1665) i_L_law_1598 (by decide) ?_ ?_
      · refine e_iinc (w := 8) (L' := [some (.ref r0), some (.ref r1), some (.ref r2), some (.int (n3 + (8 : Int32)))]) i_L_law_1665 rfl (of_decide_eq_true rfl) (by decide) rfl ?_
        refine e_goto (t := 18) i_L_law_1668 (by decide) ?_
        exact rfl
      · refine e_iconst (v := 0) i_L_law_1601 (by decide) ?_
        exact e_iretZ i_L_law_1602 rfl (by decide)
    refine m_sw_c ?_ ?_
    · refine e_aload_n i_L_law_1603 rfl ?_
      refine e_callI (as := [.ref r1]) (st' := []) i_L_law_1604 lm_88 (Or.inr (Or.inl ⟨rfl, rfl⟩)) w_G_coldest rfl rfl rfl (Nat.le_of_ble_eq_true rfl) (Nat.le_of_ble_eq_true rfl) (m_rlt (q_G_coldest _) (Nat.lt_of_lt_of_le (by decide) hρ)) rfl (fun v1604 s1604 => ?_)
      refine e_aload_n i_L_law_1607 rfl ?_
      refine e_callI (as := [.ref r2]) (st' := [.int v1604]) i_L_law_1608 lm_89 (Or.inr (Or.inl ⟨rfl, rfl⟩)) w_M_coldest rfl rfl rfl (Nat.le_of_ble_eq_true rfl) (Nat.le_of_ble_eq_true rfl) (m_rlt (q_M_coldest _) (Nat.lt_of_lt_of_le (by decide) hρ)) rfl (fun v1608 s1608 => ?_)
      refine e_icmpeq (t := 1665) i_L_law_1611 (by decide) ?_ ?_
      · refine e_iinc (w := 8) (L' := [some (.ref r0), some (.ref r1), some (.ref r2), some (.int (n3 + (8 : Int32)))]) i_L_law_1665 rfl (of_decide_eq_true rfl) (by decide) rfl ?_
        refine e_goto (t := 18) i_L_law_1668 (by decide) ?_
        exact rfl
      · refine e_iconst (v := 0) i_L_law_1614 (by decide) ?_
        exact e_iretZ i_L_law_1615 rfl (by decide)
    refine m_sw_c ?_ ?_
    · refine e_aload_n i_L_law_1616 rfl ?_
      refine e_callI (as := [.ref r1]) (st' := []) i_L_law_1617 lm_90 (Or.inr (Or.inl ⟨rfl, rfl⟩)) w_G_image rfl rfl rfl (Nat.le_of_ble_eq_true rfl) (Nat.le_of_ble_eq_true rfl) (m_rlt (q_G_image _) (Nat.lt_of_lt_of_le (by decide) hρ)) rfl (fun v1617 s1617 => ?_)
      refine e_aload_n i_L_law_1620 rfl ?_
      refine e_callI (as := [.ref r2]) (st' := [.int v1617]) i_L_law_1621 lm_91 (Or.inr (Or.inl ⟨rfl, rfl⟩)) w_M_image rfl rfl rfl (Nat.le_of_ble_eq_true rfl) (Nat.le_of_ble_eq_true rfl) (m_rlt (q_M_image _) (Nat.lt_of_lt_of_le (by decide) hρ)) rfl (fun v1621 s1621 => ?_)
      refine e_icmpeq (t := 1665) i_L_law_1624 (by decide) ?_ ?_
      · refine e_iinc (w := 8) (L' := [some (.ref r0), some (.ref r1), some (.ref r2), some (.int (n3 + (8 : Int32)))]) i_L_law_1665 rfl (of_decide_eq_true rfl) (by decide) rfl ?_
        refine e_goto (t := 18) i_L_law_1668 (by decide) ?_
        exact rfl
      · refine e_iconst (v := 0) i_L_law_1627 (by decide) ?_
        exact e_iretZ i_L_law_1628 rfl (by decide)
    refine m_sw_c ?_ ?_
    · refine e_aload_n i_L_law_1629 rfl ?_
      refine e_callI (as := [.ref r1]) (st' := []) i_L_law_1630 lm_92 (Or.inr (Or.inl ⟨rfl, rfl⟩)) w_G_back rfl rfl rfl (Nat.le_of_ble_eq_true rfl) (Nat.le_of_ble_eq_true rfl) (m_rlt (q_G_back _) (Nat.lt_of_lt_of_le (by decide) hρ)) rfl (fun v1630 s1630 => ?_)
      refine e_aload_n i_L_law_1633 rfl ?_
      refine e_callI (as := [.ref r2]) (st' := [.int v1630]) i_L_law_1634 lm_93 (Or.inr (Or.inl ⟨rfl, rfl⟩)) w_M_back rfl rfl rfl (Nat.le_of_ble_eq_true rfl) (Nat.le_of_ble_eq_true rfl) (m_rlt (q_M_back _) (Nat.lt_of_lt_of_le (by decide) hρ)) rfl (fun v1634 s1634 => ?_)
      refine e_icmpeq (t := 1665) i_L_law_1637 (by decide) ?_ ?_
      · refine e_iinc (w := 8) (L' := [some (.ref r0), some (.ref r1), some (.ref r2), some (.int (n3 + (8 : Int32)))]) i_L_law_1665 rfl (of_decide_eq_true rfl) (by decide) rfl ?_
        refine e_goto (t := 18) i_L_law_1668 (by decide) ?_
        exact rfl
      · refine e_iconst (v := 0) i_L_law_1640 (by decide) ?_
        exact e_iretZ i_L_law_1641 rfl (by decide)
    refine m_sw_c ?_ ?_
    · refine e_aload_n i_L_law_1642 rfl ?_
      refine e_aload_n i_L_law_1643 rfl ?_
      refine e_iload_n i_L_law_1644 rfl ?_
      refine e_iconst (v := 1) i_L_law_1645 (by decide) ?_
      refine e_iadd i_L_law_1646 ?_
      refine e_iald i_L_law_1647 (fun v1647 => ?_)
      refine e_callI (as := [.ref r1, .int v1647]) (st' := []) i_L_law_1648 lm_94 (Or.inr (Or.inl ⟨rfl, rfl⟩)) w_G_about rfl rfl rfl (Nat.le_of_ble_eq_true rfl) (Nat.le_of_ble_eq_true rfl) (m_rlt (q_G_about _) (Nat.lt_of_lt_of_le (by decide) hρ)) rfl (fun v1648 s1648 => ?_)
      refine e_aload_n i_L_law_1651 rfl ?_
      refine e_aload_n i_L_law_1652 rfl ?_
      refine e_iload_n i_L_law_1653 rfl ?_
      refine e_iconst (v := 1) i_L_law_1654 (by decide) ?_
      refine e_iadd i_L_law_1655 ?_
      refine e_iald i_L_law_1656 (fun v1656 => ?_)
      refine e_callI (as := [.ref r2, .int v1656]) (st' := [.int v1648]) i_L_law_1657 lm_95 (Or.inr (Or.inl ⟨rfl, rfl⟩)) w_M_about rfl rfl rfl (Nat.le_of_ble_eq_true rfl) (Nat.le_of_ble_eq_true rfl) (m_rlt (q_M_about _) (Nat.lt_of_lt_of_le (by decide) hρ)) rfl (fun v1657 s1657 => ?_)
      refine e_icmpeq (t := 1665) i_L_law_1660 (by decide) ?_ ?_
      · refine e_iinc (w := 8) (L' := [some (.ref r0), some (.ref r1), some (.ref r2), some (.int (n3 + (8 : Int32)))]) i_L_law_1665 rfl (of_decide_eq_true rfl) (by decide) rfl ?_
        refine e_goto (t := 18) i_L_law_1668 (by decide) ?_
        exact rfl
      · refine e_iconst (v := 0) i_L_law_1663 (by decide) ?_
        exact e_iretZ i_L_law_1664 rfl (by decide)
    refine m_sw_n ?_
    refine e_iinc (w := 8) (L' := [some (.ref r0), some (.ref r1), some (.ref r2), some (.int (n3 + (8 : Int32)))]) i_L_law_1665 rfl (of_decide_eq_true rfl) (by decide) rfl ?_
    refine e_goto (t := 18) i_L_law_1668 (by decide) ?_
    exact rfl
set_option maxRecDepth 20000 in
set_option maxHeartbeats 1000000 in
theorem E_L_law_1079 (x : m_X) (ρ : Nat) (hρ : 100 ≤ ρ) (s : m_H) (r0 : Nat) (r1 : Nat) (r2 : Nat) (n3 : Int32) (nt0 : Int32) (nt1 : Int32) (rt2 : Nat)  : m_D x ρ k_L_law 1079 [some (.ref r0), some (.ref r1), some (.ref r2), some (.int n3)] [.int nt0, .int nt1, .ref rt2] s = m_bI (m_M x k_G_tries [.ref rt2, .int nt1, .int nt0] s) fun v1079 s1079 => (m_ia x s1079 r0 (n3 + (1 : Int32))).bind fun v1087 => (m_ia x s1079 r0 (n3 + (2 : Int32))).bind fun v1092 => if v1092 = 0 then (m_bI (m_M x k_M_tries [.ref r2, .int v1087, .int 0] s1079) fun v1101 s1101 => if v1079 = v1101 then (m_D x ρ k_L_law 18 [some (.ref r0), some (.ref r1), some (.ref r2), some (.int (n3 + (8 : Int32)))] [] s1101) else some (some (.int 0), s1101)) else m_bI (m_M x k_M_tries [.ref r2, .int v1087, .int 1] s1079) fun v1101 s1101 => if v1079 = v1101 then (m_D x ρ k_L_law 18 [some (.ref r0), some (.ref r1), some (.ref r2), some (.int (n3 + (8 : Int32)))] [] s1101) else some (some (.int 0), s1101) := by
  refine e_callI (as := [.ref rt2, .int nt1, .int nt0]) (st' := []) i_L_law_1079 lm_58 (Or.inr (Or.inl ⟨rfl, rfl⟩)) w_G_tries rfl rfl rfl (Nat.le_of_ble_eq_true rfl) (Nat.le_of_ble_eq_true rfl) (m_rlt (q_G_tries _) (Nat.lt_of_lt_of_le (by decide) hρ)) rfl (fun v1079 s1079 => ?_)
  refine e_aload_n i_L_law_1082 rfl ?_
  refine e_aload_n i_L_law_1083 rfl ?_
  refine e_iload_n i_L_law_1084 rfl ?_
  refine e_iconst (v := 1) i_L_law_1085 (by decide) ?_
  refine e_iadd i_L_law_1086 ?_
  refine e_iald i_L_law_1087 (fun v1087 => ?_)
  refine e_aload_n i_L_law_1088 rfl ?_
  refine e_iload_n i_L_law_1089 rfl ?_
  refine e_iconst (v := 2) i_L_law_1090 (by decide) ?_
  refine e_iadd i_L_law_1091 ?_
  refine e_iald i_L_law_1092 (fun v1092 => ?_)
  refine e_ifeq (t := 1100) i_L_law_1093 (by decide) ?_ ?_
  · refine e_iconst (v := 0) i_L_law_1100 (by decide) ?_
    refine e_callI (as := [.ref r2, .int v1087, .int 0]) (st' := [.int v1079]) i_L_law_1101 lm_59 (Or.inr (Or.inl ⟨rfl, rfl⟩)) w_M_tries rfl rfl rfl (Nat.le_of_ble_eq_true rfl) (Nat.le_of_ble_eq_true rfl) (m_rlt (q_M_tries _) (Nat.lt_of_lt_of_le (by decide) hρ)) rfl (fun v1101 s1101 => ?_)
    refine e_icmpeq (t := 1665) i_L_law_1104 (by decide) ?_ ?_
    · refine e_iinc (w := 8) (L' := [some (.ref r0), some (.ref r1), some (.ref r2), some (.int (n3 + (8 : Int32)))]) i_L_law_1665 rfl (of_decide_eq_true rfl) (by decide) rfl ?_
      refine e_goto (t := 18) i_L_law_1668 (by decide) ?_
      exact rfl
    · refine e_iconst (v := 0) i_L_law_1107 (by decide) ?_
      exact e_iretZ i_L_law_1108 rfl (by decide)
  · refine e_iconst (v := 1) i_L_law_1096 (by decide) ?_
    refine e_goto (t := 1101) i_L_law_1097 (by decide) ?_
    refine e_callI (as := [.ref r2, .int v1087, .int 1]) (st' := [.int v1079]) i_L_law_1101 lm_59 (Or.inr (Or.inl ⟨rfl, rfl⟩)) w_M_tries rfl rfl rfl (Nat.le_of_ble_eq_true rfl) (Nat.le_of_ble_eq_true rfl) (m_rlt (q_M_tries _) (Nat.lt_of_lt_of_le (by decide) hρ)) rfl (fun v1101 s1101 => ?_)
    refine e_icmpeq (t := 1665) i_L_law_1104 (by decide) ?_ ?_
    · refine e_iinc (w := 8) (L' := [some (.ref r0), some (.ref r1), some (.ref r2), some (.int (n3 + (8 : Int32)))]) i_L_law_1665 rfl (of_decide_eq_true rfl) (by decide) rfl ?_
      refine e_goto (t := 18) i_L_law_1668 (by decide) ?_
      exact rfl
    · refine e_iconst (v := 0) i_L_law_1107 (by decide) ?_
      exact e_iretZ i_L_law_1108 rfl (by decide)
set_option maxRecDepth 20000 in
set_option maxHeartbeats 1000000 in
theorem E_L_law_1276 (x : m_X) (ρ : Nat) (hρ : 100 ≤ ρ) (s : m_H) (r0 : Nat) (r1 : Nat) (r2 : Nat) (n3 : Int32) (nt0 : Int32) (nt1 : Int32) (nt2 : Int32) (rt3 : Nat)  : m_D x ρ k_L_law 1276 [some (.ref r0), some (.ref r1), some (.ref r2), some (.int n3)] [.int nt0, .int nt1, .int nt2, .ref rt3] s = m_bI (m_M x k_G_estate [.ref rt3, .int nt2, .int nt1, .int nt0] s) fun v1276 s1276 => (m_ia x s1276 r0 (n3 + (1 : Int32))).bind fun v1284 => (m_ia x s1276 r0 (n3 + (2 : Int32))).bind fun v1289 => (m_ia x s1276 r0 (n3 + (3 : Int32))).bind fun v1294 => if v1294 = 0 then (m_bI (m_M x k_M_estate [.ref r2, .int v1284, .int v1289, .int 0] s1276) fun v1303 s1303 => if v1276 = v1303 then (m_D x ρ k_L_law 18 [some (.ref r0), some (.ref r1), some (.ref r2), some (.int (n3 + (8 : Int32)))] [] s1303) else some (some (.int 0), s1303)) else m_bI (m_M x k_M_estate [.ref r2, .int v1284, .int v1289, .int 1] s1276) fun v1303 s1303 => if v1276 = v1303 then (m_D x ρ k_L_law 18 [some (.ref r0), some (.ref r1), some (.ref r2), some (.int (n3 + (8 : Int32)))] [] s1303) else some (some (.int 0), s1303) := by
  refine e_callI (as := [.ref rt3, .int nt2, .int nt1, .int nt0]) (st' := []) i_L_law_1276 lm_66 (Or.inr (Or.inl ⟨rfl, rfl⟩)) w_G_estate rfl rfl rfl (Nat.le_of_ble_eq_true rfl) (Nat.le_of_ble_eq_true rfl) (m_rlt (q_G_estate _) (Nat.lt_of_lt_of_le (by decide) hρ)) rfl (fun v1276 s1276 => ?_)
  refine e_aload_n i_L_law_1279 rfl ?_
  refine e_aload_n i_L_law_1280 rfl ?_
  refine e_iload_n i_L_law_1281 rfl ?_
  refine e_iconst (v := 1) i_L_law_1282 (by decide) ?_
  refine e_iadd i_L_law_1283 ?_
  refine e_iald i_L_law_1284 (fun v1284 => ?_)
  refine e_aload_n i_L_law_1285 rfl ?_
  refine e_iload_n i_L_law_1286 rfl ?_
  refine e_iconst (v := 2) i_L_law_1287 (by decide) ?_
  refine e_iadd i_L_law_1288 ?_
  refine e_iald i_L_law_1289 (fun v1289 => ?_)
  refine e_aload_n i_L_law_1290 rfl ?_
  refine e_iload_n i_L_law_1291 rfl ?_
  refine e_iconst (v := 3) i_L_law_1292 (by decide) ?_
  refine e_iadd i_L_law_1293 ?_
  refine e_iald i_L_law_1294 (fun v1294 => ?_)
  refine e_ifeq (t := 1302) i_L_law_1295 (by decide) ?_ ?_
  · refine e_iconst (v := 0) i_L_law_1302 (by decide) ?_
    refine e_callI (as := [.ref r2, .int v1284, .int v1289, .int 0]) (st' := [.int v1276]) i_L_law_1303 lm_67 (Or.inr (Or.inl ⟨rfl, rfl⟩)) w_M_estate rfl rfl rfl (Nat.le_of_ble_eq_true rfl) (Nat.le_of_ble_eq_true rfl) (m_rlt (q_M_estate _) (Nat.lt_of_lt_of_le (by decide) hρ)) rfl (fun v1303 s1303 => ?_)
    refine e_icmpeq (t := 1665) i_L_law_1306 (by decide) ?_ ?_
    · refine e_iinc (w := 8) (L' := [some (.ref r0), some (.ref r1), some (.ref r2), some (.int (n3 + (8 : Int32)))]) i_L_law_1665 rfl (of_decide_eq_true rfl) (by decide) rfl ?_
      refine e_goto (t := 18) i_L_law_1668 (by decide) ?_
      exact rfl
    · refine e_iconst (v := 0) i_L_law_1309 (by decide) ?_
      exact e_iretZ i_L_law_1310 rfl (by decide)
  · refine e_iconst (v := 1) i_L_law_1298 (by decide) ?_
    refine e_goto (t := 1303) i_L_law_1299 (by decide) ?_
    refine e_callI (as := [.ref r2, .int v1284, .int v1289, .int 1]) (st' := [.int v1276]) i_L_law_1303 lm_67 (Or.inr (Or.inl ⟨rfl, rfl⟩)) w_M_estate rfl rfl rfl (Nat.le_of_ble_eq_true rfl) (Nat.le_of_ble_eq_true rfl) (m_rlt (q_M_estate _) (Nat.lt_of_lt_of_le (by decide) hρ)) rfl (fun v1303 s1303 => ?_)
    refine e_icmpeq (t := 1665) i_L_law_1306 (by decide) ?_ ?_
    · refine e_iinc (w := 8) (L' := [some (.ref r0), some (.ref r1), some (.ref r2), some (.int (n3 + (8 : Int32)))]) i_L_law_1665 rfl (of_decide_eq_true rfl) (by decide) rfl ?_
      refine e_goto (t := 18) i_L_law_1668 (by decide) ?_
      exact rfl
    · refine e_iconst (v := 0) i_L_law_1309 (by decide) ?_
      exact e_iretZ i_L_law_1310 rfl (by decide)
set_option maxRecDepth 20000 in
set_option maxHeartbeats 1000000 in
theorem E_L_law_1330 (x : m_X) (ρ : Nat) (hρ : 100 ≤ ρ) (s : m_H) (r0 : Nat) (r1 : Nat) (r2 : Nat) (n3 : Int32) (nt0 : Int32) (nt1 : Int32) (rt2 : Nat)  : m_D x ρ k_L_law 1330 [some (.ref r0), some (.ref r1), some (.ref r2), some (.int n3)] [.int nt0, .int nt1, .ref rt2] s = m_bI (m_M x k_G_auction [.ref rt2, .int nt1, .int nt0] s) fun v1330 s1330 => (m_ia x s1330 r0 (n3 + (1 : Int32))).bind fun v1338 => (m_ia x s1330 r0 (n3 + (2 : Int32))).bind fun v1343 => if v1343 = 0 then (m_bI (m_M x k_M_auction [.ref r2, .int v1338, .int 0] s1330) fun v1352 s1352 => if v1330 = v1352 then (m_D x ρ k_L_law 18 [some (.ref r0), some (.ref r1), some (.ref r2), some (.int (n3 + (8 : Int32)))] [] s1352) else some (some (.int 0), s1352)) else m_bI (m_M x k_M_auction [.ref r2, .int v1338, .int 1] s1330) fun v1352 s1352 => if v1330 = v1352 then (m_D x ρ k_L_law 18 [some (.ref r0), some (.ref r1), some (.ref r2), some (.int (n3 + (8 : Int32)))] [] s1352) else some (some (.int 0), s1352) := by
  refine e_callI (as := [.ref rt2, .int nt1, .int nt0]) (st' := []) i_L_law_1330 lm_68 (Or.inr (Or.inl ⟨rfl, rfl⟩)) w_G_auction rfl rfl rfl (Nat.le_of_ble_eq_true rfl) (Nat.le_of_ble_eq_true rfl) (m_rlt (q_G_auction _) (Nat.lt_of_lt_of_le (by decide) hρ)) rfl (fun v1330 s1330 => ?_)
  refine e_aload_n i_L_law_1333 rfl ?_
  refine e_aload_n i_L_law_1334 rfl ?_
  refine e_iload_n i_L_law_1335 rfl ?_
  refine e_iconst (v := 1) i_L_law_1336 (by decide) ?_
  refine e_iadd i_L_law_1337 ?_
  refine e_iald i_L_law_1338 (fun v1338 => ?_)
  refine e_aload_n i_L_law_1339 rfl ?_
  refine e_iload_n i_L_law_1340 rfl ?_
  refine e_iconst (v := 2) i_L_law_1341 (by decide) ?_
  refine e_iadd i_L_law_1342 ?_
  refine e_iald i_L_law_1343 (fun v1343 => ?_)
  refine e_ifeq (t := 1351) i_L_law_1344 (by decide) ?_ ?_
  · refine e_iconst (v := 0) i_L_law_1351 (by decide) ?_
    refine e_callI (as := [.ref r2, .int v1338, .int 0]) (st' := [.int v1330]) i_L_law_1352 lm_69 (Or.inr (Or.inl ⟨rfl, rfl⟩)) w_M_auction rfl rfl rfl (Nat.le_of_ble_eq_true rfl) (Nat.le_of_ble_eq_true rfl) (m_rlt (q_M_auction _) (Nat.lt_of_lt_of_le (by decide) hρ)) rfl (fun v1352 s1352 => ?_)
    refine e_icmpeq (t := 1665) i_L_law_1355 (by decide) ?_ ?_
    · refine e_iinc (w := 8) (L' := [some (.ref r0), some (.ref r1), some (.ref r2), some (.int (n3 + (8 : Int32)))]) i_L_law_1665 rfl (of_decide_eq_true rfl) (by decide) rfl ?_
      refine e_goto (t := 18) i_L_law_1668 (by decide) ?_
      exact rfl
    · refine e_iconst (v := 0) i_L_law_1358 (by decide) ?_
      exact e_iretZ i_L_law_1359 rfl (by decide)
  · refine e_iconst (v := 1) i_L_law_1347 (by decide) ?_
    refine e_goto (t := 1352) i_L_law_1348 (by decide) ?_
    refine e_callI (as := [.ref r2, .int v1338, .int 1]) (st' := [.int v1330]) i_L_law_1352 lm_69 (Or.inr (Or.inl ⟨rfl, rfl⟩)) w_M_auction rfl rfl rfl (Nat.le_of_ble_eq_true rfl) (Nat.le_of_ble_eq_true rfl) (m_rlt (q_M_auction _) (Nat.lt_of_lt_of_le (by decide) hρ)) rfl (fun v1352 s1352 => ?_)
    refine e_icmpeq (t := 1665) i_L_law_1355 (by decide) ?_ ?_
    · refine e_iinc (w := 8) (L' := [some (.ref r0), some (.ref r1), some (.ref r2), some (.int (n3 + (8 : Int32)))]) i_L_law_1665 rfl (of_decide_eq_true rfl) (by decide) rfl ?_
      refine e_goto (t := 18) i_L_law_1668 (by decide) ?_
      exact rfl
    · refine e_iconst (v := 0) i_L_law_1358 (by decide) ?_
      exact e_iretZ i_L_law_1359 rfl (by decide)
set_option maxRecDepth 20000 in
set_option maxHeartbeats 1000000 in
theorem E_L_law_1450 (x : m_X) (ρ : Nat) (hρ : 100 ≤ ρ) (s : m_H) (r0 : Nat) (r1 : Nat) (r2 : Nat) (n3 : Int32) (nt0 : Int32) (nt1 : Int32) (nt2 : Int32) (nt3 : Int32) (nt4 : Int32) (rt5 : Nat)  : m_D x ρ k_L_law 1450 [some (.ref r0), some (.ref r1), some (.ref r2), some (.int n3)] [.int nt0, .int nt1, .int nt2, .int nt3, .int nt4, .ref rt5] s = m_bI (m_M x k_G_frosts [.ref rt5, .int nt4, .int nt3, .int nt2, .int nt1, .int nt0] s) fun v1450 s1450 => (m_ia x s1450 r0 (n3 + (1 : Int32))).bind fun v1458 => (m_ia x s1450 r0 (n3 + (2 : Int32))).bind fun v1463 => (m_ia x s1450 r0 (n3 + (3 : Int32))).bind fun v1468 => (m_ia x s1450 r0 (n3 + (4 : Int32))).bind fun v1473 => (m_ia x s1450 r0 (n3 + (5 : Int32))).bind fun v1478 => if v1478 = 0 then (m_bI (m_M x k_M_frosts [.ref r2, .int v1458, .int v1463, .int v1468, .int v1473, .int 0] s1450) fun v1487 s1487 => if v1450 = v1487 then (m_D x ρ k_L_law 18 [some (.ref r0), some (.ref r1), some (.ref r2), some (.int (n3 + (8 : Int32)))] [] s1487) else some (some (.int 0), s1487)) else m_bI (m_M x k_M_frosts [.ref r2, .int v1458, .int v1463, .int v1468, .int v1473, .int 1] s1450) fun v1487 s1487 => if v1450 = v1487 then (m_D x ρ k_L_law 18 [some (.ref r0), some (.ref r1), some (.ref r2), some (.int (n3 + (8 : Int32)))] [] s1487) else some (some (.int 0), s1487) := by
  refine e_callI (as := [.ref rt5, .int nt4, .int nt3, .int nt2, .int nt1, .int nt0]) (st' := []) i_L_law_1450 lm_74 (Or.inr (Or.inl ⟨rfl, rfl⟩)) w_G_frosts rfl rfl rfl (Nat.le_of_ble_eq_true rfl) (Nat.le_of_ble_eq_true rfl) (m_rlt (q_G_frosts _) (Nat.lt_of_lt_of_le (by decide) hρ)) rfl (fun v1450 s1450 => ?_)
  refine e_aload_n i_L_law_1453 rfl ?_
  refine e_aload_n i_L_law_1454 rfl ?_
  refine e_iload_n i_L_law_1455 rfl ?_
  refine e_iconst (v := 1) i_L_law_1456 (by decide) ?_
  refine e_iadd i_L_law_1457 ?_
  refine e_iald i_L_law_1458 (fun v1458 => ?_)
  refine e_aload_n i_L_law_1459 rfl ?_
  refine e_iload_n i_L_law_1460 rfl ?_
  refine e_iconst (v := 2) i_L_law_1461 (by decide) ?_
  refine e_iadd i_L_law_1462 ?_
  refine e_iald i_L_law_1463 (fun v1463 => ?_)
  refine e_aload_n i_L_law_1464 rfl ?_
  refine e_iload_n i_L_law_1465 rfl ?_
  refine e_iconst (v := 3) i_L_law_1466 (by decide) ?_
  refine e_iadd i_L_law_1467 ?_
  refine e_iald i_L_law_1468 (fun v1468 => ?_)
  refine e_aload_n i_L_law_1469 rfl ?_
  refine e_iload_n i_L_law_1470 rfl ?_
  refine e_iconst (v := 4) i_L_law_1471 (by decide) ?_
  refine e_iadd i_L_law_1472 ?_
  refine e_iald i_L_law_1473 (fun v1473 => ?_)
  refine e_aload_n i_L_law_1474 rfl ?_
  refine e_iload_n i_L_law_1475 rfl ?_
  refine e_iconst (v := 5) i_L_law_1476 (by decide) ?_
  refine e_iadd i_L_law_1477 ?_
  refine e_iald i_L_law_1478 (fun v1478 => ?_)
  refine e_ifeq (t := 1486) i_L_law_1479 (by decide) ?_ ?_
  · refine e_iconst (v := 0) i_L_law_1486 (by decide) ?_
    refine e_callI (as := [.ref r2, .int v1458, .int v1463, .int v1468, .int v1473, .int 0]) (st' := [.int v1450]) i_L_law_1487 lm_75 (Or.inr (Or.inl ⟨rfl, rfl⟩)) w_M_frosts rfl rfl rfl (Nat.le_of_ble_eq_true rfl) (Nat.le_of_ble_eq_true rfl) (m_rlt (q_M_frosts _) (Nat.lt_of_lt_of_le (by decide) hρ)) rfl (fun v1487 s1487 => ?_)
    refine e_icmpeq (t := 1665) i_L_law_1490 (by decide) ?_ ?_
    · refine e_iinc (w := 8) (L' := [some (.ref r0), some (.ref r1), some (.ref r2), some (.int (n3 + (8 : Int32)))]) i_L_law_1665 rfl (of_decide_eq_true rfl) (by decide) rfl ?_
      refine e_goto (t := 18) i_L_law_1668 (by decide) ?_
      exact rfl
    · refine e_iconst (v := 0) i_L_law_1493 (by decide) ?_
      exact e_iretZ i_L_law_1494 rfl (by decide)
  · refine e_iconst (v := 1) i_L_law_1482 (by decide) ?_
    refine e_goto (t := 1487) i_L_law_1483 (by decide) ?_
    refine e_callI (as := [.ref r2, .int v1458, .int v1463, .int v1468, .int v1473, .int 1]) (st' := [.int v1450]) i_L_law_1487 lm_75 (Or.inr (Or.inl ⟨rfl, rfl⟩)) w_M_frosts rfl rfl rfl (Nat.le_of_ble_eq_true rfl) (Nat.le_of_ble_eq_true rfl) (m_rlt (q_M_frosts _) (Nat.lt_of_lt_of_le (by decide) hρ)) rfl (fun v1487 s1487 => ?_)
    refine e_icmpeq (t := 1665) i_L_law_1490 (by decide) ?_ ?_
    · refine e_iinc (w := 8) (L' := [some (.ref r0), some (.ref r1), some (.ref r2), some (.int (n3 + (8 : Int32)))]) i_L_law_1665 rfl (of_decide_eq_true rfl) (by decide) rfl ?_
      refine e_goto (t := 18) i_L_law_1668 (by decide) ?_
      exact rfl
    · refine e_iconst (v := 0) i_L_law_1493 (by decide) ?_
      exact e_iretZ i_L_law_1494 rfl (by decide)
theorem i_M_about_0 : m_at k_M_about 0 = some (.iload_n 1, 1, 0) := m_at_of r_M_about (by decide +kernel)
theorem i_M_about_1 : m_at k_M_about 1 = some (.iconst 0, 1, 0) := m_at_of r_M_about (by decide +kernel)
theorem i_M_about_2 : m_at k_M_about 2 = some (.bipush 7, 2, 0) := m_at_of r_M_about (by decide +kernel)
theorem i_M_about_4 : m_at k_M_about 4 = some (.invokestatic 81, 3, 96) := m_at_of r_M_about (by decide +kernel)
theorem i_M_about_7 : m_at k_M_about 7 = some (.ifCond .eq (12), 3, 0) := m_at_of r_M_about (by decide +kernel)
theorem i_M_about_10 : m_at k_M_about 10 = some (.aload_n 0, 1, 0) := m_at_of r_M_about (by decide +kernel)
theorem i_M_about_11 : m_at k_M_about 11 = some (.getfield 7, 3, 0) := m_at_of r_M_about (by decide +kernel)
theorem i_M_about_14 : m_at k_M_about 14 = some (.iload_n 1, 1, 0) := m_at_of r_M_about (by decide +kernel)
theorem i_M_about_15 : m_at k_M_about 15 = some (.iaload, 1, 0) := m_at_of r_M_about (by decide +kernel)
theorem i_M_about_16 : m_at k_M_about 16 = some (.goto (18), 3, 0) := m_at_of r_M_about (by decide +kernel)
theorem i_M_about_19 : m_at k_M_about 19 = some (.iload_n 1, 1, 0) := m_at_of r_M_about (by decide +kernel)
theorem i_M_about_20 : m_at k_M_about 20 = some (.bipush 8, 2, 0) := m_at_of r_M_about (by decide +kernel)
theorem i_M_about_22 : m_at k_M_about 22 = some (.if_icmp .ne (10), 3, 0) := m_at_of r_M_about (by decide +kernel)
theorem i_M_about_25 : m_at k_M_about 25 = some (.aload_n 0, 1, 0) := m_at_of r_M_about (by decide +kernel)
theorem i_M_about_26 : m_at k_M_about 26 = some (.getfield 97, 3, 1) := m_at_of r_M_about (by decide +kernel)
theorem i_M_about_29 : m_at k_M_about 29 = some (.goto (5), 3, 0) := m_at_of r_M_about (by decide +kernel)
theorem i_M_about_32 : m_at k_M_about 32 = some (.bipush (-2), 2, 0) := m_at_of r_M_about (by decide +kernel)
theorem i_M_about_34 : m_at k_M_about 34 = some (.ireturn, 1, 0) := m_at_of r_M_about (by decide +kernel)
set_option maxRecDepth 20000 in
set_option maxHeartbeats 1000000 in
theorem E_M_about (x : m_X) (s : m_H) (w : Nat) (n1 : Int32) : m_M x k_M_about [.ref w, .int n1] s = if m_isO s w 11 = true then (m_bI (m_M x k_M_isIn [.int n1, .int 0, .int 7] s) fun v4 s4 => if v4 = 0 then (if n1 = 8 then ((m_fI s4 11 4 w).bind fun v26 => some (some (.int v26), s4)) else some (some (.int (-2)), s4)) else (m_fR s4 11 0 w).bind fun v11 => (m_ia x s4 v11 n1).bind fun v15 => some (some (.int v15), s4)) else none := by
  refine e_M1 (L0 := [some (.ref w), some (.int n1)]) rfl (by decide +kernel) rfl (q_M_about _) rfl ?_
  refine e_iload_n i_M_about_0 rfl ?_
  refine e_iconst (v := 0) i_M_about_1 (by decide) ?_
  refine e_bipush (v := 7) i_M_about_2 (by decide) ?_
  refine e_callI (as := [.int n1, .int 0, .int 7]) (st' := []) i_M_about_4 lm_96 (Or.inl ⟨rfl, rfl⟩) w_M_isIn rfl rfl rfl (Nat.le_of_ble_eq_true rfl) (Nat.le_of_ble_eq_true rfl) (m_rlt (q_M_isIn _) (by decide)) rfl (fun v4 s4 => ?_)
  refine e_ifeq (t := 19) i_M_about_7 (by decide) ?_ ?_
  · refine e_iload_n i_M_about_19 rfl ?_
    refine e_bipush (v := 8) i_M_about_20 (by decide) ?_
    refine e_icmpne (t := 32) i_M_about_22 (by decide) ?_ ?_
    · refine e_bipush (v := (-2)) i_M_about_32 (by decide) ?_
      exact e_iretI i_M_about_34 rfl
    · refine e_aload_n i_M_about_25 rfl ?_
      refine e_getI i_M_about_26 lf_1 (by decide) (Or.inl ft_11_4) (fun v26 => ?_)
      refine e_goto (t := 34) i_M_about_29 (by decide) ?_
      exact e_iretI i_M_about_34 rfl
  · refine e_aload_n i_M_about_10 rfl ?_
    refine e_getR i_M_about_11 lf_0 (by decide) ft_11_0 (fun v11 => ?_)
    refine e_iload_n i_M_about_14 rfl ?_
    refine e_iald i_M_about_15 (fun v15 => ?_)
    refine e_goto (t := 34) i_M_about_16 (by decide) ?_
    exact e_iretI i_M_about_34 rfl
theorem i_M_back_0 : m_at k_M_back 0 = some (.aload_n 0, 1, 0) := m_at_of r_M_back (by decide +kernel)
theorem i_M_back_1 : m_at k_M_back 1 = some (.getfield 13, 3, 16) := m_at_of r_M_back (by decide +kernel)
theorem i_M_back_4 : m_at k_M_back 4 = some (.aload_n 0, 1, 0) := m_at_of r_M_back (by decide +kernel)
theorem i_M_back_5 : m_at k_M_back 5 = some (.getfield 7, 3, 0) := m_at_of r_M_back (by decide +kernel)
theorem i_M_back_8 : m_at k_M_back 8 = some (.invokestatic 77, 3, 97) := m_at_of r_M_back (by decide +kernel)
theorem i_M_back_11 : m_at k_M_back 11 = some (.aload_n 0, 1, 0) := m_at_of r_M_back (by decide +kernel)
theorem i_M_back_12 : m_at k_M_back 12 = some (.getfield 7, 3, 0) := m_at_of r_M_back (by decide +kernel)
theorem i_M_back_15 : m_at k_M_back 15 = some (.bipush 8, 2, 0) := m_at_of r_M_back (by decide +kernel)
theorem i_M_back_17 : m_at k_M_back 17 = some (.iaload, 1, 0) := m_at_of r_M_back (by decide +kernel)
theorem i_M_back_18 : m_at k_M_back 18 = some (.ireturn, 1, 0) := m_at_of r_M_back (by decide +kernel)
set_option maxRecDepth 20000 in
set_option maxHeartbeats 1000000 in
theorem E_M_back (x : m_X) (s : m_H) (w : Nat) : m_M x k_M_back [.ref w] s = if m_isO s w 11 = true then ((m_fR s 11 1 w).bind fun v1 => (m_fR s 11 0 w).bind fun v5 => m_bV (m_M x k_M_copy [.ref v1, .ref v5] s) fun s8 => (m_fR s8 11 0 w).bind fun v12 => (m_ia x s8 v12 8).bind fun v17 => some (some (.int v17), s8)) else none := by
  refine e_M1 (L0 := [some (.ref w)]) rfl (by decide +kernel) rfl (q_M_back _) rfl ?_
  refine e_aload_n i_M_back_0 rfl ?_
  refine e_getR i_M_back_1 lf_16 (by decide) ft_11_1 (fun v1 => ?_)
  refine e_aload_n i_M_back_4 rfl ?_
  refine e_getR i_M_back_5 lf_0 (by decide) ft_11_0 (fun v5 => ?_)
  refine e_callV (as := [.ref v1, .ref v5]) (st' := []) i_M_back_8 lm_97 (Or.inl ⟨rfl, rfl⟩) w_M_copy rfl rfl rfl (Nat.le_of_ble_eq_true rfl) (Nat.le_of_ble_eq_true rfl) (m_rlt (q_M_copy _) (by decide)) rfl (fun s8 => ?_)
  refine e_aload_n i_M_back_11 rfl ?_
  refine e_getR i_M_back_12 lf_0 (by decide) ft_11_0 (fun v12 => ?_)
  refine e_bipush (v := 8) i_M_back_15 (by decide) ?_
  refine e_iald i_M_back_17 (fun v17 => ?_)
  exact e_iretI i_M_back_18 rfl
theorem i_M_image_0 : m_at k_M_image 0 = some (.aload_n 0, 1, 0) := m_at_of r_M_image (by decide +kernel)
theorem i_M_image_1 : m_at k_M_image 1 = some (.getfield 7, 3, 0) := m_at_of r_M_image (by decide +kernel)
theorem i_M_image_4 : m_at k_M_image 4 = some (.aload_n 0, 1, 0) := m_at_of r_M_image (by decide +kernel)
theorem i_M_image_5 : m_at k_M_image 5 = some (.getfield 13, 3, 16) := m_at_of r_M_image (by decide +kernel)
theorem i_M_image_8 : m_at k_M_image 8 = some (.invokestatic 77, 3, 97) := m_at_of r_M_image (by decide +kernel)
theorem i_M_image_11 : m_at k_M_image 11 = some (.aload_n 0, 1, 0) := m_at_of r_M_image (by decide +kernel)
theorem i_M_image_12 : m_at k_M_image 12 = some (.getfield 7, 3, 0) := m_at_of r_M_image (by decide +kernel)
theorem i_M_image_15 : m_at k_M_image 15 = some (.bipush 8, 2, 0) := m_at_of r_M_image (by decide +kernel)
theorem i_M_image_17 : m_at k_M_image 17 = some (.iaload, 1, 0) := m_at_of r_M_image (by decide +kernel)
theorem i_M_image_18 : m_at k_M_image 18 = some (.ireturn, 1, 0) := m_at_of r_M_image (by decide +kernel)
set_option maxRecDepth 20000 in
set_option maxHeartbeats 1000000 in
theorem E_M_image (x : m_X) (s : m_H) (w : Nat) : m_M x k_M_image [.ref w] s = if m_isO s w 11 = true then ((m_fR s 11 0 w).bind fun v1 => (m_fR s 11 1 w).bind fun v5 => m_bV (m_M x k_M_copy [.ref v1, .ref v5] s) fun s8 => (m_fR s8 11 0 w).bind fun v12 => (m_ia x s8 v12 8).bind fun v17 => some (some (.int v17), s8)) else none := by
  refine e_M1 (L0 := [some (.ref w)]) rfl (by decide +kernel) rfl (q_M_image _) rfl ?_
  refine e_aload_n i_M_image_0 rfl ?_
  refine e_getR i_M_image_1 lf_0 (by decide) ft_11_0 (fun v1 => ?_)
  refine e_aload_n i_M_image_4 rfl ?_
  refine e_getR i_M_image_5 lf_16 (by decide) ft_11_1 (fun v5 => ?_)
  refine e_callV (as := [.ref v1, .ref v5]) (st' := []) i_M_image_8 lm_97 (Or.inl ⟨rfl, rfl⟩) w_M_copy rfl rfl rfl (Nat.le_of_ble_eq_true rfl) (Nat.le_of_ble_eq_true rfl) (m_rlt (q_M_copy _) (by decide)) rfl (fun s8 => ?_)
  refine e_aload_n i_M_image_11 rfl ?_
  refine e_getR i_M_image_12 lf_0 (by decide) ft_11_0 (fun v12 => ?_)
  refine e_bipush (v := 8) i_M_image_15 (by decide) ?_
  refine e_iald i_M_image_17 (fun v17 => ?_)
  exact e_iretI i_M_image_18 rfl
theorem i_M_coldest_0 : m_at k_M_coldest 0 = some (.iconst (-1), 1, 0) := m_at_of r_M_coldest (by decide +kernel)
theorem i_M_coldest_1 : m_at k_M_coldest 1 = some (.istore_n 1, 1, 0) := m_at_of r_M_coldest (by decide +kernel)
theorem i_M_coldest_2 : m_at k_M_coldest 2 = some (.iconst 0, 1, 0) := m_at_of r_M_coldest (by decide +kernel)
theorem i_M_coldest_3 : m_at k_M_coldest 3 = some (.istore_n 2, 1, 0) := m_at_of r_M_coldest (by decide +kernel)
theorem i_M_coldest_4 : m_at k_M_coldest 4 = some (.iload_n 2, 1, 0) := m_at_of r_M_coldest (by decide +kernel)
theorem i_M_coldest_5 : m_at k_M_coldest 5 = some (.aload_n 0, 1, 0) := m_at_of r_M_coldest (by decide +kernel)
theorem i_M_coldest_6 : m_at k_M_coldest 6 = some (.getfield 7, 3, 0) := m_at_of r_M_coldest (by decide +kernel)
theorem i_M_coldest_9 : m_at k_M_coldest 9 = some (.iconst 0, 1, 0) := m_at_of r_M_coldest (by decide +kernel)
theorem i_M_coldest_10 : m_at k_M_coldest 10 = some (.iaload, 1, 0) := m_at_of r_M_coldest (by decide +kernel)
theorem i_M_coldest_11 : m_at k_M_coldest 11 = some (.if_icmp .ge (37), 3, 0) := m_at_of r_M_coldest (by decide +kernel)
theorem i_M_coldest_14 : m_at k_M_coldest 14 = some (.iload_n 1, 1, 0) := m_at_of r_M_coldest (by decide +kernel)
theorem i_M_coldest_15 : m_at k_M_coldest 15 = some (.iconst (-1), 1, 0) := m_at_of r_M_coldest (by decide +kernel)
theorem i_M_coldest_16 : m_at k_M_coldest 16 = some (.if_icmp .eq (24), 3, 0) := m_at_of r_M_coldest (by decide +kernel)
theorem i_M_coldest_19 : m_at k_M_coldest 19 = some (.aload_n 0, 1, 0) := m_at_of r_M_coldest (by decide +kernel)
theorem i_M_coldest_20 : m_at k_M_coldest 20 = some (.getfield 7, 3, 0) := m_at_of r_M_coldest (by decide +kernel)
theorem i_M_coldest_23 : m_at k_M_coldest 23 = some (.bipush 20, 2, 0) := m_at_of r_M_coldest (by decide +kernel)
theorem i_M_coldest_25 : m_at k_M_coldest 25 = some (.iload_n 2, 1, 0) := m_at_of r_M_coldest (by decide +kernel)
theorem i_M_coldest_26 : m_at k_M_coldest 26 = some (.iadd, 1, 0) := m_at_of r_M_coldest (by decide +kernel)
theorem i_M_coldest_27 : m_at k_M_coldest 27 = some (.iaload, 1, 0) := m_at_of r_M_coldest (by decide +kernel)
theorem i_M_coldest_28 : m_at k_M_coldest 28 = some (.aload_n 0, 1, 0) := m_at_of r_M_coldest (by decide +kernel)
theorem i_M_coldest_29 : m_at k_M_coldest 29 = some (.getfield 7, 3, 0) := m_at_of r_M_coldest (by decide +kernel)
theorem i_M_coldest_32 : m_at k_M_coldest 32 = some (.bipush 20, 2, 0) := m_at_of r_M_coldest (by decide +kernel)
theorem i_M_coldest_34 : m_at k_M_coldest 34 = some (.iload_n 1, 1, 0) := m_at_of r_M_coldest (by decide +kernel)
theorem i_M_coldest_35 : m_at k_M_coldest 35 = some (.iadd, 1, 0) := m_at_of r_M_coldest (by decide +kernel)
theorem i_M_coldest_36 : m_at k_M_coldest 36 = some (.iaload, 1, 0) := m_at_of r_M_coldest (by decide +kernel)
theorem i_M_coldest_37 : m_at k_M_coldest 37 = some (.if_icmp .le (5), 3, 0) := m_at_of r_M_coldest (by decide +kernel)
theorem i_M_coldest_40 : m_at k_M_coldest 40 = some (.iload_n 2, 1, 0) := m_at_of r_M_coldest (by decide +kernel)
theorem i_M_coldest_41 : m_at k_M_coldest 41 = some (.istore_n 1, 1, 0) := m_at_of r_M_coldest (by decide +kernel)
theorem i_M_coldest_42 : m_at k_M_coldest 42 = some (.iinc 2 (1), 3, 0) := m_at_of r_M_coldest (by decide +kernel)
theorem i_M_coldest_45 : m_at k_M_coldest 45 = some (.goto (-41), 3, 0) := m_at_of r_M_coldest (by decide +kernel)
theorem i_M_coldest_48 : m_at k_M_coldest 48 = some (.iload_n 1, 1, 0) := m_at_of r_M_coldest (by decide +kernel)
theorem i_M_coldest_49 : m_at k_M_coldest 49 = some (.ireturn, 1, 0) := m_at_of r_M_coldest (by decide +kernel)
set_option maxRecDepth 20000 in
set_option maxHeartbeats 1000000 in
theorem E_M_coldest (x : m_X) (s : m_H) (w : Nat) : m_M x k_M_coldest [.ref w] s = if m_isO s w 11 = true then (m_D x 1 k_M_coldest 4 [some (.ref w), some (.int (-1)), some (.int 0)] [] s) else none := by
  refine e_M1 (L0 := [some (.ref w), none, none]) rfl (by decide +kernel) rfl (q_M_coldest _) rfl ?_
  refine e_iconst (v := (-1)) i_M_coldest_0 (by decide) ?_
  refine e_istore_n (L' := [some (.ref w), some (.int (-1)), none]) i_M_coldest_1 (of_decide_eq_true rfl) rfl ?_
  refine e_iconst (v := 0) i_M_coldest_2 (by decide) ?_
  refine e_istore_n (L' := [some (.ref w), some (.int (-1)), some (.int 0)]) i_M_coldest_3 (of_decide_eq_true rfl) rfl ?_
  exact rfl
set_option maxRecDepth 20000 in
set_option maxHeartbeats 1000000 in
theorem E_M_coldest_4 (x : m_X) (ρ : Nat) (hρ : 1 ≤ ρ) (s : m_H) (w : Nat) (n1 : Int32) (n2 : Int32)  : m_D x ρ k_M_coldest 4 [some (.ref w), some (.int n1), some (.int n2)] [] s = (m_fR s 11 0 w).bind fun v6 => (m_ia x s v6 0).bind fun v10 => if v10 ≤ n2 then (some (some (.int n1), s)) else if n1 = (-1) then (m_D x ρ k_M_coldest 4 [some (.ref w), some (.int n2), some (.int (n2 + (1 : Int32)))] [] s) else (m_fR s 11 0 w).bind fun v20 => (m_ia x s v20 ((20 : Int32) + n2)).bind fun v27 => (m_fR s 11 0 w).bind fun v29 => (m_ia x s v29 ((20 : Int32) + n1)).bind fun v36 => if v27 ≤ v36 then (m_D x ρ k_M_coldest 4 [some (.ref w), some (.int n1), some (.int (n2 + (1 : Int32)))] [] s) else m_D x ρ k_M_coldest 4 [some (.ref w), some (.int n2), some (.int (n2 + (1 : Int32)))] [] s := by
  refine e_iload_n i_M_coldest_4 rfl ?_
  refine e_aload_n i_M_coldest_5 rfl ?_
  refine e_getR i_M_coldest_6 lf_0 (by decide) ft_11_0 (fun v6 => ?_)
  refine e_iconst (v := 0) i_M_coldest_9 (by decide) ?_
  refine e_iald i_M_coldest_10 (fun v10 => ?_)
  refine e_icmpge (t := 48) i_M_coldest_11 (by decide) ?_ ?_
  · refine e_iload_n i_M_coldest_48 rfl ?_
    exact e_iretI i_M_coldest_49 rfl
  · refine e_iload_n i_M_coldest_14 rfl ?_
    refine e_iconst (v := (-1)) i_M_coldest_15 (by decide) ?_
    refine e_icmpeq (t := 40) i_M_coldest_16 (by decide) ?_ ?_
    · refine e_iload_n i_M_coldest_40 rfl ?_
      refine e_istore_n (L' := [some (.ref w), some (.int n2), some (.int n2)]) i_M_coldest_41 (of_decide_eq_true rfl) rfl ?_
      refine e_iinc (w := 1) (L' := [some (.ref w), some (.int n2), some (.int (n2 + (1 : Int32)))]) i_M_coldest_42 rfl (of_decide_eq_true rfl) (by decide) rfl ?_
      refine e_goto (t := 4) i_M_coldest_45 (by decide) ?_
      exact rfl
    · refine e_aload_n i_M_coldest_19 rfl ?_
      refine e_getR i_M_coldest_20 lf_0 (by decide) ft_11_0 (fun v20 => ?_)
      refine e_bipush (v := 20) i_M_coldest_23 (by decide) ?_
      refine e_iload_n i_M_coldest_25 rfl ?_
      refine e_iadd i_M_coldest_26 ?_
      refine e_iald i_M_coldest_27 (fun v27 => ?_)
      refine e_aload_n i_M_coldest_28 rfl ?_
      refine e_getR i_M_coldest_29 lf_0 (by decide) ft_11_0 (fun v29 => ?_)
      refine e_bipush (v := 20) i_M_coldest_32 (by decide) ?_
      refine e_iload_n i_M_coldest_34 rfl ?_
      refine e_iadd i_M_coldest_35 ?_
      refine e_iald i_M_coldest_36 (fun v36 => ?_)
      refine e_icmple (t := 42) i_M_coldest_37 (by decide) ?_ ?_
      · refine e_iinc (w := 1) (L' := [some (.ref w), some (.int n1), some (.int (n2 + (1 : Int32)))]) i_M_coldest_42 rfl (of_decide_eq_true rfl) (by decide) rfl ?_
        refine e_goto (t := 4) i_M_coldest_45 (by decide) ?_
        exact rfl
      · refine e_iload_n i_M_coldest_40 rfl ?_
        refine e_istore_n (L' := [some (.ref w), some (.int n2), some (.int n2)]) i_M_coldest_41 (of_decide_eq_true rfl) rfl ?_
        refine e_iinc (w := 1) (L' := [some (.ref w), some (.int n2), some (.int (n2 + (1 : Int32)))]) i_M_coldest_42 rfl (of_decide_eq_true rfl) (by decide) rfl ?_
        refine e_goto (t := 4) i_M_coldest_45 (by decide) ?_
        exact rfl
theorem i_M_pairs_0 : m_at k_M_pairs 0 = some (.iconst 0, 1, 0) := m_at_of r_M_pairs (by decide +kernel)
theorem i_M_pairs_1 : m_at k_M_pairs 1 = some (.istore_n 1, 1, 0) := m_at_of r_M_pairs (by decide +kernel)
theorem i_M_pairs_2 : m_at k_M_pairs 2 = some (.iconst 0, 1, 0) := m_at_of r_M_pairs (by decide +kernel)
theorem i_M_pairs_3 : m_at k_M_pairs 3 = some (.istore_n 2, 1, 0) := m_at_of r_M_pairs (by decide +kernel)
theorem i_M_pairs_4 : m_at k_M_pairs 4 = some (.iload_n 2, 1, 0) := m_at_of r_M_pairs (by decide +kernel)
theorem i_M_pairs_5 : m_at k_M_pairs 5 = some (.aload_n 0, 1, 0) := m_at_of r_M_pairs (by decide +kernel)
theorem i_M_pairs_6 : m_at k_M_pairs 6 = some (.getfield 7, 3, 0) := m_at_of r_M_pairs (by decide +kernel)
theorem i_M_pairs_9 : m_at k_M_pairs 9 = some (.bipush 11, 2, 0) := m_at_of r_M_pairs (by decide +kernel)
theorem i_M_pairs_11 : m_at k_M_pairs 11 = some (.iaload, 1, 0) := m_at_of r_M_pairs (by decide +kernel)
theorem i_M_pairs_12 : m_at k_M_pairs 12 = some (.if_icmp .ge (76), 3, 0) := m_at_of r_M_pairs (by decide +kernel)
theorem i_M_pairs_15 : m_at k_M_pairs 15 = some (.iconst 0, 1, 0) := m_at_of r_M_pairs (by decide +kernel)
theorem i_M_pairs_16 : m_at k_M_pairs 16 = some (.istore_n 3, 1, 0) := m_at_of r_M_pairs (by decide +kernel)
theorem i_M_pairs_17 : m_at k_M_pairs 17 = some (.iload_n 3, 1, 0) := m_at_of r_M_pairs (by decide +kernel)
theorem i_M_pairs_18 : m_at k_M_pairs 18 = some (.iload_n 2, 1, 0) := m_at_of r_M_pairs (by decide +kernel)
theorem i_M_pairs_19 : m_at k_M_pairs 19 = some (.if_icmp .ge (63), 3, 0) := m_at_of r_M_pairs (by decide +kernel)
theorem i_M_pairs_22 : m_at k_M_pairs 22 = some (.iload_n 1, 1, 0) := m_at_of r_M_pairs (by decide +kernel)
theorem i_M_pairs_23 : m_at k_M_pairs 23 = some (.aload_n 0, 1, 0) := m_at_of r_M_pairs (by decide +kernel)
theorem i_M_pairs_24 : m_at k_M_pairs 24 = some (.iload_n 2, 1, 0) := m_at_of r_M_pairs (by decide +kernel)
theorem i_M_pairs_25 : m_at k_M_pairs 25 = some (.invokevirtual 89, 3, 105) := m_at_of r_M_pairs (by decide +kernel)
theorem i_M_pairs_28 : m_at k_M_pairs 28 = some (.ifCond .eq (45), 3, 0) := m_at_of r_M_pairs (by decide +kernel)
theorem i_M_pairs_31 : m_at k_M_pairs 31 = some (.aload_n 0, 1, 0) := m_at_of r_M_pairs (by decide +kernel)
theorem i_M_pairs_32 : m_at k_M_pairs 32 = some (.iload_n 3, 1, 0) := m_at_of r_M_pairs (by decide +kernel)
theorem i_M_pairs_33 : m_at k_M_pairs 33 = some (.invokevirtual 89, 3, 105) := m_at_of r_M_pairs (by decide +kernel)
theorem i_M_pairs_36 : m_at k_M_pairs 36 = some (.ifCond .eq (37), 3, 0) := m_at_of r_M_pairs (by decide +kernel)
theorem i_M_pairs_39 : m_at k_M_pairs 39 = some (.aload_n 0, 1, 0) := m_at_of r_M_pairs (by decide +kernel)
theorem i_M_pairs_40 : m_at k_M_pairs 40 = some (.iload_n 2, 1, 0) := m_at_of r_M_pairs (by decide +kernel)
theorem i_M_pairs_41 : m_at k_M_pairs 41 = some (.iconst 5, 1, 0) := m_at_of r_M_pairs (by decide +kernel)
theorem i_M_pairs_42 : m_at k_M_pairs 42 = some (.invokevirtual 85, 3, 106) := m_at_of r_M_pairs (by decide +kernel)
theorem i_M_pairs_45 : m_at k_M_pairs 45 = some (.aload_n 0, 1, 0) := m_at_of r_M_pairs (by decide +kernel)
theorem i_M_pairs_46 : m_at k_M_pairs 46 = some (.iload_n 3, 1, 0) := m_at_of r_M_pairs (by decide +kernel)
theorem i_M_pairs_47 : m_at k_M_pairs 47 = some (.iconst 5, 1, 0) := m_at_of r_M_pairs (by decide +kernel)
theorem i_M_pairs_48 : m_at k_M_pairs 48 = some (.invokevirtual 85, 3, 106) := m_at_of r_M_pairs (by decide +kernel)
theorem i_M_pairs_51 : m_at k_M_pairs 51 = some (.if_icmp .ne (22), 3, 0) := m_at_of r_M_pairs (by decide +kernel)
theorem i_M_pairs_54 : m_at k_M_pairs 54 = some (.aload_n 0, 1, 0) := m_at_of r_M_pairs (by decide +kernel)
theorem i_M_pairs_55 : m_at k_M_pairs 55 = some (.iload_n 2, 1, 0) := m_at_of r_M_pairs (by decide +kernel)
theorem i_M_pairs_56 : m_at k_M_pairs 56 = some (.iconst 3, 1, 0) := m_at_of r_M_pairs (by decide +kernel)
theorem i_M_pairs_57 : m_at k_M_pairs 57 = some (.invokevirtual 85, 3, 106) := m_at_of r_M_pairs (by decide +kernel)
theorem i_M_pairs_60 : m_at k_M_pairs 60 = some (.aload_n 0, 1, 0) := m_at_of r_M_pairs (by decide +kernel)
theorem i_M_pairs_61 : m_at k_M_pairs 61 = some (.iload_n 3, 1, 0) := m_at_of r_M_pairs (by decide +kernel)
theorem i_M_pairs_62 : m_at k_M_pairs 62 = some (.iconst 3, 1, 0) := m_at_of r_M_pairs (by decide +kernel)
theorem i_M_pairs_63 : m_at k_M_pairs 63 = some (.invokevirtual 85, 3, 106) := m_at_of r_M_pairs (by decide +kernel)
theorem i_M_pairs_66 : m_at k_M_pairs 66 = some (.if_icmp .ne (7), 3, 0) := m_at_of r_M_pairs (by decide +kernel)
theorem i_M_pairs_69 : m_at k_M_pairs 69 = some (.iconst 1, 1, 0) := m_at_of r_M_pairs (by decide +kernel)
theorem i_M_pairs_70 : m_at k_M_pairs 70 = some (.goto (4), 3, 0) := m_at_of r_M_pairs (by decide +kernel)
theorem i_M_pairs_73 : m_at k_M_pairs 73 = some (.iconst 0, 1, 0) := m_at_of r_M_pairs (by decide +kernel)
theorem i_M_pairs_74 : m_at k_M_pairs 74 = some (.iadd, 1, 0) := m_at_of r_M_pairs (by decide +kernel)
theorem i_M_pairs_75 : m_at k_M_pairs 75 = some (.istore_n 1, 1, 0) := m_at_of r_M_pairs (by decide +kernel)
theorem i_M_pairs_76 : m_at k_M_pairs 76 = some (.iinc 3 (1), 3, 0) := m_at_of r_M_pairs (by decide +kernel)
theorem i_M_pairs_79 : m_at k_M_pairs 79 = some (.goto (-62), 3, 0) := m_at_of r_M_pairs (by decide +kernel)
theorem i_M_pairs_82 : m_at k_M_pairs 82 = some (.iinc 2 (1), 3, 0) := m_at_of r_M_pairs (by decide +kernel)
theorem i_M_pairs_85 : m_at k_M_pairs 85 = some (.goto (-81), 3, 0) := m_at_of r_M_pairs (by decide +kernel)
theorem i_M_pairs_88 : m_at k_M_pairs 88 = some (.iload_n 1, 1, 0) := m_at_of r_M_pairs (by decide +kernel)
theorem i_M_pairs_89 : m_at k_M_pairs 89 = some (.ireturn, 1, 0) := m_at_of r_M_pairs (by decide +kernel)
set_option maxRecDepth 20000 in
set_option maxHeartbeats 1000000 in
theorem E_M_pairs (x : m_X) (s : m_H) (w : Nat) : m_M x k_M_pairs [.ref w] s = if m_isO s w 11 = true then (m_D x 3 k_M_pairs 4 [some (.ref w), some (.int 0), some (.int 0), none] [] s) else none := by
  refine e_M1 (L0 := [some (.ref w), none, none, none]) rfl (by decide +kernel) rfl (q_M_pairs _) rfl ?_
  refine e_iconst (v := 0) i_M_pairs_0 (by decide) ?_
  refine e_istore_n (L' := [some (.ref w), some (.int 0), none, none]) i_M_pairs_1 (of_decide_eq_true rfl) rfl ?_
  refine e_iconst (v := 0) i_M_pairs_2 (by decide) ?_
  refine e_istore_n (L' := [some (.ref w), some (.int 0), some (.int 0), none]) i_M_pairs_3 (of_decide_eq_true rfl) rfl ?_
  exact rfl
set_option maxRecDepth 20000 in
set_option maxHeartbeats 1000000 in
theorem E_M_pairs_4 (x : m_X) (ρ : Nat) (hρ : 3 ≤ ρ) (s : m_H) (w : Nat) (n1 : Int32) (n2 : Int32) (d3 : Option Value) (hd3 : m_nl d3 = true) : m_D x ρ k_M_pairs 4 [some (.ref w), some (.int n1), some (.int n2), d3] [] s = (m_fR s 11 0 w).bind fun v6 => (m_ia x s v6 11).bind fun v11 => if v11 ≤ n2 then (some (some (.int n1), s)) else m_D x ρ k_M_pairs 17 [some (.ref w), some (.int n1), some (.int n2), some (.int 0)] [] s := by
  refine e_iload_n i_M_pairs_4 rfl ?_
  refine e_aload_n i_M_pairs_5 rfl ?_
  refine e_getR i_M_pairs_6 lf_0 (by decide) ft_11_0 (fun v6 => ?_)
  refine e_bipush (v := 11) i_M_pairs_9 (by decide) ?_
  refine e_iald i_M_pairs_11 (fun v11 => ?_)
  refine e_icmpge (t := 88) i_M_pairs_12 (by decide) ?_ ?_
  · refine e_iload_n i_M_pairs_88 rfl ?_
    exact e_iretI i_M_pairs_89 rfl
  · refine e_iconst (v := 0) i_M_pairs_15 (by decide) ?_
    refine e_istore_n (L' := [some (.ref w), some (.int n1), some (.int n2), some (.int 0)]) i_M_pairs_16 (of_decide_eq_true rfl) rfl ?_
    exact rfl
set_option maxRecDepth 20000 in
set_option maxHeartbeats 1000000 in
theorem E_M_pairs_17 (x : m_X) (ρ : Nat) (hρ : 3 ≤ ρ) (s : m_H) (w : Nat) (n1 : Int32) (n2 : Int32) (n3 : Int32)  : m_D x ρ k_M_pairs 17 [some (.ref w), some (.int n1), some (.int n2), some (.int n3)] [] s = if n2 ≤ n3 then (m_D x ρ k_M_pairs 4 [some (.ref w), some (.int n1), some (.int (n2 + (1 : Int32))), some (.int n3)] [] s) else m_bI (m_M x k_M_isOpen [.ref w, .int n2] s) fun v25 s25 => if v25 = 0 then (m_D x ρ k_M_pairs 17 [some (.ref w), some (.int (n1 + (0 : Int32))), some (.int n2), some (.int (n3 + (1 : Int32)))] [] s25) else m_bI (m_M x k_M_isOpen [.ref w, .int n3] s25) fun v33 s33 => if v33 = 0 then (m_D x ρ k_M_pairs 17 [some (.ref w), some (.int (n1 + (0 : Int32))), some (.int n2), some (.int (n3 + (1 : Int32)))] [] s33) else m_bI (m_M x k_M_get [.ref w, .int n2, .int 5] s33) fun v42 s42 => m_bI (m_M x k_M_get [.ref w, .int n3, .int 5] s42) fun v48 s48 => if v42 = v48 then (m_bI (m_M x k_M_get [.ref w, .int n2, .int 3] s48) fun v57 s57 => m_bI (m_M x k_M_get [.ref w, .int n3, .int 3] s57) fun v63 s63 => if v57 = v63 then (m_D x ρ k_M_pairs 17 [some (.ref w), some (.int (n1 + (1 : Int32))), some (.int n2), some (.int (n3 + (1 : Int32)))] [] s63) else m_D x ρ k_M_pairs 17 [some (.ref w), some (.int (n1 + (0 : Int32))), some (.int n2), some (.int (n3 + (1 : Int32)))] [] s63) else m_D x ρ k_M_pairs 17 [some (.ref w), some (.int (n1 + (0 : Int32))), some (.int n2), some (.int (n3 + (1 : Int32)))] [] s48 := by
  refine e_iload_n i_M_pairs_17 rfl ?_
  refine e_iload_n i_M_pairs_18 rfl ?_
  refine e_icmpge (t := 82) i_M_pairs_19 (by decide) ?_ ?_
  · refine e_iinc (w := 1) (L' := [some (.ref w), some (.int n1), some (.int (n2 + (1 : Int32))), some (.int n3)]) i_M_pairs_82 rfl (of_decide_eq_true rfl) (by decide) rfl ?_
    refine e_goto (t := 4) i_M_pairs_85 (by decide) ?_
    exact rfl
  · refine e_iload_n i_M_pairs_22 rfl ?_
    refine e_aload_n i_M_pairs_23 rfl ?_
    refine e_iload_n i_M_pairs_24 rfl ?_
    refine e_callI (as := [.ref w, .int n2]) (st' := [.int n1]) i_M_pairs_25 lm_105 (Or.inr (Or.inl ⟨rfl, rfl⟩)) w_M_isOpen rfl rfl rfl (Nat.le_of_ble_eq_true rfl) (Nat.le_of_ble_eq_true rfl) (m_rlt (q_M_isOpen _) (Nat.lt_of_lt_of_le (by decide) hρ)) rfl (fun v25 s25 => ?_)
    refine e_ifeq (t := 73) i_M_pairs_28 (by decide) ?_ ?_
    · refine e_iconst (v := 0) i_M_pairs_73 (by decide) ?_
      refine e_iadd i_M_pairs_74 ?_
      refine e_istore_n (L' := [some (.ref w), some (.int (n1 + (0 : Int32))), some (.int n2), some (.int n3)]) i_M_pairs_75 (of_decide_eq_true rfl) rfl ?_
      refine e_iinc (w := 1) (L' := [some (.ref w), some (.int (n1 + (0 : Int32))), some (.int n2), some (.int (n3 + (1 : Int32)))]) i_M_pairs_76 rfl (of_decide_eq_true rfl) (by decide) rfl ?_
      refine e_goto (t := 17) i_M_pairs_79 (by decide) ?_
      exact rfl
    · refine e_aload_n i_M_pairs_31 rfl ?_
      refine e_iload_n i_M_pairs_32 rfl ?_
      refine e_callI (as := [.ref w, .int n3]) (st' := [.int n1]) i_M_pairs_33 lm_105 (Or.inr (Or.inl ⟨rfl, rfl⟩)) w_M_isOpen rfl rfl rfl (Nat.le_of_ble_eq_true rfl) (Nat.le_of_ble_eq_true rfl) (m_rlt (q_M_isOpen _) (Nat.lt_of_lt_of_le (by decide) hρ)) rfl (fun v33 s33 => ?_)
      refine e_ifeq (t := 73) i_M_pairs_36 (by decide) ?_ ?_
      · refine e_iconst (v := 0) i_M_pairs_73 (by decide) ?_
        refine e_iadd i_M_pairs_74 ?_
        refine e_istore_n (L' := [some (.ref w), some (.int (n1 + (0 : Int32))), some (.int n2), some (.int n3)]) i_M_pairs_75 (of_decide_eq_true rfl) rfl ?_
        refine e_iinc (w := 1) (L' := [some (.ref w), some (.int (n1 + (0 : Int32))), some (.int n2), some (.int (n3 + (1 : Int32)))]) i_M_pairs_76 rfl (of_decide_eq_true rfl) (by decide) rfl ?_
        refine e_goto (t := 17) i_M_pairs_79 (by decide) ?_
        exact rfl
      · refine e_aload_n i_M_pairs_39 rfl ?_
        refine e_iload_n i_M_pairs_40 rfl ?_
        refine e_iconst (v := 5) i_M_pairs_41 (by decide) ?_
        refine e_callI (as := [.ref w, .int n2, .int 5]) (st' := [.int n1]) i_M_pairs_42 lm_106 (Or.inr (Or.inl ⟨rfl, rfl⟩)) w_M_get rfl rfl rfl (Nat.le_of_ble_eq_true rfl) (Nat.le_of_ble_eq_true rfl) (m_rlt (q_M_get _) (Nat.lt_of_lt_of_le (by decide) hρ)) rfl (fun v42 s42 => ?_)
        refine e_aload_n i_M_pairs_45 rfl ?_
        refine e_iload_n i_M_pairs_46 rfl ?_
        refine e_iconst (v := 5) i_M_pairs_47 (by decide) ?_
        refine e_callI (as := [.ref w, .int n3, .int 5]) (st' := [.int v42, .int n1]) i_M_pairs_48 lm_106 (Or.inr (Or.inl ⟨rfl, rfl⟩)) w_M_get rfl rfl rfl (Nat.le_of_ble_eq_true rfl) (Nat.le_of_ble_eq_true rfl) (m_rlt (q_M_get _) (Nat.lt_of_lt_of_le (by decide) hρ)) rfl (fun v48 s48 => ?_)
        refine e_icmpne (t := 73) i_M_pairs_51 (by decide) ?_ ?_
        · refine e_iconst (v := 0) i_M_pairs_73 (by decide) ?_
          refine e_iadd i_M_pairs_74 ?_
          refine e_istore_n (L' := [some (.ref w), some (.int (n1 + (0 : Int32))), some (.int n2), some (.int n3)]) i_M_pairs_75 (of_decide_eq_true rfl) rfl ?_
          refine e_iinc (w := 1) (L' := [some (.ref w), some (.int (n1 + (0 : Int32))), some (.int n2), some (.int (n3 + (1 : Int32)))]) i_M_pairs_76 rfl (of_decide_eq_true rfl) (by decide) rfl ?_
          refine e_goto (t := 17) i_M_pairs_79 (by decide) ?_
          exact rfl
        · refine e_aload_n i_M_pairs_54 rfl ?_
          refine e_iload_n i_M_pairs_55 rfl ?_
          refine e_iconst (v := 3) i_M_pairs_56 (by decide) ?_
          refine e_callI (as := [.ref w, .int n2, .int 3]) (st' := [.int n1]) i_M_pairs_57 lm_106 (Or.inr (Or.inl ⟨rfl, rfl⟩)) w_M_get rfl rfl rfl (Nat.le_of_ble_eq_true rfl) (Nat.le_of_ble_eq_true rfl) (m_rlt (q_M_get _) (Nat.lt_of_lt_of_le (by decide) hρ)) rfl (fun v57 s57 => ?_)
          refine e_aload_n i_M_pairs_60 rfl ?_
          refine e_iload_n i_M_pairs_61 rfl ?_
          refine e_iconst (v := 3) i_M_pairs_62 (by decide) ?_
          refine e_callI (as := [.ref w, .int n3, .int 3]) (st' := [.int v57, .int n1]) i_M_pairs_63 lm_106 (Or.inr (Or.inl ⟨rfl, rfl⟩)) w_M_get rfl rfl rfl (Nat.le_of_ble_eq_true rfl) (Nat.le_of_ble_eq_true rfl) (m_rlt (q_M_get _) (Nat.lt_of_lt_of_le (by decide) hρ)) rfl (fun v63 s63 => ?_)
          refine e_icmpne (t := 73) i_M_pairs_66 (by decide) ?_ ?_
          · refine e_iconst (v := 0) i_M_pairs_73 (by decide) ?_
            refine e_iadd i_M_pairs_74 ?_
            refine e_istore_n (L' := [some (.ref w), some (.int (n1 + (0 : Int32))), some (.int n2), some (.int n3)]) i_M_pairs_75 (of_decide_eq_true rfl) rfl ?_
            refine e_iinc (w := 1) (L' := [some (.ref w), some (.int (n1 + (0 : Int32))), some (.int n2), some (.int (n3 + (1 : Int32)))]) i_M_pairs_76 rfl (of_decide_eq_true rfl) (by decide) rfl ?_
            refine e_goto (t := 17) i_M_pairs_79 (by decide) ?_
            exact rfl
          · refine e_iconst (v := 1) i_M_pairs_69 (by decide) ?_
            refine e_goto (t := 74) i_M_pairs_70 (by decide) ?_
            refine e_iadd i_M_pairs_74 ?_
            refine e_istore_n (L' := [some (.ref w), some (.int (n1 + (1 : Int32))), some (.int n2), some (.int n3)]) i_M_pairs_75 (of_decide_eq_true rfl) rfl ?_
            refine e_iinc (w := 1) (L' := [some (.ref w), some (.int (n1 + (1 : Int32))), some (.int n2), some (.int (n3 + (1 : Int32)))]) i_M_pairs_76 rfl (of_decide_eq_true rfl) (by decide) rfl ?_
            refine e_goto (t := 17) i_M_pairs_79 (by decide) ?_
            exact rfl
theorem i_M_fined_0 : m_at k_M_fined 0 = some (.iload_n 1, 1, 0) := m_at_of r_M_fined (by decide +kernel)
theorem i_M_fined_1 : m_at k_M_fined 1 = some (.iconst (-1), 1, 0) := m_at_of r_M_fined (by decide +kernel)
theorem i_M_fined_2 : m_at k_M_fined 2 = some (.if_icmp .eq (14), 3, 0) := m_at_of r_M_fined (by decide +kernel)
theorem i_M_fined_5 : m_at k_M_fined 5 = some (.aload_n 0, 1, 0) := m_at_of r_M_fined (by decide +kernel)
theorem i_M_fined_6 : m_at k_M_fined 6 = some (.iload_n 1, 1, 0) := m_at_of r_M_fined (by decide +kernel)
theorem i_M_fined_7 : m_at k_M_fined 7 = some (.invokevirtual 352, 3, 110) := m_at_of r_M_fined (by decide +kernel)
theorem i_M_fined_10 : m_at k_M_fined 10 = some (.ifCond .ne (6), 3, 0) := m_at_of r_M_fined (by decide +kernel)
theorem i_M_fined_13 : m_at k_M_fined 13 = some (.bipush (-2), 2, 0) := m_at_of r_M_fined (by decide +kernel)
theorem i_M_fined_15 : m_at k_M_fined 15 = some (.ireturn, 1, 0) := m_at_of r_M_fined (by decide +kernel)
theorem i_M_fined_16 : m_at k_M_fined 16 = some (.iconst 0, 1, 0) := m_at_of r_M_fined (by decide +kernel)
theorem i_M_fined_17 : m_at k_M_fined 17 = some (.istore_n 2, 1, 0) := m_at_of r_M_fined (by decide +kernel)
theorem i_M_fined_18 : m_at k_M_fined 18 = some (.iconst 0, 1, 0) := m_at_of r_M_fined (by decide +kernel)
theorem i_M_fined_19 : m_at k_M_fined 19 = some (.istore_n 3, 1, 0) := m_at_of r_M_fined (by decide +kernel)
theorem i_M_fined_20 : m_at k_M_fined 20 = some (.iload_n 3, 1, 0) := m_at_of r_M_fined (by decide +kernel)
theorem i_M_fined_21 : m_at k_M_fined 21 = some (.aload_n 0, 1, 0) := m_at_of r_M_fined (by decide +kernel)
theorem i_M_fined_22 : m_at k_M_fined 22 = some (.invokevirtual 426, 3, 111) := m_at_of r_M_fined (by decide +kernel)
theorem i_M_fined_25 : m_at k_M_fined 25 = some (.if_icmp .ge (37), 3, 0) := m_at_of r_M_fined (by decide +kernel)
theorem i_M_fined_28 : m_at k_M_fined 28 = some (.iload_n 2, 1, 0) := m_at_of r_M_fined (by decide +kernel)
theorem i_M_fined_29 : m_at k_M_fined 29 = some (.iload_n 1, 1, 0) := m_at_of r_M_fined (by decide +kernel)
theorem i_M_fined_30 : m_at k_M_fined 30 = some (.iconst (-1), 1, 0) := m_at_of r_M_fined (by decide +kernel)
theorem i_M_fined_31 : m_at k_M_fined 31 = some (.if_icmp .eq (13), 3, 0) := m_at_of r_M_fined (by decide +kernel)
theorem i_M_fined_34 : m_at k_M_fined 34 = some (.aload_n 0, 1, 0) := m_at_of r_M_fined (by decide +kernel)
theorem i_M_fined_35 : m_at k_M_fined 35 = some (.iload_n 3, 1, 0) := m_at_of r_M_fined (by decide +kernel)
theorem i_M_fined_36 : m_at k_M_fined 36 = some (.iconst 1, 1, 0) := m_at_of r_M_fined (by decide +kernel)
theorem i_M_fined_37 : m_at k_M_fined 37 = some (.invokevirtual 429, 3, 112) := m_at_of r_M_fined (by decide +kernel)
theorem i_M_fined_40 : m_at k_M_fined 40 = some (.iload_n 1, 1, 0) := m_at_of r_M_fined (by decide +kernel)
theorem i_M_fined_41 : m_at k_M_fined 41 = some (.if_icmp .ne (12), 3, 0) := m_at_of r_M_fined (by decide +kernel)
theorem i_M_fined_44 : m_at k_M_fined 44 = some (.aload_n 0, 1, 0) := m_at_of r_M_fined (by decide +kernel)
theorem i_M_fined_45 : m_at k_M_fined 45 = some (.iload_n 3, 1, 0) := m_at_of r_M_fined (by decide +kernel)
theorem i_M_fined_46 : m_at k_M_fined 46 = some (.iconst 2, 1, 0) := m_at_of r_M_fined (by decide +kernel)
theorem i_M_fined_47 : m_at k_M_fined 47 = some (.invokevirtual 429, 3, 112) := m_at_of r_M_fined (by decide +kernel)
theorem i_M_fined_50 : m_at k_M_fined 50 = some (.goto (4), 3, 0) := m_at_of r_M_fined (by decide +kernel)
theorem i_M_fined_53 : m_at k_M_fined 53 = some (.iconst 0, 1, 0) := m_at_of r_M_fined (by decide +kernel)
theorem i_M_fined_54 : m_at k_M_fined 54 = some (.iadd, 1, 0) := m_at_of r_M_fined (by decide +kernel)
theorem i_M_fined_55 : m_at k_M_fined 55 = some (.istore_n 2, 1, 0) := m_at_of r_M_fined (by decide +kernel)
theorem i_M_fined_56 : m_at k_M_fined 56 = some (.iinc 3 (1), 3, 0) := m_at_of r_M_fined (by decide +kernel)
theorem i_M_fined_59 : m_at k_M_fined 59 = some (.goto (-39), 3, 0) := m_at_of r_M_fined (by decide +kernel)
theorem i_M_fined_62 : m_at k_M_fined 62 = some (.iload_n 2, 1, 0) := m_at_of r_M_fined (by decide +kernel)
theorem i_M_fined_63 : m_at k_M_fined 63 = some (.ireturn, 1, 0) := m_at_of r_M_fined (by decide +kernel)
set_option maxRecDepth 20000 in
set_option maxHeartbeats 1000000 in
theorem E_M_fined (x : m_X) (s : m_H) (w : Nat) (n1 : Int32) : m_M x k_M_fined [.ref w, .int n1] s = if m_isO s w 11 = true then (if n1 = (-1) then (m_D x 3 k_M_fined 20 [some (.ref w), some (.int n1), some (.int 0), some (.int 0)] [] s) else m_bI (m_M x k_M_isOne [.ref w, .int n1] s) fun v7 s7 => if v7 = 0 then (some (some (.int (-2)), s7)) else m_D x 3 k_M_fined 20 [some (.ref w), some (.int n1), some (.int 0), some (.int 0)] [] s7) else none := by
  refine e_M1 (L0 := [some (.ref w), some (.int n1), none, none]) rfl (by decide +kernel) rfl (q_M_fined _) rfl ?_
  refine e_iload_n i_M_fined_0 rfl ?_
  refine e_iconst (v := (-1)) i_M_fined_1 (by decide) ?_
  refine e_icmpeq (t := 16) i_M_fined_2 (by decide) ?_ ?_
  · refine e_iconst (v := 0) i_M_fined_16 (by decide) ?_
    refine e_istore_n (L' := [some (.ref w), some (.int n1), some (.int 0), none]) i_M_fined_17 (of_decide_eq_true rfl) rfl ?_
    refine e_iconst (v := 0) i_M_fined_18 (by decide) ?_
    refine e_istore_n (L' := [some (.ref w), some (.int n1), some (.int 0), some (.int 0)]) i_M_fined_19 (of_decide_eq_true rfl) rfl ?_
    exact rfl
  · refine e_aload_n i_M_fined_5 rfl ?_
    refine e_iload_n i_M_fined_6 rfl ?_
    refine e_callI (as := [.ref w, .int n1]) (st' := []) i_M_fined_7 lm_110 (Or.inr (Or.inl ⟨rfl, rfl⟩)) w_M_isOne rfl rfl rfl (Nat.le_of_ble_eq_true rfl) (Nat.le_of_ble_eq_true rfl) (m_rlt (q_M_isOne _) (by decide)) rfl (fun v7 s7 => ?_)
    refine e_ifne (t := 16) i_M_fined_10 (by decide) ?_ ?_
    · refine e_iconst (v := 0) i_M_fined_16 (by decide) ?_
      refine e_istore_n (L' := [some (.ref w), some (.int n1), some (.int 0), none]) i_M_fined_17 (of_decide_eq_true rfl) rfl ?_
      refine e_iconst (v := 0) i_M_fined_18 (by decide) ?_
      refine e_istore_n (L' := [some (.ref w), some (.int n1), some (.int 0), some (.int 0)]) i_M_fined_19 (of_decide_eq_true rfl) rfl ?_
      exact rfl
    · refine e_bipush (v := (-2)) i_M_fined_13 (by decide) ?_
      exact e_iretI i_M_fined_15 rfl
set_option maxRecDepth 20000 in
set_option maxHeartbeats 1000000 in
theorem E_M_fined_20 (x : m_X) (ρ : Nat) (hρ : 3 ≤ ρ) (s : m_H) (w : Nat) (n1 : Int32) (n2 : Int32) (n3 : Int32)  : m_D x ρ k_M_fined 20 [some (.ref w), some (.int n1), some (.int n2), some (.int n3)] [] s = m_bI (m_M x k_M_shown [.ref w] s) fun v22 s22 => if v22 ≤ n3 then (some (some (.int n2), s22)) else if n1 = (-1) then (m_bI (m_M x k_M_entry [.ref w, .int n3, .int 2] s22) fun v47 s47 => m_D x ρ k_M_fined 20 [some (.ref w), some (.int n1), some (.int (n2 + v47)), some (.int (n3 + (1 : Int32)))] [] s47) else m_bI (m_M x k_M_entry [.ref w, .int n3, .int 1] s22) fun v37 s37 => if v37 = n1 then (m_bI (m_M x k_M_entry [.ref w, .int n3, .int 2] s37) fun v47 s47 => m_D x ρ k_M_fined 20 [some (.ref w), some (.int n1), some (.int (n2 + v47)), some (.int (n3 + (1 : Int32)))] [] s47) else m_D x ρ k_M_fined 20 [some (.ref w), some (.int n1), some (.int (n2 + (0 : Int32))), some (.int (n3 + (1 : Int32)))] [] s37 := by
  refine e_iload_n i_M_fined_20 rfl ?_
  refine e_aload_n i_M_fined_21 rfl ?_
  refine e_callI (as := [.ref w]) (st' := [.int n3]) i_M_fined_22 lm_111 (Or.inr (Or.inl ⟨rfl, rfl⟩)) w_M_shown rfl rfl rfl (Nat.le_of_ble_eq_true rfl) (Nat.le_of_ble_eq_true rfl) (m_rlt (q_M_shown _) (Nat.lt_of_lt_of_le (by decide) hρ)) rfl (fun v22 s22 => ?_)
  refine e_icmpge (t := 62) i_M_fined_25 (by decide) ?_ ?_
  · refine e_iload_n i_M_fined_62 rfl ?_
    exact e_iretI i_M_fined_63 rfl
  · refine e_iload_n i_M_fined_28 rfl ?_
    refine e_iload_n i_M_fined_29 rfl ?_
    refine e_iconst (v := (-1)) i_M_fined_30 (by decide) ?_
    refine e_icmpeq (t := 44) i_M_fined_31 (by decide) ?_ ?_
    · refine e_aload_n i_M_fined_44 rfl ?_
      refine e_iload_n i_M_fined_45 rfl ?_
      refine e_iconst (v := 2) i_M_fined_46 (by decide) ?_
      refine e_callI (as := [.ref w, .int n3, .int 2]) (st' := [.int n2]) i_M_fined_47 lm_112 (Or.inr (Or.inl ⟨rfl, rfl⟩)) w_M_entry rfl rfl rfl (Nat.le_of_ble_eq_true rfl) (Nat.le_of_ble_eq_true rfl) (m_rlt (q_M_entry _) (Nat.lt_of_lt_of_le (by decide) hρ)) rfl (fun v47 s47 => ?_)
      refine e_goto (t := 54) i_M_fined_50 (by decide) ?_
      refine e_iadd i_M_fined_54 ?_
      refine e_istore_n (L' := [some (.ref w), some (.int n1), some (.int (n2 + v47)), some (.int n3)]) i_M_fined_55 (of_decide_eq_true rfl) rfl ?_
      refine e_iinc (w := 1) (L' := [some (.ref w), some (.int n1), some (.int (n2 + v47)), some (.int (n3 + (1 : Int32)))]) i_M_fined_56 rfl (of_decide_eq_true rfl) (by decide) rfl ?_
      refine e_goto (t := 20) i_M_fined_59 (by decide) ?_
      exact rfl
    · refine e_aload_n i_M_fined_34 rfl ?_
      refine e_iload_n i_M_fined_35 rfl ?_
      refine e_iconst (v := 1) i_M_fined_36 (by decide) ?_
      refine e_callI (as := [.ref w, .int n3, .int 1]) (st' := [.int n2]) i_M_fined_37 lm_112 (Or.inr (Or.inl ⟨rfl, rfl⟩)) w_M_entry rfl rfl rfl (Nat.le_of_ble_eq_true rfl) (Nat.le_of_ble_eq_true rfl) (m_rlt (q_M_entry _) (Nat.lt_of_lt_of_le (by decide) hρ)) rfl (fun v37 s37 => ?_)
      refine e_iload_n i_M_fined_40 rfl ?_
      refine e_icmpne (t := 53) i_M_fined_41 (by decide) ?_ ?_
      · refine e_iconst (v := 0) i_M_fined_53 (by decide) ?_
        refine e_iadd i_M_fined_54 ?_
        refine e_istore_n (L' := [some (.ref w), some (.int n1), some (.int (n2 + (0 : Int32))), some (.int n3)]) i_M_fined_55 (of_decide_eq_true rfl) rfl ?_
        refine e_iinc (w := 1) (L' := [some (.ref w), some (.int n1), some (.int (n2 + (0 : Int32))), some (.int (n3 + (1 : Int32)))]) i_M_fined_56 rfl (of_decide_eq_true rfl) (by decide) rfl ?_
        refine e_goto (t := 20) i_M_fined_59 (by decide) ?_
        exact rfl
      · refine e_aload_n i_M_fined_44 rfl ?_
        refine e_iload_n i_M_fined_45 rfl ?_
        refine e_iconst (v := 2) i_M_fined_46 (by decide) ?_
        refine e_callI (as := [.ref w, .int n3, .int 2]) (st' := [.int n2]) i_M_fined_47 lm_112 (Or.inr (Or.inl ⟨rfl, rfl⟩)) w_M_entry rfl rfl rfl (Nat.le_of_ble_eq_true rfl) (Nat.le_of_ble_eq_true rfl) (m_rlt (q_M_entry _) (Nat.lt_of_lt_of_le (by decide) hρ)) rfl (fun v47 s47 => ?_)
        refine e_goto (t := 54) i_M_fined_50 (by decide) ?_
        refine e_iadd i_M_fined_54 ?_
        refine e_istore_n (L' := [some (.ref w), some (.int n1), some (.int (n2 + v47)), some (.int n3)]) i_M_fined_55 (of_decide_eq_true rfl) rfl ?_
        refine e_iinc (w := 1) (L' := [some (.ref w), some (.int n1), some (.int (n2 + v47)), some (.int (n3 + (1 : Int32)))]) i_M_fined_56 rfl (of_decide_eq_true rfl) (by decide) rfl ?_
        refine e_goto (t := 20) i_M_fined_59 (by decide) ?_
        exact rfl
theorem i_M_whoseLaw_0 : m_at k_M_whoseLaw 0 = some (.iconst 0, 1, 0) := m_at_of r_M_whoseLaw (by decide +kernel)
theorem i_M_whoseLaw_1 : m_at k_M_whoseLaw 1 = some (.istore_n 1, 1, 0) := m_at_of r_M_whoseLaw (by decide +kernel)
theorem i_M_whoseLaw_2 : m_at k_M_whoseLaw 2 = some (.iconst 0, 1, 0) := m_at_of r_M_whoseLaw (by decide +kernel)
theorem i_M_whoseLaw_3 : m_at k_M_whoseLaw 3 = some (.istore_n 2, 1, 0) := m_at_of r_M_whoseLaw (by decide +kernel)
theorem i_M_whoseLaw_4 : m_at k_M_whoseLaw 4 = some (.iload_n 2, 1, 0) := m_at_of r_M_whoseLaw (by decide +kernel)
theorem i_M_whoseLaw_5 : m_at k_M_whoseLaw 5 = some (.aload_n 0, 1, 0) := m_at_of r_M_whoseLaw (by decide +kernel)
theorem i_M_whoseLaw_6 : m_at k_M_whoseLaw 6 = some (.getfield 7, 3, 0) := m_at_of r_M_whoseLaw (by decide +kernel)
theorem i_M_whoseLaw_9 : m_at k_M_whoseLaw 9 = some (.iconst 1, 1, 0) := m_at_of r_M_whoseLaw (by decide +kernel)
theorem i_M_whoseLaw_10 : m_at k_M_whoseLaw 10 = some (.iaload, 1, 0) := m_at_of r_M_whoseLaw (by decide +kernel)
theorem i_M_whoseLaw_11 : m_at k_M_whoseLaw 11 = some (.if_icmp .ge (112), 3, 0) := m_at_of r_M_whoseLaw (by decide +kernel)
theorem i_M_whoseLaw_14 : m_at k_M_whoseLaw 14 = some (.iconst 1, 1, 0) := m_at_of r_M_whoseLaw (by decide +kernel)
theorem i_M_whoseLaw_15 : m_at k_M_whoseLaw 15 = some (.istore_n 3, 1, 0) := m_at_of r_M_whoseLaw (by decide +kernel)
theorem i_M_whoseLaw_16 : m_at k_M_whoseLaw 16 = some (.iconst 0, 1, 0) := m_at_of r_M_whoseLaw (by decide +kernel)
theorem i_M_whoseLaw_17 : m_at k_M_whoseLaw 17 = some (.istore 4, 2, 0) := m_at_of r_M_whoseLaw (by decide +kernel)
theorem i_M_whoseLaw_19 : m_at k_M_whoseLaw 19 = some (.iload 4, 2, 0) := m_at_of r_M_whoseLaw (by decide +kernel)
theorem i_M_whoseLaw_21 : m_at k_M_whoseLaw 21 = some (.aload_n 0, 1, 0) := m_at_of r_M_whoseLaw (by decide +kernel)
theorem i_M_whoseLaw_22 : m_at k_M_whoseLaw 22 = some (.getfield 7, 3, 0) := m_at_of r_M_whoseLaw (by decide +kernel)
theorem i_M_whoseLaw_25 : m_at k_M_whoseLaw 25 = some (.bipush 7, 2, 0) := m_at_of r_M_whoseLaw (by decide +kernel)
theorem i_M_whoseLaw_27 : m_at k_M_whoseLaw 27 = some (.iaload, 1, 0) := m_at_of r_M_whoseLaw (by decide +kernel)
theorem i_M_whoseLaw_28 : m_at k_M_whoseLaw 28 = some (.if_icmp .ge (75), 3, 0) := m_at_of r_M_whoseLaw (by decide +kernel)
theorem i_M_whoseLaw_31 : m_at k_M_whoseLaw 31 = some (.iload_n 3, 1, 0) := m_at_of r_M_whoseLaw (by decide +kernel)
theorem i_M_whoseLaw_32 : m_at k_M_whoseLaw 32 = some (.ifCond .eq (63), 3, 0) := m_at_of r_M_whoseLaw (by decide +kernel)
theorem i_M_whoseLaw_35 : m_at k_M_whoseLaw 35 = some (.aload_n 0, 1, 0) := m_at_of r_M_whoseLaw (by decide +kernel)
theorem i_M_whoseLaw_36 : m_at k_M_whoseLaw 36 = some (.aload_n 0, 1, 0) := m_at_of r_M_whoseLaw (by decide +kernel)
theorem i_M_whoseLaw_37 : m_at k_M_whoseLaw 37 = some (.getfield 7, 3, 0) := m_at_of r_M_whoseLaw (by decide +kernel)
theorem i_M_whoseLaw_40 : m_at k_M_whoseLaw 40 = some (.sipush 152, 3, 0) := m_at_of r_M_whoseLaw (by decide +kernel)
theorem i_M_whoseLaw_43 : m_at k_M_whoseLaw 43 = some (.iconst 2, 1, 0) := m_at_of r_M_whoseLaw (by decide +kernel)
theorem i_M_whoseLaw_44 : m_at k_M_whoseLaw 44 = some (.iload 4, 2, 0) := m_at_of r_M_whoseLaw (by decide +kernel)
theorem i_M_whoseLaw_46 : m_at k_M_whoseLaw 46 = some (.imul, 1, 0) := m_at_of r_M_whoseLaw (by decide +kernel)
theorem i_M_whoseLaw_47 : m_at k_M_whoseLaw 47 = some (.iadd, 1, 0) := m_at_of r_M_whoseLaw (by decide +kernel)
theorem i_M_whoseLaw_48 : m_at k_M_whoseLaw 48 = some (.iaload, 1, 0) := m_at_of r_M_whoseLaw (by decide +kernel)
theorem i_M_whoseLaw_49 : m_at k_M_whoseLaw 49 = some (.invokevirtual 365, 3, 116) := m_at_of r_M_whoseLaw (by decide +kernel)
theorem i_M_whoseLaw_52 : m_at k_M_whoseLaw 52 = some (.ifCond .eq (39), 3, 0) := m_at_of r_M_whoseLaw (by decide +kernel)
theorem i_M_whoseLaw_55 : m_at k_M_whoseLaw 55 = some (.aload_n 0, 1, 0) := m_at_of r_M_whoseLaw (by decide +kernel)
theorem i_M_whoseLaw_56 : m_at k_M_whoseLaw 56 = some (.iload_n 2, 1, 0) := m_at_of r_M_whoseLaw (by decide +kernel)
theorem i_M_whoseLaw_57 : m_at k_M_whoseLaw 57 = some (.aload_n 0, 1, 0) := m_at_of r_M_whoseLaw (by decide +kernel)
theorem i_M_whoseLaw_58 : m_at k_M_whoseLaw 58 = some (.getfield 7, 3, 0) := m_at_of r_M_whoseLaw (by decide +kernel)
theorem i_M_whoseLaw_61 : m_at k_M_whoseLaw 61 = some (.sipush 152, 3, 0) := m_at_of r_M_whoseLaw (by decide +kernel)
theorem i_M_whoseLaw_64 : m_at k_M_whoseLaw 64 = some (.iconst 2, 1, 0) := m_at_of r_M_whoseLaw (by decide +kernel)
theorem i_M_whoseLaw_65 : m_at k_M_whoseLaw 65 = some (.iload 4, 2, 0) := m_at_of r_M_whoseLaw (by decide +kernel)
theorem i_M_whoseLaw_67 : m_at k_M_whoseLaw 67 = some (.imul, 1, 0) := m_at_of r_M_whoseLaw (by decide +kernel)
theorem i_M_whoseLaw_68 : m_at k_M_whoseLaw 68 = some (.iadd, 1, 0) := m_at_of r_M_whoseLaw (by decide +kernel)
theorem i_M_whoseLaw_69 : m_at k_M_whoseLaw 69 = some (.iaload, 1, 0) := m_at_of r_M_whoseLaw (by decide +kernel)
theorem i_M_whoseLaw_70 : m_at k_M_whoseLaw 70 = some (.invokevirtual 342, 3, 117) := m_at_of r_M_whoseLaw (by decide +kernel)
theorem i_M_whoseLaw_73 : m_at k_M_whoseLaw 73 = some (.aload_n 0, 1, 0) := m_at_of r_M_whoseLaw (by decide +kernel)
theorem i_M_whoseLaw_74 : m_at k_M_whoseLaw 74 = some (.getfield 7, 3, 0) := m_at_of r_M_whoseLaw (by decide +kernel)
theorem i_M_whoseLaw_77 : m_at k_M_whoseLaw 77 = some (.sipush 152, 3, 0) := m_at_of r_M_whoseLaw (by decide +kernel)
theorem i_M_whoseLaw_80 : m_at k_M_whoseLaw 80 = some (.iconst 2, 1, 0) := m_at_of r_M_whoseLaw (by decide +kernel)
theorem i_M_whoseLaw_81 : m_at k_M_whoseLaw 81 = some (.iload 4, 2, 0) := m_at_of r_M_whoseLaw (by decide +kernel)
theorem i_M_whoseLaw_83 : m_at k_M_whoseLaw 83 = some (.imul, 1, 0) := m_at_of r_M_whoseLaw (by decide +kernel)
theorem i_M_whoseLaw_84 : m_at k_M_whoseLaw 84 = some (.iadd, 1, 0) := m_at_of r_M_whoseLaw (by decide +kernel)
theorem i_M_whoseLaw_85 : m_at k_M_whoseLaw 85 = some (.iconst 1, 1, 0) := m_at_of r_M_whoseLaw (by decide +kernel)
theorem i_M_whoseLaw_86 : m_at k_M_whoseLaw 86 = some (.iadd, 1, 0) := m_at_of r_M_whoseLaw (by decide +kernel)
theorem i_M_whoseLaw_87 : m_at k_M_whoseLaw 87 = some (.iaload, 1, 0) := m_at_of r_M_whoseLaw (by decide +kernel)
theorem i_M_whoseLaw_88 : m_at k_M_whoseLaw 88 = some (.if_icmp .ne (7), 3, 0) := m_at_of r_M_whoseLaw (by decide +kernel)
theorem i_M_whoseLaw_91 : m_at k_M_whoseLaw 91 = some (.iconst 1, 1, 0) := m_at_of r_M_whoseLaw (by decide +kernel)
theorem i_M_whoseLaw_92 : m_at k_M_whoseLaw 92 = some (.goto (4), 3, 0) := m_at_of r_M_whoseLaw (by decide +kernel)
theorem i_M_whoseLaw_95 : m_at k_M_whoseLaw 95 = some (.iconst 0, 1, 0) := m_at_of r_M_whoseLaw (by decide +kernel)
theorem i_M_whoseLaw_96 : m_at k_M_whoseLaw 96 = some (.istore_n 3, 1, 0) := m_at_of r_M_whoseLaw (by decide +kernel)
theorem i_M_whoseLaw_97 : m_at k_M_whoseLaw 97 = some (.iinc 4 (1), 3, 0) := m_at_of r_M_whoseLaw (by decide +kernel)
theorem i_M_whoseLaw_100 : m_at k_M_whoseLaw 100 = some (.goto (-81), 3, 0) := m_at_of r_M_whoseLaw (by decide +kernel)
theorem i_M_whoseLaw_103 : m_at k_M_whoseLaw 103 = some (.iload_n 1, 1, 0) := m_at_of r_M_whoseLaw (by decide +kernel)
theorem i_M_whoseLaw_104 : m_at k_M_whoseLaw 104 = some (.iload_n 3, 1, 0) := m_at_of r_M_whoseLaw (by decide +kernel)
theorem i_M_whoseLaw_105 : m_at k_M_whoseLaw 105 = some (.ifCond .eq (9), 3, 0) := m_at_of r_M_whoseLaw (by decide +kernel)
theorem i_M_whoseLaw_108 : m_at k_M_whoseLaw 108 = some (.iconst 1, 1, 0) := m_at_of r_M_whoseLaw (by decide +kernel)
theorem i_M_whoseLaw_109 : m_at k_M_whoseLaw 109 = some (.iload_n 2, 1, 0) := m_at_of r_M_whoseLaw (by decide +kernel)
theorem i_M_whoseLaw_110 : m_at k_M_whoseLaw 110 = some (.ishl, 1, 0) := m_at_of r_M_whoseLaw (by decide +kernel)
theorem i_M_whoseLaw_111 : m_at k_M_whoseLaw 111 = some (.goto (4), 3, 0) := m_at_of r_M_whoseLaw (by decide +kernel)
theorem i_M_whoseLaw_114 : m_at k_M_whoseLaw 114 = some (.iconst 0, 1, 0) := m_at_of r_M_whoseLaw (by decide +kernel)
theorem i_M_whoseLaw_115 : m_at k_M_whoseLaw 115 = some (.ior, 1, 0) := m_at_of r_M_whoseLaw (by decide +kernel)
theorem i_M_whoseLaw_116 : m_at k_M_whoseLaw 116 = some (.istore_n 1, 1, 0) := m_at_of r_M_whoseLaw (by decide +kernel)
theorem i_M_whoseLaw_117 : m_at k_M_whoseLaw 117 = some (.iinc 2 (1), 3, 0) := m_at_of r_M_whoseLaw (by decide +kernel)
theorem i_M_whoseLaw_120 : m_at k_M_whoseLaw 120 = some (.goto (-116), 3, 0) := m_at_of r_M_whoseLaw (by decide +kernel)
theorem i_M_whoseLaw_123 : m_at k_M_whoseLaw 123 = some (.iload_n 1, 1, 0) := m_at_of r_M_whoseLaw (by decide +kernel)
theorem i_M_whoseLaw_124 : m_at k_M_whoseLaw 124 = some (.ireturn, 1, 0) := m_at_of r_M_whoseLaw (by decide +kernel)
set_option maxRecDepth 20000 in
set_option maxHeartbeats 1000000 in
theorem E_M_whoseLaw (x : m_X) (s : m_H) (w : Nat) : m_M x k_M_whoseLaw [.ref w] s = if m_isO s w 11 = true then (m_D x 7 k_M_whoseLaw 4 [some (.ref w), some (.int 0), some (.int 0), none, none] [] s) else none := by
  refine e_M1 (L0 := [some (.ref w), none, none, none, none]) rfl (by decide +kernel) rfl (q_M_whoseLaw _) rfl ?_
  refine e_iconst (v := 0) i_M_whoseLaw_0 (by decide) ?_
  refine e_istore_n (L' := [some (.ref w), some (.int 0), none, none, none]) i_M_whoseLaw_1 (of_decide_eq_true rfl) rfl ?_
  refine e_iconst (v := 0) i_M_whoseLaw_2 (by decide) ?_
  refine e_istore_n (L' := [some (.ref w), some (.int 0), some (.int 0), none, none]) i_M_whoseLaw_3 (of_decide_eq_true rfl) rfl ?_
  exact rfl
set_option maxRecDepth 20000 in
set_option maxHeartbeats 1000000 in
theorem E_M_whoseLaw_4 (x : m_X) (ρ : Nat) (hρ : 7 ≤ ρ) (s : m_H) (w : Nat) (n1 : Int32) (n2 : Int32) (d3 : Option Value) (d4 : Option Value) (hd3 : m_nl d3 = true) (hd4 : m_nl d4 = true) : m_D x ρ k_M_whoseLaw 4 [some (.ref w), some (.int n1), some (.int n2), d3, d4] [] s = (m_fR s 11 0 w).bind fun v6 => (m_ia x s v6 1).bind fun v10 => if v10 ≤ n2 then (some (some (.int n1), s)) else m_D x ρ k_M_whoseLaw 19 [some (.ref w), some (.int n1), some (.int n2), some (.int 1), some (.int 0)] [] s := by
  refine e_iload_n i_M_whoseLaw_4 rfl ?_
  refine e_aload_n i_M_whoseLaw_5 rfl ?_
  refine e_getR i_M_whoseLaw_6 lf_0 (by decide) ft_11_0 (fun v6 => ?_)
  refine e_iconst (v := 1) i_M_whoseLaw_9 (by decide) ?_
  refine e_iald i_M_whoseLaw_10 (fun v10 => ?_)
  refine e_icmpge (t := 123) i_M_whoseLaw_11 (by decide) ?_ ?_
  · refine e_iload_n i_M_whoseLaw_123 rfl ?_
    exact e_iretI i_M_whoseLaw_124 rfl
  · refine e_iconst (v := 1) i_M_whoseLaw_14 (by decide) ?_
    refine e_istore_n (L' := [some (.ref w), some (.int n1), some (.int n2), some (.int 1), d4]) i_M_whoseLaw_15 (of_decide_eq_true rfl) rfl ?_
    refine e_iconst (v := 0) i_M_whoseLaw_16 (by decide) ?_
    refine e_istore (L' := [some (.ref w), some (.int n1), some (.int n2), some (.int 1), some (.int 0)]) i_M_whoseLaw_17 (of_decide_eq_true rfl) rfl ?_
    exact rfl
set_option maxRecDepth 20000 in
set_option maxHeartbeats 1000000 in
theorem E_M_whoseLaw_19 (x : m_X) (ρ : Nat) (hρ : 7 ≤ ρ) (s : m_H) (w : Nat) (n1 : Int32) (n2 : Int32) (n3 : Int32) (n4 : Int32)  : m_D x ρ k_M_whoseLaw 19 [some (.ref w), some (.int n1), some (.int n2), some (.int n3), some (.int n4)] [] s = (m_fR s 11 0 w).bind fun v22 => (m_ia x s v22 7).bind fun v27 => if v27 ≤ n4 then (if n3 = 0 then (m_D x ρ k_M_whoseLaw 4 [some (.ref w), some (.int (n1 ||| (0 : Int32))), some (.int (n2 + (1 : Int32))), some (.int n3), some (.int n4)] [] s) else m_D x ρ k_M_whoseLaw 4 [some (.ref w), some (.int (n1 ||| ((1 : Int32) <<< (n2 &&& (31 : Int32))))), some (.int (n2 + (1 : Int32))), some (.int n3), some (.int n4)] [] s) else if n3 = 0 then (m_D x ρ k_M_whoseLaw 19 [some (.ref w), some (.int n1), some (.int n2), some (.int 0), some (.int (n4 + (1 : Int32)))] [] s) else (m_fR s 11 0 w).bind fun v37 => (m_ia x s v37 ((152 : Int32) + ((2 : Int32) * n4))).bind fun v48 => m_bI (m_M x k_M_isGlove [.ref w, .int v48] s) fun v49 s49 => if v49 = 0 then (m_D x ρ k_M_whoseLaw 19 [some (.ref w), some (.int n1), some (.int n2), some (.int 1), some (.int (n4 + (1 : Int32)))] [] s49) else (m_fR s49 11 0 w).bind fun v58 => (m_ia x s49 v58 ((152 : Int32) + ((2 : Int32) * n4))).bind fun v69 => m_bI (m_M x k_M_growsOf [.ref w, .int n2, .int v69] s49) fun v70 s70 => (m_fR s70 11 0 w).bind fun v74 => (m_ia x s70 v74 (((152 : Int32) + ((2 : Int32) * n4)) + (1 : Int32))).bind fun v87 => if v70 = v87 then (m_D x ρ k_M_whoseLaw 19 [some (.ref w), some (.int n1), some (.int n2), some (.int 1), some (.int (n4 + (1 : Int32)))] [] s70) else m_D x ρ k_M_whoseLaw 19 [some (.ref w), some (.int n1), some (.int n2), some (.int 0), some (.int (n4 + (1 : Int32)))] [] s70 := by
  refine e_iload i_M_whoseLaw_19 rfl ?_
  refine e_aload_n i_M_whoseLaw_21 rfl ?_
  refine e_getR i_M_whoseLaw_22 lf_0 (by decide) ft_11_0 (fun v22 => ?_)
  refine e_bipush (v := 7) i_M_whoseLaw_25 (by decide) ?_
  refine e_iald i_M_whoseLaw_27 (fun v27 => ?_)
  refine e_icmpge (t := 103) i_M_whoseLaw_28 (by decide) ?_ ?_
  · refine e_iload_n i_M_whoseLaw_103 rfl ?_
    refine e_iload_n i_M_whoseLaw_104 rfl ?_
    refine e_ifeq (t := 114) i_M_whoseLaw_105 (by decide) ?_ ?_
    · refine e_iconst (v := 0) i_M_whoseLaw_114 (by decide) ?_
      refine e_ior i_M_whoseLaw_115 ?_
      refine e_istore_n (L' := [some (.ref w), some (.int (n1 ||| (0 : Int32))), some (.int n2), some (.int n3), some (.int n4)]) i_M_whoseLaw_116 (of_decide_eq_true rfl) rfl ?_
      refine e_iinc (w := 1) (L' := [some (.ref w), some (.int (n1 ||| (0 : Int32))), some (.int (n2 + (1 : Int32))), some (.int n3), some (.int n4)]) i_M_whoseLaw_117 rfl (of_decide_eq_true rfl) (by decide) rfl ?_
      refine e_goto (t := 4) i_M_whoseLaw_120 (by decide) ?_
      exact rfl
    · refine e_iconst (v := 1) i_M_whoseLaw_108 (by decide) ?_
      refine e_iload_n i_M_whoseLaw_109 rfl ?_
      refine e_ishl i_M_whoseLaw_110 ?_
      refine e_goto (t := 115) i_M_whoseLaw_111 (by decide) ?_
      refine e_ior i_M_whoseLaw_115 ?_
      refine e_istore_n (L' := [some (.ref w), some (.int (n1 ||| ((1 : Int32) <<< (n2 &&& (31 : Int32))))), some (.int n2), some (.int n3), some (.int n4)]) i_M_whoseLaw_116 (of_decide_eq_true rfl) rfl ?_
      refine e_iinc (w := 1) (L' := [some (.ref w), some (.int (n1 ||| ((1 : Int32) <<< (n2 &&& (31 : Int32))))), some (.int (n2 + (1 : Int32))), some (.int n3), some (.int n4)]) i_M_whoseLaw_117 rfl (of_decide_eq_true rfl) (by decide) rfl ?_
      refine e_goto (t := 4) i_M_whoseLaw_120 (by decide) ?_
      exact rfl
  · refine e_iload_n i_M_whoseLaw_31 rfl ?_
    refine e_ifeq (t := 95) i_M_whoseLaw_32 (by decide) ?_ ?_
    · refine e_iconst (v := 0) i_M_whoseLaw_95 (by decide) ?_
      refine e_istore_n (L' := [some (.ref w), some (.int n1), some (.int n2), some (.int 0), some (.int n4)]) i_M_whoseLaw_96 (of_decide_eq_true rfl) rfl ?_
      refine e_iinc (w := 1) (L' := [some (.ref w), some (.int n1), some (.int n2), some (.int 0), some (.int (n4 + (1 : Int32)))]) i_M_whoseLaw_97 rfl (of_decide_eq_true rfl) (by decide) rfl ?_
      refine e_goto (t := 19) i_M_whoseLaw_100 (by decide) ?_
      exact rfl
    · refine e_aload_n i_M_whoseLaw_35 rfl ?_
      refine e_aload_n i_M_whoseLaw_36 rfl ?_
      refine e_getR i_M_whoseLaw_37 lf_0 (by decide) ft_11_0 (fun v37 => ?_)
      refine e_sipush (v := 152) i_M_whoseLaw_40 (by decide) ?_
      refine e_iconst (v := 2) i_M_whoseLaw_43 (by decide) ?_
      refine e_iload i_M_whoseLaw_44 rfl ?_
      refine e_imul i_M_whoseLaw_46 ?_
      refine e_iadd i_M_whoseLaw_47 ?_
      refine e_iald i_M_whoseLaw_48 (fun v48 => ?_)
      refine e_callI (as := [.ref w, .int v48]) (st' := []) i_M_whoseLaw_49 lm_116 (Or.inr (Or.inl ⟨rfl, rfl⟩)) w_M_isGlove rfl rfl rfl (Nat.le_of_ble_eq_true rfl) (Nat.le_of_ble_eq_true rfl) (m_rlt (q_M_isGlove _) (Nat.lt_of_lt_of_le (by decide) hρ)) rfl (fun v49 s49 => ?_)
      refine e_ifeq (t := 91) i_M_whoseLaw_52 (by decide) ?_ ?_
      · refine e_iconst (v := 1) i_M_whoseLaw_91 (by decide) ?_
        refine e_goto (t := 96) i_M_whoseLaw_92 (by decide) ?_
        refine e_istore_n (L' := [some (.ref w), some (.int n1), some (.int n2), some (.int 1), some (.int n4)]) i_M_whoseLaw_96 (of_decide_eq_true rfl) rfl ?_
        refine e_iinc (w := 1) (L' := [some (.ref w), some (.int n1), some (.int n2), some (.int 1), some (.int (n4 + (1 : Int32)))]) i_M_whoseLaw_97 rfl (of_decide_eq_true rfl) (by decide) rfl ?_
        refine e_goto (t := 19) i_M_whoseLaw_100 (by decide) ?_
        exact rfl
      · refine e_aload_n i_M_whoseLaw_55 rfl ?_
        refine e_iload_n i_M_whoseLaw_56 rfl ?_
        refine e_aload_n i_M_whoseLaw_57 rfl ?_
        refine e_getR i_M_whoseLaw_58 lf_0 (by decide) ft_11_0 (fun v58 => ?_)
        refine e_sipush (v := 152) i_M_whoseLaw_61 (by decide) ?_
        refine e_iconst (v := 2) i_M_whoseLaw_64 (by decide) ?_
        refine e_iload i_M_whoseLaw_65 rfl ?_
        refine e_imul i_M_whoseLaw_67 ?_
        refine e_iadd i_M_whoseLaw_68 ?_
        refine e_iald i_M_whoseLaw_69 (fun v69 => ?_)
        refine e_callI (as := [.ref w, .int n2, .int v69]) (st' := []) i_M_whoseLaw_70 lm_117 (Or.inr (Or.inl ⟨rfl, rfl⟩)) w_M_growsOf rfl rfl rfl (Nat.le_of_ble_eq_true rfl) (Nat.le_of_ble_eq_true rfl) (m_rlt (q_M_growsOf _) (Nat.lt_of_lt_of_le (by decide) hρ)) rfl (fun v70 s70 => ?_)
        refine e_aload_n i_M_whoseLaw_73 rfl ?_
        refine e_getR i_M_whoseLaw_74 lf_0 (by decide) ft_11_0 (fun v74 => ?_)
        refine e_sipush (v := 152) i_M_whoseLaw_77 (by decide) ?_
        refine e_iconst (v := 2) i_M_whoseLaw_80 (by decide) ?_
        refine e_iload i_M_whoseLaw_81 rfl ?_
        refine e_imul i_M_whoseLaw_83 ?_
        refine e_iadd i_M_whoseLaw_84 ?_
        refine e_iconst (v := 1) i_M_whoseLaw_85 (by decide) ?_
        refine e_iadd i_M_whoseLaw_86 ?_
        refine e_iald i_M_whoseLaw_87 (fun v87 => ?_)
        refine e_icmpne (t := 95) i_M_whoseLaw_88 (by decide) ?_ ?_
        · refine e_iconst (v := 0) i_M_whoseLaw_95 (by decide) ?_
          refine e_istore_n (L' := [some (.ref w), some (.int n1), some (.int n2), some (.int 0), some (.int n4)]) i_M_whoseLaw_96 (of_decide_eq_true rfl) rfl ?_
          refine e_iinc (w := 1) (L' := [some (.ref w), some (.int n1), some (.int n2), some (.int 0), some (.int (n4 + (1 : Int32)))]) i_M_whoseLaw_97 rfl (of_decide_eq_true rfl) (by decide) rfl ?_
          refine e_goto (t := 19) i_M_whoseLaw_100 (by decide) ?_
          exact rfl
        · refine e_iconst (v := 1) i_M_whoseLaw_91 (by decide) ?_
          refine e_goto (t := 96) i_M_whoseLaw_92 (by decide) ?_
          refine e_istore_n (L' := [some (.ref w), some (.int n1), some (.int n2), some (.int 1), some (.int n4)]) i_M_whoseLaw_96 (of_decide_eq_true rfl) rfl ?_
          refine e_iinc (w := 1) (L' := [some (.ref w), some (.int n1), some (.int n2), some (.int 1), some (.int (n4 + (1 : Int32)))]) i_M_whoseLaw_97 rfl (of_decide_eq_true rfl) (by decide) rfl ?_
          refine e_goto (t := 19) i_M_whoseLaw_100 (by decide) ?_
          exact rfl
theorem i_M_grown_0 : m_at k_M_grown 0 = some (.iload_n 1, 1, 0) := m_at_of r_M_grown (by decide +kernel)
theorem i_M_grown_1 : m_at k_M_grown 1 = some (.iconst (-1), 1, 0) := m_at_of r_M_grown (by decide +kernel)
theorem i_M_grown_2 : m_at k_M_grown 2 = some (.if_icmp .ne (13), 3, 0) := m_at_of r_M_grown (by decide +kernel)
theorem i_M_grown_5 : m_at k_M_grown 5 = some (.aload_n 0, 1, 0) := m_at_of r_M_grown (by decide +kernel)
theorem i_M_grown_6 : m_at k_M_grown 6 = some (.getfield 7, 3, 0) := m_at_of r_M_grown (by decide +kernel)
theorem i_M_grown_9 : m_at k_M_grown 9 = some (.bipush 7, 2, 0) := m_at_of r_M_grown (by decide +kernel)
theorem i_M_grown_11 : m_at k_M_grown 11 = some (.iconst 0, 1, 0) := m_at_of r_M_grown (by decide +kernel)
theorem i_M_grown_12 : m_at k_M_grown 12 = some (.iastore, 1, 0) := m_at_of r_M_grown (by decide +kernel)
theorem i_M_grown_13 : m_at k_M_grown 13 = some (.iconst 0, 1, 0) := m_at_of r_M_grown (by decide +kernel)
theorem i_M_grown_14 : m_at k_M_grown 14 = some (.ireturn, 1, 0) := m_at_of r_M_grown (by decide +kernel)
theorem i_M_grown_15 : m_at k_M_grown 15 = some (.aload_n 0, 1, 0) := m_at_of r_M_grown (by decide +kernel)
theorem i_M_grown_16 : m_at k_M_grown 16 = some (.iload_n 1, 1, 0) := m_at_of r_M_grown (by decide +kernel)
theorem i_M_grown_17 : m_at k_M_grown 17 = some (.invokevirtual 365, 3, 116) := m_at_of r_M_grown (by decide +kernel)
theorem i_M_grown_20 : m_at k_M_grown 20 = some (.ifCond .eq (25), 3, 0) := m_at_of r_M_grown (by decide +kernel)
theorem i_M_grown_23 : m_at k_M_grown 23 = some (.iload_n 2, 1, 0) := m_at_of r_M_grown (by decide +kernel)
theorem i_M_grown_24 : m_at k_M_grown 24 = some (.iconst 0, 1, 0) := m_at_of r_M_grown (by decide +kernel)
theorem i_M_grown_25 : m_at k_M_grown 25 = some (.bipush 9, 2, 0) := m_at_of r_M_grown (by decide +kernel)
theorem i_M_grown_27 : m_at k_M_grown 27 = some (.invokestatic 81, 3, 96) := m_at_of r_M_grown (by decide +kernel)
theorem i_M_grown_30 : m_at k_M_grown 30 = some (.ifCond .eq (15), 3, 0) := m_at_of r_M_grown (by decide +kernel)
theorem i_M_grown_33 : m_at k_M_grown 33 = some (.aload_n 0, 1, 0) := m_at_of r_M_grown (by decide +kernel)
theorem i_M_grown_34 : m_at k_M_grown 34 = some (.getfield 7, 3, 0) := m_at_of r_M_grown (by decide +kernel)
theorem i_M_grown_37 : m_at k_M_grown 37 = some (.bipush 7, 2, 0) := m_at_of r_M_grown (by decide +kernel)
theorem i_M_grown_39 : m_at k_M_grown 39 = some (.iaload, 1, 0) := m_at_of r_M_grown (by decide +kernel)
theorem i_M_grown_40 : m_at k_M_grown 40 = some (.bipush 8, 2, 0) := m_at_of r_M_grown (by decide +kernel)
theorem i_M_grown_42 : m_at k_M_grown 42 = some (.if_icmp .ne (6), 3, 0) := m_at_of r_M_grown (by decide +kernel)
theorem i_M_grown_45 : m_at k_M_grown 45 = some (.bipush (-2), 2, 0) := m_at_of r_M_grown (by decide +kernel)
theorem i_M_grown_47 : m_at k_M_grown 47 = some (.ireturn, 1, 0) := m_at_of r_M_grown (by decide +kernel)
theorem i_M_grown_48 : m_at k_M_grown 48 = some (.aload_n 0, 1, 0) := m_at_of r_M_grown (by decide +kernel)
theorem i_M_grown_49 : m_at k_M_grown 49 = some (.getfield 7, 3, 0) := m_at_of r_M_grown (by decide +kernel)
theorem i_M_grown_52 : m_at k_M_grown 52 = some (.sipush 152, 3, 0) := m_at_of r_M_grown (by decide +kernel)
theorem i_M_grown_55 : m_at k_M_grown 55 = some (.iconst 2, 1, 0) := m_at_of r_M_grown (by decide +kernel)
theorem i_M_grown_56 : m_at k_M_grown 56 = some (.aload_n 0, 1, 0) := m_at_of r_M_grown (by decide +kernel)
theorem i_M_grown_57 : m_at k_M_grown 57 = some (.getfield 7, 3, 0) := m_at_of r_M_grown (by decide +kernel)
theorem i_M_grown_60 : m_at k_M_grown 60 = some (.bipush 7, 2, 0) := m_at_of r_M_grown (by decide +kernel)
theorem i_M_grown_62 : m_at k_M_grown 62 = some (.iaload, 1, 0) := m_at_of r_M_grown (by decide +kernel)
theorem i_M_grown_63 : m_at k_M_grown 63 = some (.imul, 1, 0) := m_at_of r_M_grown (by decide +kernel)
theorem i_M_grown_64 : m_at k_M_grown 64 = some (.iadd, 1, 0) := m_at_of r_M_grown (by decide +kernel)
theorem i_M_grown_65 : m_at k_M_grown 65 = some (.iload_n 1, 1, 0) := m_at_of r_M_grown (by decide +kernel)
theorem i_M_grown_66 : m_at k_M_grown 66 = some (.iastore, 1, 0) := m_at_of r_M_grown (by decide +kernel)
theorem i_M_grown_67 : m_at k_M_grown 67 = some (.aload_n 0, 1, 0) := m_at_of r_M_grown (by decide +kernel)
theorem i_M_grown_68 : m_at k_M_grown 68 = some (.getfield 7, 3, 0) := m_at_of r_M_grown (by decide +kernel)
theorem i_M_grown_71 : m_at k_M_grown 71 = some (.sipush 152, 3, 0) := m_at_of r_M_grown (by decide +kernel)
theorem i_M_grown_74 : m_at k_M_grown 74 = some (.iconst 2, 1, 0) := m_at_of r_M_grown (by decide +kernel)
theorem i_M_grown_75 : m_at k_M_grown 75 = some (.aload_n 0, 1, 0) := m_at_of r_M_grown (by decide +kernel)
theorem i_M_grown_76 : m_at k_M_grown 76 = some (.getfield 7, 3, 0) := m_at_of r_M_grown (by decide +kernel)
theorem i_M_grown_79 : m_at k_M_grown 79 = some (.bipush 7, 2, 0) := m_at_of r_M_grown (by decide +kernel)
theorem i_M_grown_81 : m_at k_M_grown 81 = some (.iaload, 1, 0) := m_at_of r_M_grown (by decide +kernel)
theorem i_M_grown_82 : m_at k_M_grown 82 = some (.imul, 1, 0) := m_at_of r_M_grown (by decide +kernel)
theorem i_M_grown_83 : m_at k_M_grown 83 = some (.iadd, 1, 0) := m_at_of r_M_grown (by decide +kernel)
theorem i_M_grown_84 : m_at k_M_grown 84 = some (.iconst 1, 1, 0) := m_at_of r_M_grown (by decide +kernel)
theorem i_M_grown_85 : m_at k_M_grown 85 = some (.iadd, 1, 0) := m_at_of r_M_grown (by decide +kernel)
theorem i_M_grown_86 : m_at k_M_grown 86 = some (.iload_n 2, 1, 0) := m_at_of r_M_grown (by decide +kernel)
theorem i_M_grown_87 : m_at k_M_grown 87 = some (.iastore, 1, 0) := m_at_of r_M_grown (by decide +kernel)
theorem i_M_grown_88 : m_at k_M_grown 88 = some (.aload_n 0, 1, 0) := m_at_of r_M_grown (by decide +kernel)
theorem i_M_grown_89 : m_at k_M_grown 89 = some (.getfield 7, 3, 0) := m_at_of r_M_grown (by decide +kernel)
theorem i_M_grown_92 : m_at k_M_grown 92 = some (.bipush 7, 2, 0) := m_at_of r_M_grown (by decide +kernel)
theorem i_M_grown_94 : m_at k_M_grown 94 = some (.dup2, 1, 0) := m_at_of r_M_grown (by decide +kernel)
theorem i_M_grown_95 : m_at k_M_grown 95 = some (.iaload, 1, 0) := m_at_of r_M_grown (by decide +kernel)
theorem i_M_grown_96 : m_at k_M_grown 96 = some (.iconst 1, 1, 0) := m_at_of r_M_grown (by decide +kernel)
theorem i_M_grown_97 : m_at k_M_grown 97 = some (.iadd, 1, 0) := m_at_of r_M_grown (by decide +kernel)
theorem i_M_grown_98 : m_at k_M_grown 98 = some (.iastore, 1, 0) := m_at_of r_M_grown (by decide +kernel)
theorem i_M_grown_99 : m_at k_M_grown 99 = some (.aload_n 0, 1, 0) := m_at_of r_M_grown (by decide +kernel)
theorem i_M_grown_100 : m_at k_M_grown 100 = some (.getfield 7, 3, 0) := m_at_of r_M_grown (by decide +kernel)
theorem i_M_grown_103 : m_at k_M_grown 103 = some (.bipush 7, 2, 0) := m_at_of r_M_grown (by decide +kernel)
theorem i_M_grown_105 : m_at k_M_grown 105 = some (.iaload, 1, 0) := m_at_of r_M_grown (by decide +kernel)
theorem i_M_grown_106 : m_at k_M_grown 106 = some (.ireturn, 1, 0) := m_at_of r_M_grown (by decide +kernel)
set_option maxRecDepth 20000 in
set_option maxHeartbeats 1000000 in
theorem E_M_grown (x : m_X) (s : m_H) (w : Nat) (n1 : Int32) (n2 : Int32) : m_M x k_M_grown [.ref w, .int n1, .int n2] s = if m_isO s w 11 = true then (if n1 = (-1) then ((m_fR s 11 0 w).bind fun v6 => (m_is s v6 7 0).bind fun s12 => some (some (.int 0), s12)) else m_bI (m_M x k_M_isGlove [.ref w, .int n1] s) fun v17 s17 => if v17 = 0 then (some (some (.int (-2)), s17)) else m_bI (m_M x k_M_isIn [.int n2, .int 0, .int 9] s17) fun v27 s27 => if v27 = 0 then (some (some (.int (-2)), s27)) else (m_fR s27 11 0 w).bind fun v34 => (m_ia x s27 v34 7).bind fun v39 => if v39 = 8 then (some (some (.int (-2)), s27)) else (m_fR s27 11 0 w).bind fun v49 => (m_fR s27 11 0 w).bind fun v57 => (m_ia x s27 v57 7).bind fun v62 => (m_is s27 v49 ((152 : Int32) + ((2 : Int32) * v62)) n1).bind fun s66 => (m_fR s66 11 0 w).bind fun v68 => (m_fR s66 11 0 w).bind fun v76 => (m_ia x s66 v76 7).bind fun v81 => (m_is s66 v68 (((152 : Int32) + ((2 : Int32) * v81)) + (1 : Int32)) n2).bind fun s87 => (m_fR s87 11 0 w).bind fun v89 => (m_ia x s87 v89 7).bind fun v95 => (m_is s87 v89 7 (v95 + (1 : Int32))).bind fun s98 => (m_fR s98 11 0 w).bind fun v100 => (m_ia x s98 v100 7).bind fun v105 => some (some (.int v105), s98)) else none := by
  refine e_M1 (L0 := [some (.ref w), some (.int n1), some (.int n2)]) rfl (by decide +kernel) rfl (q_M_grown _) rfl ?_
  refine e_iload_n i_M_grown_0 rfl ?_
  refine e_iconst (v := (-1)) i_M_grown_1 (by decide) ?_
  refine e_icmpne (t := 15) i_M_grown_2 (by decide) ?_ ?_
  · refine e_aload_n i_M_grown_15 rfl ?_
    refine e_iload_n i_M_grown_16 rfl ?_
    refine e_callI (as := [.ref w, .int n1]) (st' := []) i_M_grown_17 lm_116 (Or.inr (Or.inl ⟨rfl, rfl⟩)) w_M_isGlove rfl rfl rfl (Nat.le_of_ble_eq_true rfl) (Nat.le_of_ble_eq_true rfl) (m_rlt (q_M_isGlove _) (by decide)) rfl (fun v17 s17 => ?_)
    refine e_ifeq (t := 45) i_M_grown_20 (by decide) ?_ ?_
    · refine e_bipush (v := (-2)) i_M_grown_45 (by decide) ?_
      exact e_iretI i_M_grown_47 rfl
    · refine e_iload_n i_M_grown_23 rfl ?_
      refine e_iconst (v := 0) i_M_grown_24 (by decide) ?_
      refine e_bipush (v := 9) i_M_grown_25 (by decide) ?_
      refine e_callI (as := [.int n2, .int 0, .int 9]) (st' := []) i_M_grown_27 lm_96 (Or.inl ⟨rfl, rfl⟩) w_M_isIn rfl rfl rfl (Nat.le_of_ble_eq_true rfl) (Nat.le_of_ble_eq_true rfl) (m_rlt (q_M_isIn _) (by decide)) rfl (fun v27 s27 => ?_)
      refine e_ifeq (t := 45) i_M_grown_30 (by decide) ?_ ?_
      · refine e_bipush (v := (-2)) i_M_grown_45 (by decide) ?_
        exact e_iretI i_M_grown_47 rfl
      · refine e_aload_n i_M_grown_33 rfl ?_
        refine e_getR i_M_grown_34 lf_0 (by decide) ft_11_0 (fun v34 => ?_)
        refine e_bipush (v := 7) i_M_grown_37 (by decide) ?_
        refine e_iald i_M_grown_39 (fun v39 => ?_)
        refine e_bipush (v := 8) i_M_grown_40 (by decide) ?_
        refine e_icmpne (t := 48) i_M_grown_42 (by decide) ?_ ?_
        · refine e_aload_n i_M_grown_48 rfl ?_
          refine e_getR i_M_grown_49 lf_0 (by decide) ft_11_0 (fun v49 => ?_)
          refine e_sipush (v := 152) i_M_grown_52 (by decide) ?_
          refine e_iconst (v := 2) i_M_grown_55 (by decide) ?_
          refine e_aload_n i_M_grown_56 rfl ?_
          refine e_getR i_M_grown_57 lf_0 (by decide) ft_11_0 (fun v57 => ?_)
          refine e_bipush (v := 7) i_M_grown_60 (by decide) ?_
          refine e_iald i_M_grown_62 (fun v62 => ?_)
          refine e_imul i_M_grown_63 ?_
          refine e_iadd i_M_grown_64 ?_
          refine e_iload_n i_M_grown_65 rfl ?_
          refine e_iast i_M_grown_66 (fun s66 => ?_)
          refine e_aload_n i_M_grown_67 rfl ?_
          refine e_getR i_M_grown_68 lf_0 (by decide) ft_11_0 (fun v68 => ?_)
          refine e_sipush (v := 152) i_M_grown_71 (by decide) ?_
          refine e_iconst (v := 2) i_M_grown_74 (by decide) ?_
          refine e_aload_n i_M_grown_75 rfl ?_
          refine e_getR i_M_grown_76 lf_0 (by decide) ft_11_0 (fun v76 => ?_)
          refine e_bipush (v := 7) i_M_grown_79 (by decide) ?_
          refine e_iald i_M_grown_81 (fun v81 => ?_)
          refine e_imul i_M_grown_82 ?_
          refine e_iadd i_M_grown_83 ?_
          refine e_iconst (v := 1) i_M_grown_84 (by decide) ?_
          refine e_iadd i_M_grown_85 ?_
          refine e_iload_n i_M_grown_86 rfl ?_
          refine e_iast i_M_grown_87 (fun s87 => ?_)
          refine e_aload_n i_M_grown_88 rfl ?_
          refine e_getR i_M_grown_89 lf_0 (by decide) ft_11_0 (fun v89 => ?_)
          refine e_bipush (v := 7) i_M_grown_92 (by decide) ?_
          refine e_dup2 i_M_grown_94 ⟨rfl, rfl⟩ ?_
          refine e_iald i_M_grown_95 (fun v95 => ?_)
          refine e_iconst (v := 1) i_M_grown_96 (by decide) ?_
          refine e_iadd i_M_grown_97 ?_
          refine e_iast i_M_grown_98 (fun s98 => ?_)
          refine e_aload_n i_M_grown_99 rfl ?_
          refine e_getR i_M_grown_100 lf_0 (by decide) ft_11_0 (fun v100 => ?_)
          refine e_bipush (v := 7) i_M_grown_103 (by decide) ?_
          refine e_iald i_M_grown_105 (fun v105 => ?_)
          exact e_iretI i_M_grown_106 rfl
        · refine e_bipush (v := (-2)) i_M_grown_45 (by decide) ?_
          exact e_iretI i_M_grown_47 rfl
  · refine e_aload_n i_M_grown_5 rfl ?_
    refine e_getR i_M_grown_6 lf_0 (by decide) ft_11_0 (fun v6 => ?_)
    refine e_bipush (v := 7) i_M_grown_9 (by decide) ?_
    refine e_iconst (v := 0) i_M_grown_11 (by decide) ?_
    refine e_iast i_M_grown_12 (fun s12 => ?_)
    refine e_iconst (v := 0) i_M_grown_13 (by decide) ?_
    exact e_iretI i_M_grown_14 rfl
theorem i_M_richest_0 : m_at k_M_richest 0 = some (.iconst (-1), 1, 0) := m_at_of r_M_richest (by decide +kernel)
theorem i_M_richest_1 : m_at k_M_richest 1 = some (.istore_n 1, 1, 0) := m_at_of r_M_richest (by decide +kernel)
theorem i_M_richest_2 : m_at k_M_richest 2 = some (.iconst 0, 1, 0) := m_at_of r_M_richest (by decide +kernel)
theorem i_M_richest_3 : m_at k_M_richest 3 = some (.istore_n 2, 1, 0) := m_at_of r_M_richest (by decide +kernel)
theorem i_M_richest_4 : m_at k_M_richest 4 = some (.iconst 0, 1, 0) := m_at_of r_M_richest (by decide +kernel)
theorem i_M_richest_5 : m_at k_M_richest 5 = some (.istore_n 3, 1, 0) := m_at_of r_M_richest (by decide +kernel)
theorem i_M_richest_6 : m_at k_M_richest 6 = some (.iload_n 3, 1, 0) := m_at_of r_M_richest (by decide +kernel)
theorem i_M_richest_7 : m_at k_M_richest 7 = some (.aload_n 0, 1, 0) := m_at_of r_M_richest (by decide +kernel)
theorem i_M_richest_8 : m_at k_M_richest 8 = some (.getfield 7, 3, 0) := m_at_of r_M_richest (by decide +kernel)
theorem i_M_richest_11 : m_at k_M_richest 11 = some (.iconst 0, 1, 0) := m_at_of r_M_richest (by decide +kernel)
theorem i_M_richest_12 : m_at k_M_richest 12 = some (.iaload, 1, 0) := m_at_of r_M_richest (by decide +kernel)
theorem i_M_richest_13 : m_at k_M_richest 13 = some (.if_icmp .ge (85), 3, 0) := m_at_of r_M_richest (by decide +kernel)
theorem i_M_richest_16 : m_at k_M_richest 16 = some (.iconst 0, 1, 0) := m_at_of r_M_richest (by decide +kernel)
theorem i_M_richest_17 : m_at k_M_richest 17 = some (.istore 4, 2, 0) := m_at_of r_M_richest (by decide +kernel)
theorem i_M_richest_19 : m_at k_M_richest 19 = some (.iconst 0, 1, 0) := m_at_of r_M_richest (by decide +kernel)
theorem i_M_richest_20 : m_at k_M_richest 20 = some (.istore 5, 2, 0) := m_at_of r_M_richest (by decide +kernel)
theorem i_M_richest_22 : m_at k_M_richest 22 = some (.iload 5, 2, 0) := m_at_of r_M_richest (by decide +kernel)
theorem i_M_richest_24 : m_at k_M_richest 24 = some (.aload_n 0, 1, 0) := m_at_of r_M_richest (by decide +kernel)
theorem i_M_richest_25 : m_at k_M_richest 25 = some (.getfield 7, 3, 0) := m_at_of r_M_richest (by decide +kernel)
theorem i_M_richest_28 : m_at k_M_richest 28 = some (.bipush 11, 2, 0) := m_at_of r_M_richest (by decide +kernel)
theorem i_M_richest_30 : m_at k_M_richest 30 = some (.iaload, 1, 0) := m_at_of r_M_richest (by decide +kernel)
theorem i_M_richest_31 : m_at k_M_richest 31 = some (.if_icmp .ge (47), 3, 0) := m_at_of r_M_richest (by decide +kernel)
theorem i_M_richest_34 : m_at k_M_richest 34 = some (.iload 4, 2, 0) := m_at_of r_M_richest (by decide +kernel)
theorem i_M_richest_36 : m_at k_M_richest 36 = some (.aload_n 0, 1, 0) := m_at_of r_M_richest (by decide +kernel)
theorem i_M_richest_37 : m_at k_M_richest 37 = some (.iload 5, 2, 0) := m_at_of r_M_richest (by decide +kernel)
theorem i_M_richest_39 : m_at k_M_richest 39 = some (.iconst 1, 1, 0) := m_at_of r_M_richest (by decide +kernel)
theorem i_M_richest_40 : m_at k_M_richest 40 = some (.invokevirtual 85, 3, 106) := m_at_of r_M_richest (by decide +kernel)
theorem i_M_richest_43 : m_at k_M_richest 43 = some (.iload_n 3, 1, 0) := m_at_of r_M_richest (by decide +kernel)
theorem i_M_richest_44 : m_at k_M_richest 44 = some (.if_icmp .ne (24), 3, 0) := m_at_of r_M_richest (by decide +kernel)
theorem i_M_richest_47 : m_at k_M_richest 47 = some (.aload_n 0, 1, 0) := m_at_of r_M_richest (by decide +kernel)
theorem i_M_richest_48 : m_at k_M_richest 48 = some (.iload 5, 2, 0) := m_at_of r_M_richest (by decide +kernel)
theorem i_M_richest_50 : m_at k_M_richest 50 = some (.bipush 6, 2, 0) := m_at_of r_M_richest (by decide +kernel)
theorem i_M_richest_52 : m_at k_M_richest 52 = some (.invokevirtual 85, 3, 106) := m_at_of r_M_richest (by decide +kernel)
theorem i_M_richest_55 : m_at k_M_richest 55 = some (.ifCond .ne (13), 3, 0) := m_at_of r_M_richest (by decide +kernel)
theorem i_M_richest_58 : m_at k_M_richest 58 = some (.aload_n 0, 1, 0) := m_at_of r_M_richest (by decide +kernel)
theorem i_M_richest_59 : m_at k_M_richest 59 = some (.iload 5, 2, 0) := m_at_of r_M_richest (by decide +kernel)
theorem i_M_richest_61 : m_at k_M_richest 61 = some (.iconst 2, 1, 0) := m_at_of r_M_richest (by decide +kernel)
theorem i_M_richest_62 : m_at k_M_richest 62 = some (.invokevirtual 85, 3, 106) := m_at_of r_M_richest (by decide +kernel)
theorem i_M_richest_65 : m_at k_M_richest 65 = some (.goto (4), 3, 0) := m_at_of r_M_richest (by decide +kernel)
theorem i_M_richest_68 : m_at k_M_richest 68 = some (.iconst 0, 1, 0) := m_at_of r_M_richest (by decide +kernel)
theorem i_M_richest_69 : m_at k_M_richest 69 = some (.iadd, 1, 0) := m_at_of r_M_richest (by decide +kernel)
theorem i_M_richest_70 : m_at k_M_richest 70 = some (.istore 4, 2, 0) := m_at_of r_M_richest (by decide +kernel)
theorem i_M_richest_72 : m_at k_M_richest 72 = some (.iinc 5 (1), 3, 0) := m_at_of r_M_richest (by decide +kernel)
theorem i_M_richest_75 : m_at k_M_richest 75 = some (.goto (-53), 3, 0) := m_at_of r_M_richest (by decide +kernel)
theorem i_M_richest_78 : m_at k_M_richest 78 = some (.iload 4, 2, 0) := m_at_of r_M_richest (by decide +kernel)
theorem i_M_richest_80 : m_at k_M_richest 80 = some (.iload_n 2, 1, 0) := m_at_of r_M_richest (by decide +kernel)
theorem i_M_richest_81 : m_at k_M_richest 81 = some (.if_icmp .gt (6), 3, 0) := m_at_of r_M_richest (by decide +kernel)
theorem i_M_richest_84 : m_at k_M_richest 84 = some (.goto (8), 3, 0) := m_at_of r_M_richest (by decide +kernel)
theorem i_M_richest_87 : m_at k_M_richest 87 = some (.iload 4, 2, 0) := m_at_of r_M_richest (by decide +kernel)
theorem i_M_richest_89 : m_at k_M_richest 89 = some (.istore_n 2, 1, 0) := m_at_of r_M_richest (by decide +kernel)
theorem i_M_richest_90 : m_at k_M_richest 90 = some (.iload_n 3, 1, 0) := m_at_of r_M_richest (by decide +kernel)
theorem i_M_richest_91 : m_at k_M_richest 91 = some (.istore_n 1, 1, 0) := m_at_of r_M_richest (by decide +kernel)
theorem i_M_richest_92 : m_at k_M_richest 92 = some (.iinc 3 (1), 3, 0) := m_at_of r_M_richest (by decide +kernel)
theorem i_M_richest_95 : m_at k_M_richest 95 = some (.goto (-89), 3, 0) := m_at_of r_M_richest (by decide +kernel)
theorem i_M_richest_98 : m_at k_M_richest 98 = some (.iload_n 1, 1, 0) := m_at_of r_M_richest (by decide +kernel)
theorem i_M_richest_99 : m_at k_M_richest 99 = some (.ireturn, 1, 0) := m_at_of r_M_richest (by decide +kernel)
set_option maxRecDepth 20000 in
set_option maxHeartbeats 1000000 in
theorem E_M_richest (x : m_X) (s : m_H) (w : Nat) : m_M x k_M_richest [.ref w] s = if m_isO s w 11 = true then (m_D x 2 k_M_richest 6 [some (.ref w), some (.int (-1)), some (.int 0), some (.int 0), none, none] [] s) else none := by
  refine e_M1 (L0 := [some (.ref w), none, none, none, none, none]) rfl (by decide +kernel) rfl (q_M_richest _) rfl ?_
  refine e_iconst (v := (-1)) i_M_richest_0 (by decide) ?_
  refine e_istore_n (L' := [some (.ref w), some (.int (-1)), none, none, none, none]) i_M_richest_1 (of_decide_eq_true rfl) rfl ?_
  refine e_iconst (v := 0) i_M_richest_2 (by decide) ?_
  refine e_istore_n (L' := [some (.ref w), some (.int (-1)), some (.int 0), none, none, none]) i_M_richest_3 (of_decide_eq_true rfl) rfl ?_
  refine e_iconst (v := 0) i_M_richest_4 (by decide) ?_
  refine e_istore_n (L' := [some (.ref w), some (.int (-1)), some (.int 0), some (.int 0), none, none]) i_M_richest_5 (of_decide_eq_true rfl) rfl ?_
  exact rfl
set_option maxRecDepth 20000 in
set_option maxHeartbeats 1000000 in
theorem E_M_richest_6 (x : m_X) (ρ : Nat) (hρ : 2 ≤ ρ) (s : m_H) (w : Nat) (n1 : Int32) (n2 : Int32) (n3 : Int32) (d4 : Option Value) (d5 : Option Value) (hd4 : m_nl d4 = true) (hd5 : m_nl d5 = true) : m_D x ρ k_M_richest 6 [some (.ref w), some (.int n1), some (.int n2), some (.int n3), d4, d5] [] s = (m_fR s 11 0 w).bind fun v8 => (m_ia x s v8 0).bind fun v12 => if v12 ≤ n3 then (some (some (.int n1), s)) else m_D x ρ k_M_richest 22 [some (.ref w), some (.int n1), some (.int n2), some (.int n3), some (.int 0), some (.int 0)] [] s := by
  refine e_iload_n i_M_richest_6 rfl ?_
  refine e_aload_n i_M_richest_7 rfl ?_
  refine e_getR i_M_richest_8 lf_0 (by decide) ft_11_0 (fun v8 => ?_)
  refine e_iconst (v := 0) i_M_richest_11 (by decide) ?_
  refine e_iald i_M_richest_12 (fun v12 => ?_)
  refine e_icmpge (t := 98) i_M_richest_13 (by decide) ?_ ?_
  · refine e_iload_n i_M_richest_98 rfl ?_
    exact e_iretI i_M_richest_99 rfl
  · refine e_iconst (v := 0) i_M_richest_16 (by decide) ?_
    refine e_istore (L' := [some (.ref w), some (.int n1), some (.int n2), some (.int n3), some (.int 0), d5]) i_M_richest_17 (of_decide_eq_true rfl) rfl ?_
    refine e_iconst (v := 0) i_M_richest_19 (by decide) ?_
    refine e_istore (L' := [some (.ref w), some (.int n1), some (.int n2), some (.int n3), some (.int 0), some (.int 0)]) i_M_richest_20 (of_decide_eq_true rfl) rfl ?_
    exact rfl
set_option maxRecDepth 20000 in
set_option maxHeartbeats 1000000 in
theorem E_M_richest_22 (x : m_X) (ρ : Nat) (hρ : 2 ≤ ρ) (s : m_H) (w : Nat) (n1 : Int32) (n2 : Int32) (n3 : Int32) (n4 : Int32) (n5 : Int32)  : m_D x ρ k_M_richest 22 [some (.ref w), some (.int n1), some (.int n2), some (.int n3), some (.int n4), some (.int n5)] [] s = (m_fR s 11 0 w).bind fun v25 => (m_ia x s v25 11).bind fun v30 => if v30 ≤ n5 then (if n2 < n4 then (m_D x ρ k_M_richest 6 [some (.ref w), some (.int n3), some (.int n4), some (.int (n3 + (1 : Int32))), some (.int n4), some (.int n5)] [] s) else m_D x ρ k_M_richest 6 [some (.ref w), some (.int n1), some (.int n2), some (.int (n3 + (1 : Int32))), some (.int n4), some (.int n5)] [] s) else m_bI (m_M x k_M_get [.ref w, .int n5, .int 1] s) fun v40 s40 => if v40 = n3 then (m_bI (m_M x k_M_get [.ref w, .int n5, .int 6] s40) fun v52 s52 => if v52 = 0 then (m_bI (m_M x k_M_get [.ref w, .int n5, .int 2] s52) fun v62 s62 => m_D x ρ k_M_richest 22 [some (.ref w), some (.int n1), some (.int n2), some (.int n3), some (.int (n4 + v62)), some (.int (n5 + (1 : Int32)))] [] s62) else m_D x ρ k_M_richest 22 [some (.ref w), some (.int n1), some (.int n2), some (.int n3), some (.int (n4 + (0 : Int32))), some (.int (n5 + (1 : Int32)))] [] s52) else m_D x ρ k_M_richest 22 [some (.ref w), some (.int n1), some (.int n2), some (.int n3), some (.int (n4 + (0 : Int32))), some (.int (n5 + (1 : Int32)))] [] s40 := by
  refine e_iload i_M_richest_22 rfl ?_
  refine e_aload_n i_M_richest_24 rfl ?_
  refine e_getR i_M_richest_25 lf_0 (by decide) ft_11_0 (fun v25 => ?_)
  refine e_bipush (v := 11) i_M_richest_28 (by decide) ?_
  refine e_iald i_M_richest_30 (fun v30 => ?_)
  refine e_icmpge (t := 78) i_M_richest_31 (by decide) ?_ ?_
  · refine e_iload i_M_richest_78 rfl ?_
    refine e_iload_n i_M_richest_80 rfl ?_
    refine e_icmpgt (t := 87) i_M_richest_81 (by decide) ?_ ?_
    · refine e_iload i_M_richest_87 rfl ?_
      refine e_istore_n (L' := [some (.ref w), some (.int n1), some (.int n4), some (.int n3), some (.int n4), some (.int n5)]) i_M_richest_89 (of_decide_eq_true rfl) rfl ?_
      refine e_iload_n i_M_richest_90 rfl ?_
      refine e_istore_n (L' := [some (.ref w), some (.int n3), some (.int n4), some (.int n3), some (.int n4), some (.int n5)]) i_M_richest_91 (of_decide_eq_true rfl) rfl ?_
      refine e_iinc (w := 1) (L' := [some (.ref w), some (.int n3), some (.int n4), some (.int (n3 + (1 : Int32))), some (.int n4), some (.int n5)]) i_M_richest_92 rfl (of_decide_eq_true rfl) (by decide) rfl ?_
      refine e_goto (t := 6) i_M_richest_95 (by decide) ?_
      exact rfl
    · refine e_goto (t := 92) i_M_richest_84 (by decide) ?_
      refine e_iinc (w := 1) (L' := [some (.ref w), some (.int n1), some (.int n2), some (.int (n3 + (1 : Int32))), some (.int n4), some (.int n5)]) i_M_richest_92 rfl (of_decide_eq_true rfl) (by decide) rfl ?_
      refine e_goto (t := 6) i_M_richest_95 (by decide) ?_
      exact rfl
  · refine e_iload i_M_richest_34 rfl ?_
    refine e_aload_n i_M_richest_36 rfl ?_
    refine e_iload i_M_richest_37 rfl ?_
    refine e_iconst (v := 1) i_M_richest_39 (by decide) ?_
    refine e_callI (as := [.ref w, .int n5, .int 1]) (st' := [.int n4]) i_M_richest_40 lm_106 (Or.inr (Or.inl ⟨rfl, rfl⟩)) w_M_get rfl rfl rfl (Nat.le_of_ble_eq_true rfl) (Nat.le_of_ble_eq_true rfl) (m_rlt (q_M_get _) (Nat.lt_of_lt_of_le (by decide) hρ)) rfl (fun v40 s40 => ?_)
    refine e_iload_n i_M_richest_43 rfl ?_
    refine e_icmpne (t := 68) i_M_richest_44 (by decide) ?_ ?_
    · refine e_iconst (v := 0) i_M_richest_68 (by decide) ?_
      refine e_iadd i_M_richest_69 ?_
      refine e_istore (L' := [some (.ref w), some (.int n1), some (.int n2), some (.int n3), some (.int (n4 + (0 : Int32))), some (.int n5)]) i_M_richest_70 (of_decide_eq_true rfl) rfl ?_
      refine e_iinc (w := 1) (L' := [some (.ref w), some (.int n1), some (.int n2), some (.int n3), some (.int (n4 + (0 : Int32))), some (.int (n5 + (1 : Int32)))]) i_M_richest_72 rfl (of_decide_eq_true rfl) (by decide) rfl ?_
      refine e_goto (t := 22) i_M_richest_75 (by decide) ?_
      exact rfl
    · refine e_aload_n i_M_richest_47 rfl ?_
      refine e_iload i_M_richest_48 rfl ?_
      refine e_bipush (v := 6) i_M_richest_50 (by decide) ?_
      refine e_callI (as := [.ref w, .int n5, .int 6]) (st' := [.int n4]) i_M_richest_52 lm_106 (Or.inr (Or.inl ⟨rfl, rfl⟩)) w_M_get rfl rfl rfl (Nat.le_of_ble_eq_true rfl) (Nat.le_of_ble_eq_true rfl) (m_rlt (q_M_get _) (Nat.lt_of_lt_of_le (by decide) hρ)) rfl (fun v52 s52 => ?_)
      refine e_ifne (t := 68) i_M_richest_55 (by decide) ?_ ?_
      · refine e_iconst (v := 0) i_M_richest_68 (by decide) ?_
        refine e_iadd i_M_richest_69 ?_
        refine e_istore (L' := [some (.ref w), some (.int n1), some (.int n2), some (.int n3), some (.int (n4 + (0 : Int32))), some (.int n5)]) i_M_richest_70 (of_decide_eq_true rfl) rfl ?_
        refine e_iinc (w := 1) (L' := [some (.ref w), some (.int n1), some (.int n2), some (.int n3), some (.int (n4 + (0 : Int32))), some (.int (n5 + (1 : Int32)))]) i_M_richest_72 rfl (of_decide_eq_true rfl) (by decide) rfl ?_
        refine e_goto (t := 22) i_M_richest_75 (by decide) ?_
        exact rfl
      · refine e_aload_n i_M_richest_58 rfl ?_
        refine e_iload i_M_richest_59 rfl ?_
        refine e_iconst (v := 2) i_M_richest_61 (by decide) ?_
        refine e_callI (as := [.ref w, .int n5, .int 2]) (st' := [.int n4]) i_M_richest_62 lm_106 (Or.inr (Or.inl ⟨rfl, rfl⟩)) w_M_get rfl rfl rfl (Nat.le_of_ble_eq_true rfl) (Nat.le_of_ble_eq_true rfl) (m_rlt (q_M_get _) (Nat.lt_of_lt_of_le (by decide) hρ)) rfl (fun v62 s62 => ?_)
        refine e_goto (t := 69) i_M_richest_65 (by decide) ?_
        refine e_iadd i_M_richest_69 ?_
        refine e_istore (L' := [some (.ref w), some (.int n1), some (.int n2), some (.int n3), some (.int (n4 + v62)), some (.int n5)]) i_M_richest_70 (of_decide_eq_true rfl) rfl ?_
        refine e_iinc (w := 1) (L' := [some (.ref w), some (.int n1), some (.int n2), some (.int n3), some (.int (n4 + v62)), some (.int (n5 + (1 : Int32)))]) i_M_richest_72 rfl (of_decide_eq_true rfl) (by decide) rfl ?_
        refine e_goto (t := 22) i_M_richest_75 (by decide) ?_
        exact rfl
