theorem dX0_init_0 : decode cX0_init 0 = .ok (.aload_n 0, 1) := by decide +kernel
theorem dX0_init_1 : decode cX0_init 1 = .ok (.invokespecial 3, 3) := by decide +kernel
theorem dX0_init_4 : decode cX0_init 4 = .ok (.aload_n 0, 1) := by decide +kernel
theorem dX0_init_5 : decode cX0_init 5 = .ok (.bipush 50, 2) := by decide +kernel
theorem dX0_init_7 : decode cX0_init 7 = .ok (.newarray .int, 2) := by decide +kernel
theorem dX0_init_9 : decode cX0_init 9 = .ok (.putfield 9, 3) := by decide +kernel
theorem dX0_init_12 : decode cX0_init 12 = .ok (.aload_n 0, 1) := by decide +kernel
theorem dX0_init_13 : decode cX0_init 13 = .ok (.iconst 0, 1) := by decide +kernel
theorem dX0_init_14 : decode cX0_init 14 = .ok (.putfield 15, 3) := by decide +kernel
theorem dX0_init_17 : decode cX0_init 17 = .ok (.return_, 1) := by decide +kernel
theorem dX0_start_0 : decode cX0_start 0 = .ok (.aload_n 0, 1) := by decide +kernel
theorem dX0_start_1 : decode cX0_start 1 = .ok (.iconst 0, 1) := by decide +kernel
theorem dX0_start_2 : decode cX0_start 2 = .ok (.putfield 15, 3) := by decide +kernel
theorem dX0_start_5 : decode cX0_start 5 = .ok (.aload_n 0, 1) := by decide +kernel
theorem dX0_start_6 : decode cX0_start 6 = .ok (.aload_n 1, 1) := by decide +kernel
theorem dX0_start_7 : decode cX0_start 7 = .ok (.aload_n 1, 1) := by decide +kernel
theorem dX0_start_8 : decode cX0_start 8 = .ok (.getfield 19, 3) := by decide +kernel
theorem dX0_start_11 : decode cX0_start 11 = .ok (.iload_n 2, 1) := by decide +kernel
theorem dX0_start_12 : decode cX0_start 12 = .ok (.iload_n 3, 1) := by decide +kernel
theorem dX0_start_13 : decode cX0_start 13 = .ok (.iconst 0, 1) := by decide +kernel
theorem dX0_start_14 : decode cX0_start 14 = .ok (.invokevirtual 24, 3) := by decide +kernel
theorem dX0_start_17 : decode cX0_start 17 = .ok (.ireturn, 1) := by decide +kernel
theorem dX0_run_0 : decode cX0_run 0 = .ok (.iload_n 2, 1) := by decide +kernel
theorem dX0_run_1 : decode cX0_run 1 = .ok (.iload_n 3, 1) := by decide +kernel
theorem dX0_run_2 : decode cX0_run 2 = .ok (.invokestatic 28, 3) := by decide +kernel
theorem dX0_run_5 : decode cX0_run 5 = .ok (.istore 6, 2) := by decide +kernel
theorem dX0_run_7 : decode cX0_run 7 = .ok (.iload 6, 2) := by decide +kernel
theorem dX0_run_9 : decode cX0_run 9 = .ok (.ifCond .eq 10, 3) := by decide +kernel
theorem dX0_run_12 : decode cX0_run 12 = .ok (.iload 5, 2) := by decide +kernel
theorem dX0_run_14 : decode cX0_run 14 = .ok (.bipush 20, 2) := by decide +kernel
theorem dX0_run_16 : decode cX0_run 16 = .ok (.if_icmp .le 6, 3) := by decide +kernel
theorem dX0_run_19 : decode cX0_run 19 = .ok (.iload 4, 2) := by decide +kernel
theorem dX0_run_21 : decode cX0_run 21 = .ok (.ireturn, 1) := by decide +kernel
theorem dX0_run_22 : decode cX0_run 22 = .ok (.aload_n 0, 1) := by decide +kernel
theorem dX0_run_23 : decode cX0_run 23 = .ok (.getfield 15, 3) := by decide +kernel
theorem dX0_run_26 : decode cX0_run 26 = .ok (.bipush 50, 2) := by decide +kernel
theorem dX0_run_28 : decode cX0_run 28 = .ok (.if_icmp .ge 24, 3) := by decide +kernel
theorem dX0_run_31 : decode cX0_run 31 = .ok (.aload_n 0, 1) := by decide +kernel
theorem dX0_run_32 : decode cX0_run 32 = .ok (.getfield 9, 3) := by decide +kernel
theorem dX0_run_35 : decode cX0_run 35 = .ok (.aload_n 0, 1) := by decide +kernel
theorem dX0_run_36 : decode cX0_run 36 = .ok (.getfield 15, 3) := by decide +kernel
theorem dX0_run_39 : decode cX0_run 39 = .ok (.iload 6, 2) := by decide +kernel
theorem dX0_run_41 : decode cX0_run 41 = .ok (.iastore, 1) := by decide +kernel
theorem dX0_run_42 : decode cX0_run 42 = .ok (.aload_n 0, 1) := by decide +kernel
theorem dX0_run_43 : decode cX0_run 43 = .ok (.dup, 1) := by decide +kernel
theorem dX0_run_44 : decode cX0_run 44 = .ok (.getfield 15, 3) := by decide +kernel
theorem dX0_run_47 : decode cX0_run 47 = .ok (.iconst 1, 1) := by decide +kernel
theorem dX0_run_48 : decode cX0_run 48 = .ok (.iadd, 1) := by decide +kernel
theorem dX0_run_49 : decode cX0_run 49 = .ok (.putfield 15, 3) := by decide +kernel
theorem dX0_run_52 : decode cX0_run 52 = .ok (.aload_n 0, 1) := by decide +kernel
theorem dX0_run_53 : decode cX0_run 53 = .ok (.aload_n 1, 1) := by decide +kernel
theorem dX0_run_54 : decode cX0_run 54 = .ok (.iload 6, 2) := by decide +kernel
theorem dX0_run_56 : decode cX0_run 56 = .ok (.iload 4, 2) := by decide +kernel
theorem dX0_run_58 : decode cX0_run 58 = .ok (.iload 5, 2) := by decide +kernel
theorem dX0_run_60 : decode cX0_run 60 = .ok (.iconst 1, 1) := by decide +kernel
theorem dX0_run_61 : decode cX0_run 61 = .ok (.iadd, 1) := by decide +kernel
theorem dX0_run_62 : decode cX0_run 62 = .ok (.invokevirtual 32, 3) := by decide +kernel
theorem dX0_run_65 : decode cX0_run 65 = .ok (.ireturn, 1) := by decide +kernel
theorem dX0_runBody_0 : decode cX0_runBody 0 = .ok (.aload_n 1, 1) := by decide +kernel
theorem dX0_runBody_1 : decode cX0_runBody 1 = .ok (.getfield 36, 3) := by decide +kernel
theorem dX0_runBody_4 : decode cX0_runBody 4 = .ok (.getfield 40, 3) := by decide +kernel
theorem dX0_runBody_7 : decode cX0_runBody 7 = .ok (.istore 5, 2) := by decide +kernel
theorem dX0_runBody_9 : decode cX0_runBody 9 = .ok (.iload_n 2, 1) := by decide +kernel
theorem dX0_runBody_10 : decode cX0_runBody 10 = .ok (.tableswitch 363 10 51 #[182, 187, 203, 210, 363, 363, 363, 363, 363, 363, 238, 251, 363, 363, 363, 363, 363, 363, 363, 363, 264, 278, 363, 363, 363, 363, 363, 363, 363, 363, 303, 363, 363, 363, 363, 363, 363, 363, 363, 363, 325, 338], 182) := by decide +kernel
theorem dX0_runBody_192 : decode cX0_runBody 192 = .ok (.iload_n 3, 1) := by decide +kernel
theorem dX0_runBody_193 : decode cX0_runBody 193 = .ok (.iload 5, 2) := by decide +kernel
theorem dX0_runBody_195 : decode cX0_runBody 195 = .ok (.iadd, 1) := by decide +kernel
theorem dX0_runBody_196 : decode cX0_runBody 196 = .ok (.ireturn, 1) := by decide +kernel
theorem dX0_runBody_197 : decode cX0_runBody 197 = .ok (.aload_n 0, 1) := by decide +kernel
theorem dX0_runBody_198 : decode cX0_runBody 198 = .ok (.aload_n 1, 1) := by decide +kernel
theorem dX0_runBody_199 : decode cX0_runBody 199 = .ok (.aload_n 1, 1) := by decide +kernel
theorem dX0_runBody_200 : decode cX0_runBody 200 = .ok (.getfield 19, 3) := by decide +kernel
theorem dX0_runBody_203 : decode cX0_runBody 203 = .ok (.iconst 0, 1) := by decide +kernel
theorem dX0_runBody_204 : decode cX0_runBody 204 = .ok (.iload_n 3, 1) := by decide +kernel
theorem dX0_runBody_205 : decode cX0_runBody 205 = .ok (.iload 4, 2) := by decide +kernel
theorem dX0_runBody_207 : decode cX0_runBody 207 = .ok (.invokevirtual 24, 3) := by decide +kernel
theorem dX0_runBody_210 : decode cX0_runBody 210 = .ok (.iconst 2, 1) := by decide +kernel
theorem dX0_runBody_211 : decode cX0_runBody 211 = .ok (.imul, 1) := by decide +kernel
theorem dX0_runBody_212 : decode cX0_runBody 212 = .ok (.ireturn, 1) := by decide +kernel
theorem dX0_runBody_213 : decode cX0_runBody 213 = .ok (.iload_n 3, 1) := by decide +kernel
theorem dX0_runBody_214 : decode cX0_runBody 214 = .ok (.aload_n 1, 1) := by decide +kernel
theorem dX0_runBody_215 : decode cX0_runBody 215 = .ok (.getfield 45, 3) := by decide +kernel
theorem dX0_runBody_218 : decode cX0_runBody 218 = .ok (.isub, 1) := by decide +kernel
theorem dX0_runBody_219 : decode cX0_runBody 219 = .ok (.ireturn, 1) := by decide +kernel
theorem dX0_runBody_220 : decode cX0_runBody 220 = .ok (.aload_n 0, 1) := by decide +kernel
theorem dX0_runBody_221 : decode cX0_runBody 221 = .ok (.aload_n 1, 1) := by decide +kernel
theorem dX0_runBody_222 : decode cX0_runBody 222 = .ok (.aload_n 1, 1) := by decide +kernel
theorem dX0_runBody_223 : decode cX0_runBody 223 = .ok (.getfield 19, 3) := by decide +kernel
theorem dX0_runBody_226 : decode cX0_runBody 226 = .ok (.iconst 1, 1) := by decide +kernel
theorem dX0_runBody_227 : decode cX0_runBody 227 = .ok (.iload_n 3, 1) := by decide +kernel
theorem dX0_runBody_228 : decode cX0_runBody 228 = .ok (.iload 4, 2) := by decide +kernel
theorem dX0_runBody_230 : decode cX0_runBody 230 = .ok (.invokevirtual 24, 3) := by decide +kernel
theorem dX0_runBody_233 : decode cX0_runBody 233 = .ok (.aload_n 0, 1) := by decide +kernel
theorem dX0_runBody_234 : decode cX0_runBody 234 = .ok (.aload_n 1, 1) := by decide +kernel
theorem dX0_runBody_235 : decode cX0_runBody 235 = .ok (.aload_n 1, 1) := by decide +kernel
theorem dX0_runBody_236 : decode cX0_runBody 236 = .ok (.getfield 19, 3) := by decide +kernel
theorem dX0_runBody_239 : decode cX0_runBody 239 = .ok (.iconst 2, 1) := by decide +kernel
theorem dX0_runBody_240 : decode cX0_runBody 240 = .ok (.iload_n 3, 1) := by decide +kernel
theorem dX0_runBody_241 : decode cX0_runBody 241 = .ok (.iload 4, 2) := by decide +kernel
theorem dX0_runBody_243 : decode cX0_runBody 243 = .ok (.invokevirtual 24, 3) := by decide +kernel
theorem dX0_runBody_246 : decode cX0_runBody 246 = .ok (.ixor, 1) := by decide +kernel
theorem dX0_runBody_247 : decode cX0_runBody 247 = .ok (.ireturn, 1) := by decide +kernel
theorem dX0_runBody_248 : decode cX0_runBody 248 = .ok (.aload_n 0, 1) := by decide +kernel
theorem dX0_runBody_249 : decode cX0_runBody 249 = .ok (.aload_n 1, 1) := by decide +kernel
theorem dX0_runBody_250 : decode cX0_runBody 250 = .ok (.iconst 0, 1) := by decide +kernel
theorem dX0_runBody_251 : decode cX0_runBody 251 = .ok (.iconst 0, 1) := by decide +kernel
theorem dX0_runBody_252 : decode cX0_runBody 252 = .ok (.iload_n 3, 1) := by decide +kernel
theorem dX0_runBody_253 : decode cX0_runBody 253 = .ok (.iload 4, 2) := by decide +kernel
theorem dX0_runBody_255 : decode cX0_runBody 255 = .ok (.invokevirtual 24, 3) := by decide +kernel
theorem dX0_runBody_258 : decode cX0_runBody 258 = .ok (.iconst 1, 1) := by decide +kernel
theorem dX0_runBody_259 : decode cX0_runBody 259 = .ok (.iadd, 1) := by decide +kernel
theorem dX0_runBody_260 : decode cX0_runBody 260 = .ok (.ireturn, 1) := by decide +kernel
theorem dX0_runBody_261 : decode cX0_runBody 261 = .ok (.aload_n 0, 1) := by decide +kernel
theorem dX0_runBody_262 : decode cX0_runBody 262 = .ok (.aload_n 1, 1) := by decide +kernel
theorem dX0_runBody_263 : decode cX0_runBody 263 = .ok (.iconst 0, 1) := by decide +kernel
theorem dX0_runBody_264 : decode cX0_runBody 264 = .ok (.iconst 2, 1) := by decide +kernel
theorem dX0_runBody_265 : decode cX0_runBody 265 = .ok (.iload_n 3, 1) := by decide +kernel
theorem dX0_runBody_266 : decode cX0_runBody 266 = .ok (.iload 4, 2) := by decide +kernel
theorem dX0_runBody_268 : decode cX0_runBody 268 = .ok (.invokevirtual 24, 3) := by decide +kernel
theorem dX0_runBody_271 : decode cX0_runBody 271 = .ok (.iconst 3, 1) := by decide +kernel
theorem dX0_runBody_272 : decode cX0_runBody 272 = .ok (.imul, 1) := by decide +kernel
theorem dX0_runBody_273 : decode cX0_runBody 273 = .ok (.ireturn, 1) := by decide +kernel
theorem dX0_runBody_274 : decode cX0_runBody 274 = .ok (.aload_n 0, 1) := by decide +kernel
theorem dX0_runBody_275 : decode cX0_runBody 275 = .ok (.aload_n 1, 1) := by decide +kernel
theorem dX0_runBody_276 : decode cX0_runBody 276 = .ok (.iconst 1, 1) := by decide +kernel
theorem dX0_runBody_277 : decode cX0_runBody 277 = .ok (.iconst 1, 1) := by decide +kernel
theorem dX0_runBody_278 : decode cX0_runBody 278 = .ok (.iload_n 3, 1) := by decide +kernel
theorem dX0_runBody_279 : decode cX0_runBody 279 = .ok (.iload 5, 2) := by decide +kernel
theorem dX0_runBody_281 : decode cX0_runBody 281 = .ok (.isub, 1) := by decide +kernel
theorem dX0_runBody_282 : decode cX0_runBody 282 = .ok (.iload 4, 2) := by decide +kernel
theorem dX0_runBody_284 : decode cX0_runBody 284 = .ok (.invokevirtual 24, 3) := by decide +kernel
theorem dX0_runBody_287 : decode cX0_runBody 287 = .ok (.ireturn, 1) := by decide +kernel
theorem dX0_runBody_288 : decode cX0_runBody 288 = .ok (.aload_n 0, 1) := by decide +kernel
theorem dX0_runBody_289 : decode cX0_runBody 289 = .ok (.aload_n 1, 1) := by decide +kernel
theorem dX0_runBody_290 : decode cX0_runBody 290 = .ok (.aload_n 1, 1) := by decide +kernel
theorem dX0_runBody_291 : decode cX0_runBody 291 = .ok (.getfield 19, 3) := by decide +kernel
theorem dX0_runBody_294 : decode cX0_runBody 294 = .ok (.iconst 2, 1) := by decide +kernel
theorem dX0_runBody_295 : decode cX0_runBody 295 = .ok (.iload_n 3, 1) := by decide +kernel
theorem dX0_runBody_296 : decode cX0_runBody 296 = .ok (.iload 4, 2) := by decide +kernel
theorem dX0_runBody_298 : decode cX0_runBody 298 = .ok (.invokevirtual 24, 3) := by decide +kernel
theorem dX0_runBody_301 : decode cX0_runBody 301 = .ok (.aload_n 0, 1) := by decide +kernel
theorem dX0_runBody_302 : decode cX0_runBody 302 = .ok (.aload_n 1, 1) := by decide +kernel
theorem dX0_runBody_303 : decode cX0_runBody 303 = .ok (.iconst 1, 1) := by decide +kernel
theorem dX0_runBody_304 : decode cX0_runBody 304 = .ok (.iconst 3, 1) := by decide +kernel
theorem dX0_runBody_305 : decode cX0_runBody 305 = .ok (.iload_n 3, 1) := by decide +kernel
theorem dX0_runBody_306 : decode cX0_runBody 306 = .ok (.iload 4, 2) := by decide +kernel
theorem dX0_runBody_308 : decode cX0_runBody 308 = .ok (.invokevirtual 24, 3) := by decide +kernel
theorem dX0_runBody_311 : decode cX0_runBody 311 = .ok (.iadd, 1) := by decide +kernel
theorem dX0_runBody_312 : decode cX0_runBody 312 = .ok (.ireturn, 1) := by decide +kernel
theorem dX0_runBody_313 : decode cX0_runBody 313 = .ok (.aload_n 0, 1) := by decide +kernel
theorem dX0_runBody_314 : decode cX0_runBody 314 = .ok (.aload_n 1, 1) := by decide +kernel
theorem dX0_runBody_315 : decode cX0_runBody 315 = .ok (.iconst 0, 1) := by decide +kernel
theorem dX0_runBody_316 : decode cX0_runBody 316 = .ok (.iconst 2, 1) := by decide +kernel
theorem dX0_runBody_317 : decode cX0_runBody 317 = .ok (.iload_n 3, 1) := by decide +kernel
theorem dX0_runBody_318 : decode cX0_runBody 318 = .ok (.iload 4, 2) := by decide +kernel
theorem dX0_runBody_320 : decode cX0_runBody 320 = .ok (.invokevirtual 24, 3) := by decide +kernel
theorem dX0_runBody_323 : decode cX0_runBody 323 = .ok (.aload_n 0, 1) := by decide +kernel
theorem dX0_runBody_324 : decode cX0_runBody 324 = .ok (.aload_n 1, 1) := by decide +kernel
theorem dX0_runBody_325 : decode cX0_runBody 325 = .ok (.iconst 0, 1) := by decide +kernel
theorem dX0_runBody_326 : decode cX0_runBody 326 = .ok (.iconst 0, 1) := by decide +kernel
theorem dX0_runBody_327 : decode cX0_runBody 327 = .ok (.iload_n 3, 1) := by decide +kernel
theorem dX0_runBody_328 : decode cX0_runBody 328 = .ok (.iload 4, 2) := by decide +kernel
theorem dX0_runBody_330 : decode cX0_runBody 330 = .ok (.invokevirtual 24, 3) := by decide +kernel
theorem dX0_runBody_333 : decode cX0_runBody 333 = .ok (.iadd, 1) := by decide +kernel
theorem dX0_runBody_334 : decode cX0_runBody 334 = .ok (.ireturn, 1) := by decide +kernel
theorem dX0_runBody_335 : decode cX0_runBody 335 = .ok (.aload_n 0, 1) := by decide +kernel
theorem dX0_runBody_336 : decode cX0_runBody 336 = .ok (.aload_n 1, 1) := by decide +kernel
theorem dX0_runBody_337 : decode cX0_runBody 337 = .ok (.iconst 1, 1) := by decide +kernel
theorem dX0_runBody_338 : decode cX0_runBody 338 = .ok (.iconst 0, 1) := by decide +kernel
theorem dX0_runBody_339 : decode cX0_runBody 339 = .ok (.iload_n 3, 1) := by decide +kernel
theorem dX0_runBody_340 : decode cX0_runBody 340 = .ok (.iconst 2, 1) := by decide +kernel
theorem dX0_runBody_341 : decode cX0_runBody 341 = .ok (.imul, 1) := by decide +kernel
theorem dX0_runBody_342 : decode cX0_runBody 342 = .ok (.iload 4, 2) := by decide +kernel
theorem dX0_runBody_344 : decode cX0_runBody 344 = .ok (.invokevirtual 24, 3) := by decide +kernel
theorem dX0_runBody_347 : decode cX0_runBody 347 = .ok (.ireturn, 1) := by decide +kernel
theorem dX0_runBody_348 : decode cX0_runBody 348 = .ok (.aload_n 0, 1) := by decide +kernel
theorem dX0_runBody_349 : decode cX0_runBody 349 = .ok (.aload_n 1, 1) := by decide +kernel
theorem dX0_runBody_350 : decode cX0_runBody 350 = .ok (.iconst 1, 1) := by decide +kernel
theorem dX0_runBody_351 : decode cX0_runBody 351 = .ok (.iconst 1, 1) := by decide +kernel
theorem dX0_runBody_352 : decode cX0_runBody 352 = .ok (.iload_n 3, 1) := by decide +kernel
theorem dX0_runBody_353 : decode cX0_runBody 353 = .ok (.iload 4, 2) := by decide +kernel
theorem dX0_runBody_355 : decode cX0_runBody 355 = .ok (.invokevirtual 24, 3) := by decide +kernel
theorem dX0_runBody_358 : decode cX0_runBody 358 = .ok (.aload_n 0, 1) := by decide +kernel
theorem dX0_runBody_359 : decode cX0_runBody 359 = .ok (.aload_n 1, 1) := by decide +kernel
theorem dX0_runBody_360 : decode cX0_runBody 360 = .ok (.aload_n 1, 1) := by decide +kernel
theorem dX0_runBody_361 : decode cX0_runBody 361 = .ok (.getfield 19, 3) := by decide +kernel
theorem dX0_runBody_364 : decode cX0_runBody 364 = .ok (.iconst 0, 1) := by decide +kernel
theorem dX0_runBody_365 : decode cX0_runBody 365 = .ok (.iload_n 3, 1) := by decide +kernel
theorem dX0_runBody_366 : decode cX0_runBody 366 = .ok (.iload 4, 2) := by decide +kernel
theorem dX0_runBody_368 : decode cX0_runBody 368 = .ok (.invokevirtual 24, 3) := by decide +kernel
theorem dX0_runBody_371 : decode cX0_runBody 371 = .ok (.isub, 1) := by decide +kernel
theorem dX0_runBody_372 : decode cX0_runBody 372 = .ok (.ireturn, 1) := by decide +kernel
theorem dX0_runBody_373 : decode cX0_runBody 373 = .ok (.iload_n 3, 1) := by decide +kernel
theorem dX0_runBody_374 : decode cX0_runBody 374 = .ok (.ireturn, 1) := by decide +kernel
theorem dX0_bodyFrom_0 : decode cX0_bodyFrom 0 = .ok (.iload_n 0, 1) := by decide +kernel
theorem dX0_bodyFrom_1 : decode cX0_bodyFrom 1 = .ok (.istore_n 2, 1) := by decide +kernel
theorem dX0_bodyFrom_2 : decode cX0_bodyFrom 2 = .ok (.iconst 0, 1) := by decide +kernel
theorem dX0_bodyFrom_3 : decode cX0_bodyFrom 3 = .ok (.istore_n 3, 1) := by decide +kernel
theorem dX0_bodyFrom_4 : decode cX0_bodyFrom 4 = .ok (.iload_n 3, 1) := by decide +kernel
theorem dX0_bodyFrom_5 : decode cX0_bodyFrom 5 = .ok (.iconst 5, 1) := by decide +kernel
theorem dX0_bodyFrom_6 : decode cX0_bodyFrom 6 = .ok (.if_icmp .ge 43, 3) := by decide +kernel
theorem dX0_bodyFrom_9 : decode cX0_bodyFrom 9 = .ok (.iload_n 2, 1) := by decide +kernel
theorem dX0_bodyFrom_10 : decode cX0_bodyFrom 10 = .ok (.ifCond .lt 39, 3) := by decide +kernel
theorem dX0_bodyFrom_13 : decode cX0_bodyFrom 13 = .ok (.iload_n 2, 1) := by decide +kernel
theorem dX0_bodyFrom_14 : decode cX0_bodyFrom 14 = .ok (.iconst 5, 1) := by decide +kernel
theorem dX0_bodyFrom_15 : decode cX0_bodyFrom 15 = .ok (.if_icmp .ge 34, 3) := by decide +kernel
theorem dX0_bodyFrom_18 : decode cX0_bodyFrom 18 = .ok (.getstatic 48, 3) := by decide +kernel
theorem dX0_bodyFrom_21 : decode cX0_bodyFrom 21 = .ok (.iload_n 2, 1) := by decide +kernel
theorem dX0_bodyFrom_22 : decode cX0_bodyFrom 22 = .ok (.iconst 4, 1) := by decide +kernel
theorem dX0_bodyFrom_23 : decode cX0_bodyFrom 23 = .ok (.imul, 1) := by decide +kernel
theorem dX0_bodyFrom_24 : decode cX0_bodyFrom 24 = .ok (.iload_n 1, 1) := by decide +kernel
theorem dX0_bodyFrom_25 : decode cX0_bodyFrom 25 = .ok (.iadd, 1) := by decide +kernel
theorem dX0_bodyFrom_26 : decode cX0_bodyFrom 26 = .ok (.iaload, 1) := by decide +kernel
theorem dX0_bodyFrom_27 : decode cX0_bodyFrom 27 = .ok (.istore 4, 2) := by decide +kernel
theorem dX0_bodyFrom_29 : decode cX0_bodyFrom 29 = .ok (.iload 4, 2) := by decide +kernel
theorem dX0_bodyFrom_31 : decode cX0_bodyFrom 31 = .ok (.ifCond .eq 6, 3) := by decide +kernel
theorem dX0_bodyFrom_34 : decode cX0_bodyFrom 34 = .ok (.iload 4, 2) := by decide +kernel
theorem dX0_bodyFrom_36 : decode cX0_bodyFrom 36 = .ok (.ireturn, 1) := by decide +kernel
theorem dX0_bodyFrom_37 : decode cX0_bodyFrom 37 = .ok (.getstatic 51, 3) := by decide +kernel
theorem dX0_bodyFrom_40 : decode cX0_bodyFrom 40 = .ok (.iload_n 2, 1) := by decide +kernel
theorem dX0_bodyFrom_41 : decode cX0_bodyFrom 41 = .ok (.iaload, 1) := by decide +kernel
theorem dX0_bodyFrom_42 : decode cX0_bodyFrom 42 = .ok (.istore_n 2, 1) := by decide +kernel
theorem dX0_bodyFrom_43 : decode cX0_bodyFrom 43 = .ok (.iinc 3 1, 3) := by decide +kernel
theorem dX0_bodyFrom_46 : decode cX0_bodyFrom 46 = .ok (.goto (-42), 3) := by decide +kernel
theorem dX0_bodyFrom_49 : decode cX0_bodyFrom 49 = .ok (.iconst 0, 1) := by decide +kernel
theorem dX0_bodyFrom_50 : decode cX0_bodyFrom 50 = .ok (.ireturn, 1) := by decide +kernel
theorem dX3_init_0 : decode cX3_init 0 = .ok (.aload_n 0, 1) := by decide +kernel
theorem dX3_init_1 : decode cX3_init 1 = .ok (.invokespecial 3, 3) := by decide +kernel
theorem dX3_init_4 : decode cX3_init 4 = .ok (.aload_n 0, 1) := by decide +kernel
theorem dX3_init_5 : decode cX3_init 5 = .ok (.bipush 12, 2) := by decide +kernel
theorem dX3_init_7 : decode cX3_init 7 = .ok (.newarray .int, 2) := by decide +kernel
theorem dX3_init_9 : decode cX3_init 9 = .ok (.putfield 9, 3) := by decide +kernel
theorem dX3_init_12 : decode cX3_init 12 = .ok (.aload_n 0, 1) := by decide +kernel
theorem dX3_init_13 : decode cX3_init 13 = .ok (.bipush 12, 2) := by decide +kernel
theorem dX3_init_15 : decode cX3_init 15 = .ok (.newarray .int, 2) := by decide +kernel
theorem dX3_init_17 : decode cX3_init 17 = .ok (.putfield 15, 3) := by decide +kernel
theorem dX3_init_20 : decode cX3_init 20 = .ok (.aload_n 0, 1) := by decide +kernel
theorem dX3_init_21 : decode cX3_init 21 = .ok (.bipush 12, 2) := by decide +kernel
theorem dX3_init_23 : decode cX3_init 23 = .ok (.newarray .int, 2) := by decide +kernel
theorem dX3_init_25 : decode cX3_init 25 = .ok (.putfield 18, 3) := by decide +kernel
theorem dX3_init_28 : decode cX3_init 28 = .ok (.aload_n 0, 1) := by decide +kernel
theorem dX3_init_29 : decode cX3_init 29 = .ok (.iconst 0, 1) := by decide +kernel
theorem dX3_init_30 : decode cX3_init 30 = .ok (.putfield 21, 3) := by decide +kernel
theorem dX3_init_33 : decode cX3_init 33 = .ok (.return_, 1) := by decide +kernel
theorem dX3_init__0 : decode cX3_init_ 0 = .ok (.aload_n 0, 1) := by decide +kernel
theorem dX3_init__1 : decode cX3_init_ 1 = .ok (.invokespecial 3, 3) := by decide +kernel
theorem dX3_init__4 : decode cX3_init_ 4 = .ok (.aload_n 0, 1) := by decide +kernel
theorem dX3_init__5 : decode cX3_init_ 5 = .ok (.aload_n 1, 1) := by decide +kernel
theorem dX3_init__6 : decode cX3_init_ 6 = .ok (.getfield 9, 3) := by decide +kernel
theorem dX3_init__9 : decode cX3_init_ 9 = .ok (.invokevirtual 25, 3) := by decide +kernel
theorem dX3_init__12 : decode cX3_init_ 12 = .ok (.checkcast 26, 3) := by decide +kernel
theorem dX3_init__15 : decode cX3_init_ 15 = .ok (.putfield 9, 3) := by decide +kernel
theorem dX3_init__18 : decode cX3_init_ 18 = .ok (.aload_n 0, 1) := by decide +kernel
theorem dX3_init__19 : decode cX3_init_ 19 = .ok (.aload_n 1, 1) := by decide +kernel
theorem dX3_init__20 : decode cX3_init_ 20 = .ok (.getfield 15, 3) := by decide +kernel
theorem dX3_init__23 : decode cX3_init_ 23 = .ok (.invokevirtual 25, 3) := by decide +kernel
theorem dX3_init__26 : decode cX3_init_ 26 = .ok (.checkcast 26, 3) := by decide +kernel
theorem dX3_init__29 : decode cX3_init_ 29 = .ok (.putfield 15, 3) := by decide +kernel
theorem dX3_init__32 : decode cX3_init_ 32 = .ok (.aload_n 0, 1) := by decide +kernel
theorem dX3_init__33 : decode cX3_init_ 33 = .ok (.aload_n 1, 1) := by decide +kernel
theorem dX3_init__34 : decode cX3_init_ 34 = .ok (.getfield 18, 3) := by decide +kernel
theorem dX3_init__37 : decode cX3_init_ 37 = .ok (.invokevirtual 25, 3) := by decide +kernel
theorem dX3_init__40 : decode cX3_init_ 40 = .ok (.checkcast 26, 3) := by decide +kernel
theorem dX3_init__43 : decode cX3_init_ 43 = .ok (.putfield 18, 3) := by decide +kernel
theorem dX3_init__46 : decode cX3_init_ 46 = .ok (.aload_n 0, 1) := by decide +kernel
theorem dX3_init__47 : decode cX3_init_ 47 = .ok (.aload_n 1, 1) := by decide +kernel
theorem dX3_init__48 : decode cX3_init_ 48 = .ok (.getfield 21, 3) := by decide +kernel
theorem dX3_init__51 : decode cX3_init_ 51 = .ok (.putfield 21, 3) := by decide +kernel
theorem dX3_init__54 : decode cX3_init_ 54 = .ok (.return_, 1) := by decide +kernel
theorem dX3_allows_0 : decode cX3_allows 0 = .ok (.iload_n 0, 1) := by decide +kernel
theorem dX3_allows_1 : decode cX3_allows 1 = .ok (.bipush (-12), 2) := by decide +kernel
theorem dX3_allows_3 : decode cX3_allows 3 = .ok (.bipush 12, 2) := by decide +kernel
theorem dX3_allows_5 : decode cX3_allows 5 = .ok (.invokestatic 30, 3) := by decide +kernel
theorem dX3_allows_8 : decode cX3_allows 8 = .ok (.ifCond .eq 27, 3) := by decide +kernel
theorem dX3_allows_11 : decode cX3_allows 11 = .ok (.iload_n 1, 1) := by decide +kernel
theorem dX3_allows_12 : decode cX3_allows 12 = .ok (.bipush (-60), 2) := by decide +kernel
theorem dX3_allows_14 : decode cX3_allows 14 = .ok (.bipush 60, 2) := by decide +kernel
theorem dX3_allows_16 : decode cX3_allows 16 = .ok (.invokestatic 30, 3) := by decide +kernel
theorem dX3_allows_19 : decode cX3_allows 19 = .ok (.ifCond .eq 16, 3) := by decide +kernel
theorem dX3_allows_22 : decode cX3_allows 22 = .ok (.iload_n 2, 1) := by decide +kernel
theorem dX3_allows_23 : decode cX3_allows 23 = .ok (.iconst 1, 1) := by decide +kernel
theorem dX3_allows_24 : decode cX3_allows 24 = .ok (.iconst 4, 1) := by decide +kernel
theorem dX3_allows_25 : decode cX3_allows 25 = .ok (.invokestatic 30, 3) := by decide +kernel
theorem dX3_allows_28 : decode cX3_allows 28 = .ok (.ifCond .eq 7, 3) := by decide +kernel
theorem dX3_allows_31 : decode cX3_allows 31 = .ok (.iconst 1, 1) := by decide +kernel
theorem dX3_allows_32 : decode cX3_allows 32 = .ok (.goto 4, 3) := by decide +kernel
theorem dX3_allows_35 : decode cX3_allows 35 = .ok (.iconst 0, 1) := by decide +kernel
theorem dX3_allows_36 : decode cX3_allows 36 = .ok (.ireturn, 1) := by decide +kernel
theorem dX3_copy_0 : decode cX3_copy 0 = .ok (.new 10, 3) := by decide +kernel
theorem dX3_copy_3 : decode cX3_copy 3 = .ok (.dup, 1) := by decide +kernel
theorem dX3_copy_4 : decode cX3_copy 4 = .ok (.aload_n 0, 1) := by decide +kernel
theorem dX3_copy_5 : decode cX3_copy 5 = .ok (.invokespecial 34, 3) := by decide +kernel
theorem dX3_copy_8 : decode cX3_copy 8 = .ok (.areturn, 1) := by decide +kernel
theorem dX3_isFull_0 : decode cX3_isFull 0 = .ok (.aload_n 0, 1) := by decide +kernel
theorem dX3_isFull_1 : decode cX3_isFull 1 = .ok (.getfield 21, 3) := by decide +kernel
theorem dX3_isFull_4 : decode cX3_isFull 4 = .ok (.bipush 12, 2) := by decide +kernel
theorem dX3_isFull_6 : decode cX3_isFull 6 = .ok (.if_icmp .lt 7, 3) := by decide +kernel
theorem dX3_isFull_9 : decode cX3_isFull 9 = .ok (.iconst 1, 1) := by decide +kernel
theorem dX3_isFull_10 : decode cX3_isFull 10 = .ok (.goto 4, 3) := by decide +kernel
theorem dX3_isFull_13 : decode cX3_isFull 13 = .ok (.iconst 0, 1) := by decide +kernel
theorem dX3_isFull_14 : decode cX3_isFull 14 = .ok (.ireturn, 1) := by decide +kernel
theorem dX3_has_0 : decode cX3_has 0 = .ok (.iload_n 1, 1) := by decide +kernel
theorem dX3_has_1 : decode cX3_has 1 = .ok (.ifCond .lt 15, 3) := by decide +kernel
theorem dX3_has_4 : decode cX3_has 4 = .ok (.iload_n 1, 1) := by decide +kernel
theorem dX3_has_5 : decode cX3_has 5 = .ok (.aload_n 0, 1) := by decide +kernel
theorem dX3_has_6 : decode cX3_has 6 = .ok (.getfield 21, 3) := by decide +kernel
theorem dX3_has_9 : decode cX3_has 9 = .ok (.if_icmp .ge 7, 3) := by decide +kernel
theorem dX3_has_12 : decode cX3_has 12 = .ok (.iconst 1, 1) := by decide +kernel
theorem dX3_has_13 : decode cX3_has 13 = .ok (.goto 4, 3) := by decide +kernel
theorem dX3_has_16 : decode cX3_has 16 = .ok (.iconst 0, 1) := by decide +kernel
theorem dX3_has_17 : decode cX3_has 17 = .ok (.ireturn, 1) := by decide +kernel
theorem dX3_holds_0 : decode cX3_holds 0 = .ok (.iconst 0, 1) := by decide +kernel
theorem dX3_holds_1 : decode cX3_holds 1 = .ok (.istore_n 2, 1) := by decide +kernel
theorem dX3_holds_2 : decode cX3_holds 2 = .ok (.iload_n 2, 1) := by decide +kernel
theorem dX3_holds_3 : decode cX3_holds 3 = .ok (.aload_n 0, 1) := by decide +kernel
theorem dX3_holds_4 : decode cX3_holds 4 = .ok (.getfield 21, 3) := by decide +kernel
theorem dX3_holds_7 : decode cX3_holds 7 = .ok (.if_icmp .ge 21, 3) := by decide +kernel
theorem dX3_holds_10 : decode cX3_holds 10 = .ok (.aload_n 0, 1) := by decide +kernel
theorem dX3_holds_11 : decode cX3_holds 11 = .ok (.getfield 9, 3) := by decide +kernel
theorem dX3_holds_14 : decode cX3_holds 14 = .ok (.iload_n 2, 1) := by decide +kernel
theorem dX3_holds_15 : decode cX3_holds 15 = .ok (.iaload, 1) := by decide +kernel
theorem dX3_holds_16 : decode cX3_holds 16 = .ok (.iload_n 1, 1) := by decide +kernel
theorem dX3_holds_17 : decode cX3_holds 17 = .ok (.if_icmp .ne 5, 3) := by decide +kernel
theorem dX3_holds_20 : decode cX3_holds 20 = .ok (.iconst 1, 1) := by decide +kernel
theorem dX3_holds_21 : decode cX3_holds 21 = .ok (.ireturn, 1) := by decide +kernel
theorem dX3_holds_22 : decode cX3_holds 22 = .ok (.iinc 2 1, 3) := by decide +kernel
theorem dX3_holds_25 : decode cX3_holds 25 = .ok (.goto (-23), 3) := by decide +kernel
theorem dX3_holds_28 : decode cX3_holds 28 = .ok (.iconst 0, 1) := by decide +kernel
theorem dX3_holds_29 : decode cX3_holds 29 = .ok (.ireturn, 1) := by decide +kernel
theorem dX3_insert_0 : decode cX3_insert 0 = .ok (.aload_n 0, 1) := by decide +kernel
theorem dX3_insert_1 : decode cX3_insert 1 = .ok (.invokevirtual 37, 3) := by decide +kernel
theorem dX3_insert_4 : decode cX3_insert 4 = .ok (.ifCond .eq 8, 3) := by decide +kernel
theorem dX3_insert_7 : decode cX3_insert 7 = .ok (.aload_n 0, 1) := by decide +kernel
theorem dX3_insert_8 : decode cX3_insert 8 = .ok (.getfield 21, 3) := by decide +kernel
theorem dX3_insert_11 : decode cX3_insert 11 = .ok (.ireturn, 1) := by decide +kernel
theorem dX3_insert_12 : decode cX3_insert 12 = .ok (.aload_n 0, 1) := by decide +kernel
theorem dX3_insert_13 : decode cX3_insert 13 = .ok (.getfield 21, 3) := by decide +kernel
theorem dX3_insert_16 : decode cX3_insert 16 = .ok (.istore 4, 2) := by decide +kernel
theorem dX3_insert_18 : decode cX3_insert 18 = .ok (.iload 4, 2) := by decide +kernel
theorem dX3_insert_20 : decode cX3_insert 20 = .ok (.ifCond .le 32, 3) := by decide +kernel
theorem dX3_insert_23 : decode cX3_insert 23 = .ok (.aload_n 0, 1) := by decide +kernel
theorem dX3_insert_24 : decode cX3_insert 24 = .ok (.getfield 9, 3) := by decide +kernel
theorem dX3_insert_27 : decode cX3_insert 27 = .ok (.iload 4, 2) := by decide +kernel
theorem dX3_insert_29 : decode cX3_insert 29 = .ok (.iconst 1, 1) := by decide +kernel
theorem dX3_insert_30 : decode cX3_insert 30 = .ok (.isub, 1) := by decide +kernel
theorem dX3_insert_31 : decode cX3_insert 31 = .ok (.iaload, 1) := by decide +kernel
theorem dX3_insert_32 : decode cX3_insert 32 = .ok (.iload_n 1, 1) := by decide +kernel
theorem dX3_insert_33 : decode cX3_insert 33 = .ok (.if_icmp .le 19, 3) := by decide +kernel
theorem dX3_insert_36 : decode cX3_insert 36 = .ok (.aload_n 0, 1) := by decide +kernel
theorem dX3_insert_37 : decode cX3_insert 37 = .ok (.iload 4, 2) := by decide +kernel
theorem dX3_insert_39 : decode cX3_insert 39 = .ok (.iconst 1, 1) := by decide +kernel
theorem dX3_insert_40 : decode cX3_insert 40 = .ok (.isub, 1) := by decide +kernel
theorem dX3_insert_41 : decode cX3_insert 41 = .ok (.iload 4, 2) := by decide +kernel
theorem dX3_insert_43 : decode cX3_insert 43 = .ok (.invokevirtual 41, 3) := by decide +kernel
theorem dX3_insert_46 : decode cX3_insert 46 = .ok (.iinc 4 (-1), 3) := by decide +kernel
theorem dX3_insert_49 : decode cX3_insert 49 = .ok (.goto (-31), 3) := by decide +kernel
theorem dX3_insert_52 : decode cX3_insert 52 = .ok (.aload_n 0, 1) := by decide +kernel
theorem dX3_insert_53 : decode cX3_insert 53 = .ok (.getfield 9, 3) := by decide +kernel
theorem dX3_insert_56 : decode cX3_insert 56 = .ok (.iload 4, 2) := by decide +kernel
theorem dX3_insert_58 : decode cX3_insert 58 = .ok (.iload_n 1, 1) := by decide +kernel
theorem dX3_insert_59 : decode cX3_insert 59 = .ok (.iastore, 1) := by decide +kernel
theorem dX3_insert_60 : decode cX3_insert 60 = .ok (.aload_n 0, 1) := by decide +kernel
theorem dX3_insert_61 : decode cX3_insert 61 = .ok (.getfield 15, 3) := by decide +kernel
theorem dX3_insert_64 : decode cX3_insert 64 = .ok (.iload 4, 2) := by decide +kernel
theorem dX3_insert_66 : decode cX3_insert 66 = .ok (.iload_n 2, 1) := by decide +kernel
theorem dX3_insert_67 : decode cX3_insert 67 = .ok (.iastore, 1) := by decide +kernel
theorem dX3_insert_68 : decode cX3_insert 68 = .ok (.aload_n 0, 1) := by decide +kernel
theorem dX3_insert_69 : decode cX3_insert 69 = .ok (.getfield 18, 3) := by decide +kernel
theorem dX3_insert_72 : decode cX3_insert 72 = .ok (.iload 4, 2) := by decide +kernel
theorem dX3_insert_74 : decode cX3_insert 74 = .ok (.iload_n 3, 1) := by decide +kernel
theorem dX3_insert_75 : decode cX3_insert 75 = .ok (.iastore, 1) := by decide +kernel
theorem dX3_insert_76 : decode cX3_insert 76 = .ok (.aload_n 0, 1) := by decide +kernel
theorem dX3_insert_77 : decode cX3_insert 77 = .ok (.dup, 1) := by decide +kernel
theorem dX3_insert_78 : decode cX3_insert 78 = .ok (.getfield 21, 3) := by decide +kernel
theorem dX3_insert_81 : decode cX3_insert 81 = .ok (.iconst 1, 1) := by decide +kernel
theorem dX3_insert_82 : decode cX3_insert 82 = .ok (.iadd, 1) := by decide +kernel
theorem dX3_insert_83 : decode cX3_insert 83 = .ok (.putfield 21, 3) := by decide +kernel
theorem dX3_insert_86 : decode cX3_insert 86 = .ok (.aload_n 0, 1) := by decide +kernel
theorem dX3_insert_87 : decode cX3_insert 87 = .ok (.getfield 21, 3) := by decide +kernel
theorem dX3_insert_90 : decode cX3_insert 90 = .ok (.ireturn, 1) := by decide +kernel
theorem dX3_remove_0 : decode cX3_remove 0 = .ok (.aload_n 0, 1) := by decide +kernel
theorem dX3_remove_1 : decode cX3_remove 1 = .ok (.iload_n 1, 1) := by decide +kernel
theorem dX3_remove_2 : decode cX3_remove 2 = .ok (.invokevirtual 45, 3) := by decide +kernel
theorem dX3_remove_5 : decode cX3_remove 5 = .ok (.ifCond .ne 8, 3) := by decide +kernel
theorem dX3_remove_8 : decode cX3_remove 8 = .ok (.aload_n 0, 1) := by decide +kernel
theorem dX3_remove_9 : decode cX3_remove 9 = .ok (.getfield 21, 3) := by decide +kernel
theorem dX3_remove_12 : decode cX3_remove 12 = .ok (.ireturn, 1) := by decide +kernel
theorem dX3_remove_13 : decode cX3_remove 13 = .ok (.iload_n 1, 1) := by decide +kernel
theorem dX3_remove_14 : decode cX3_remove 14 = .ok (.iconst 1, 1) := by decide +kernel
theorem dX3_remove_15 : decode cX3_remove 15 = .ok (.iadd, 1) := by decide +kernel
theorem dX3_remove_16 : decode cX3_remove 16 = .ok (.istore_n 2, 1) := by decide +kernel
theorem dX3_remove_17 : decode cX3_remove 17 = .ok (.iload_n 2, 1) := by decide +kernel
theorem dX3_remove_18 : decode cX3_remove 18 = .ok (.aload_n 0, 1) := by decide +kernel
theorem dX3_remove_19 : decode cX3_remove 19 = .ok (.getfield 21, 3) := by decide +kernel
theorem dX3_remove_22 : decode cX3_remove 22 = .ok (.if_icmp .ge 17, 3) := by decide +kernel
theorem dX3_remove_25 : decode cX3_remove 25 = .ok (.aload_n 0, 1) := by decide +kernel
theorem dX3_remove_26 : decode cX3_remove 26 = .ok (.iload_n 2, 1) := by decide +kernel
theorem dX3_remove_27 : decode cX3_remove 27 = .ok (.iload_n 2, 1) := by decide +kernel
theorem dX3_remove_28 : decode cX3_remove 28 = .ok (.iconst 1, 1) := by decide +kernel
theorem dX3_remove_29 : decode cX3_remove 29 = .ok (.isub, 1) := by decide +kernel
theorem dX3_remove_30 : decode cX3_remove 30 = .ok (.invokevirtual 41, 3) := by decide +kernel
theorem dX3_remove_33 : decode cX3_remove 33 = .ok (.iinc 2 1, 3) := by decide +kernel
theorem dX3_remove_36 : decode cX3_remove 36 = .ok (.goto (-19), 3) := by decide +kernel
theorem dX3_remove_39 : decode cX3_remove 39 = .ok (.aload_n 0, 1) := by decide +kernel
theorem dX3_remove_40 : decode cX3_remove 40 = .ok (.dup, 1) := by decide +kernel
theorem dX3_remove_41 : decode cX3_remove 41 = .ok (.getfield 21, 3) := by decide +kernel
theorem dX3_remove_44 : decode cX3_remove 44 = .ok (.iconst 1, 1) := by decide +kernel
theorem dX3_remove_45 : decode cX3_remove 45 = .ok (.isub, 1) := by decide +kernel
theorem dX3_remove_46 : decode cX3_remove 46 = .ok (.putfield 21, 3) := by decide +kernel
theorem dX3_remove_49 : decode cX3_remove 49 = .ok (.aload_n 0, 1) := by decide +kernel
theorem dX3_remove_50 : decode cX3_remove 50 = .ok (.getfield 21, 3) := by decide +kernel
theorem dX3_remove_53 : decode cX3_remove 53 = .ok (.ireturn, 1) := by decide +kernel
theorem dX3_move_0 : decode cX3_move 0 = .ok (.aload_n 0, 1) := by decide +kernel
theorem dX3_move_1 : decode cX3_move 1 = .ok (.getfield 9, 3) := by decide +kernel
theorem dX3_move_4 : decode cX3_move 4 = .ok (.iload_n 2, 1) := by decide +kernel
theorem dX3_move_5 : decode cX3_move 5 = .ok (.aload_n 0, 1) := by decide +kernel
theorem dX3_move_6 : decode cX3_move 6 = .ok (.getfield 9, 3) := by decide +kernel
theorem dX3_move_9 : decode cX3_move 9 = .ok (.iload_n 1, 1) := by decide +kernel
theorem dX3_move_10 : decode cX3_move 10 = .ok (.iaload, 1) := by decide +kernel
theorem dX3_move_11 : decode cX3_move 11 = .ok (.iastore, 1) := by decide +kernel
theorem dX3_move_12 : decode cX3_move 12 = .ok (.aload_n 0, 1) := by decide +kernel
theorem dX3_move_13 : decode cX3_move 13 = .ok (.getfield 15, 3) := by decide +kernel
theorem dX3_move_16 : decode cX3_move 16 = .ok (.iload_n 2, 1) := by decide +kernel
theorem dX3_move_17 : decode cX3_move 17 = .ok (.aload_n 0, 1) := by decide +kernel
theorem dX3_move_18 : decode cX3_move 18 = .ok (.getfield 15, 3) := by decide +kernel
theorem dX3_move_21 : decode cX3_move 21 = .ok (.iload_n 1, 1) := by decide +kernel
theorem dX3_move_22 : decode cX3_move 22 = .ok (.iaload, 1) := by decide +kernel
theorem dX3_move_23 : decode cX3_move 23 = .ok (.iastore, 1) := by decide +kernel
theorem dX3_move_24 : decode cX3_move 24 = .ok (.aload_n 0, 1) := by decide +kernel
theorem dX3_move_25 : decode cX3_move 25 = .ok (.getfield 18, 3) := by decide +kernel
theorem dX3_move_28 : decode cX3_move 28 = .ok (.iload_n 2, 1) := by decide +kernel
theorem dX3_move_29 : decode cX3_move 29 = .ok (.aload_n 0, 1) := by decide +kernel
theorem dX3_move_30 : decode cX3_move 30 = .ok (.getfield 18, 3) := by decide +kernel
theorem dX3_move_33 : decode cX3_move 33 = .ok (.iload_n 1, 1) := by decide +kernel
theorem dX3_move_34 : decode cX3_move 34 = .ok (.iaload, 1) := by decide +kernel
theorem dX3_move_35 : decode cX3_move 35 = .ok (.iastore, 1) := by decide +kernel
theorem dX3_move_36 : decode cX3_move 36 = .ok (.return_, 1) := by decide +kernel
theorem dX4_init_0 : decode cX4_init 0 = .ok (.aload_n 0, 1) := by decide +kernel
theorem dX4_init_1 : decode cX4_init 1 = .ok (.invokespecial 1, 3) := by decide +kernel
theorem dX4_init_4 : decode cX4_init 4 = .ok (.aload_n 0, 1) := by decide +kernel
theorem dX4_init_5 : decode cX4_init 5 = .ok (.lconst 0, 1) := by decide +kernel
theorem dX4_init_6 : decode cX4_init 6 = .ok (.putfield 7, 3) := by decide +kernel
theorem dX4_init_9 : decode cX4_init 9 = .ok (.aload_n 0, 1) := by decide +kernel
theorem dX4_init_10 : decode cX4_init 10 = .ok (.lconst 0, 1) := by decide +kernel
theorem dX4_init_11 : decode cX4_init 11 = .ok (.putfield 13, 3) := by decide +kernel
theorem dX4_init_14 : decode cX4_init 14 = .ok (.aload_n 0, 1) := by decide +kernel
theorem dX4_init_15 : decode cX4_init 15 = .ok (.lconst 0, 1) := by decide +kernel
theorem dX4_init_16 : decode cX4_init 16 = .ok (.putfield 16, 3) := by decide +kernel
theorem dX4_init_19 : decode cX4_init 19 = .ok (.aload_n 0, 1) := by decide +kernel
theorem dX4_init_20 : decode cX4_init 20 = .ok (.lconst 1, 1) := by decide +kernel
theorem dX4_init_21 : decode cX4_init 21 = .ok (.putfield 19, 3) := by decide +kernel
theorem dX4_init_24 : decode cX4_init 24 = .ok (.return_, 1) := by decide +kernel
theorem dX4_become_0 : decode cX4_become 0 = .ok (.aload_n 0, 1) := by decide +kernel
theorem dX4_become_1 : decode cX4_become 1 = .ok (.lload_n 1, 1) := by decide +kernel
theorem dX4_become_2 : decode cX4_become 2 = .ok (.putfield 7, 3) := by decide +kernel
theorem dX4_become_5 : decode cX4_become 5 = .ok (.aload_n 0, 1) := by decide +kernel
theorem dX4_become_6 : decode cX4_become 6 = .ok (.lload_n 3, 1) := by decide +kernel
theorem dX4_become_7 : decode cX4_become 7 = .ok (.putfield 13, 3) := by decide +kernel
theorem dX4_become_10 : decode cX4_become 10 = .ok (.aload_n 0, 1) := by decide +kernel
theorem dX4_become_11 : decode cX4_become 11 = .ok (.lload 5, 2) := by decide +kernel
theorem dX4_become_13 : decode cX4_become 13 = .ok (.putfield 16, 3) := by decide +kernel
theorem dX4_become_16 : decode cX4_become 16 = .ok (.aload_n 0, 1) := by decide +kernel
theorem dX4_become_17 : decode cX4_become 17 = .ok (.lload 7, 2) := by decide +kernel
theorem dX4_become_19 : decode cX4_become 19 = .ok (.putfield 19, 3) := by decide +kernel
theorem dX4_become_22 : decode cX4_become 22 = .ok (.aload_n 0, 1) := by decide +kernel
theorem dX4_become_23 : decode cX4_become 23 = .ok (.getfield 7, 3) := by decide +kernel
theorem dX4_become_26 : decode cX4_become 26 = .ok (.aload_n 0, 1) := by decide +kernel
theorem dX4_become_27 : decode cX4_become 27 = .ok (.getfield 13, 3) := by decide +kernel
theorem dX4_become_30 : decode cX4_become 30 = .ok (.invokestatic 22, 3) := by decide +kernel
theorem dX4_become_33 : decode cX4_become 33 = .ok (.aload_n 0, 1) := by decide +kernel
theorem dX4_become_34 : decode cX4_become 34 = .ok (.getfield 16, 3) := by decide +kernel
theorem dX4_become_37 : decode cX4_become 37 = .ok (.aload_n 0, 1) := by decide +kernel
theorem dX4_become_38 : decode cX4_become 38 = .ok (.getfield 19, 3) := by decide +kernel
theorem dX4_become_41 : decode cX4_become 41 = .ok (.invokestatic 22, 3) := by decide +kernel
theorem dX4_become_44 : decode cX4_become 44 = .ok (.invokestatic 22, 3) := by decide +kernel
theorem dX4_become_47 : decode cX4_become 47 = .ok (.lstore 9, 2) := by decide +kernel
theorem dX4_become_49 : decode cX4_become 49 = .ok (.lload 9, 2) := by decide +kernel
theorem dX4_become_51 : decode cX4_become 51 = .ok (.lconst 1, 1) := by decide +kernel
theorem dX4_become_52 : decode cX4_become 52 = .ok (.lcmp, 1) := by decide +kernel
theorem dX4_become_53 : decode cX4_become 53 = .ok (.ifCond .le 47, 3) := by decide +kernel
theorem dX4_become_56 : decode cX4_become 56 = .ok (.aload_n 0, 1) := by decide +kernel
theorem dX4_become_57 : decode cX4_become 57 = .ok (.dup, 1) := by decide +kernel
theorem dX4_become_58 : decode cX4_become 58 = .ok (.getfield 7, 3) := by decide +kernel
theorem dX4_become_61 : decode cX4_become 61 = .ok (.lload 9, 2) := by decide +kernel
theorem dX4_become_63 : decode cX4_become 63 = .ok (.ldiv, 1) := by decide +kernel
theorem dX4_become_64 : decode cX4_become 64 = .ok (.putfield 7, 3) := by decide +kernel
theorem dX4_become_67 : decode cX4_become 67 = .ok (.aload_n 0, 1) := by decide +kernel
theorem dX4_become_68 : decode cX4_become 68 = .ok (.dup, 1) := by decide +kernel
theorem dX4_become_69 : decode cX4_become 69 = .ok (.getfield 13, 3) := by decide +kernel
theorem dX4_become_72 : decode cX4_become 72 = .ok (.lload 9, 2) := by decide +kernel
theorem dX4_become_74 : decode cX4_become 74 = .ok (.ldiv, 1) := by decide +kernel
theorem dX4_become_75 : decode cX4_become 75 = .ok (.putfield 13, 3) := by decide +kernel
theorem dX4_become_78 : decode cX4_become 78 = .ok (.aload_n 0, 1) := by decide +kernel
theorem dX4_become_79 : decode cX4_become 79 = .ok (.dup, 1) := by decide +kernel
theorem dX4_become_80 : decode cX4_become 80 = .ok (.getfield 16, 3) := by decide +kernel
theorem dX4_become_83 : decode cX4_become 83 = .ok (.lload 9, 2) := by decide +kernel
theorem dX4_become_85 : decode cX4_become 85 = .ok (.ldiv, 1) := by decide +kernel
theorem dX4_become_86 : decode cX4_become 86 = .ok (.putfield 16, 3) := by decide +kernel
theorem dX4_become_89 : decode cX4_become 89 = .ok (.aload_n 0, 1) := by decide +kernel
theorem dX4_become_90 : decode cX4_become 90 = .ok (.dup, 1) := by decide +kernel
theorem dX4_become_91 : decode cX4_become 91 = .ok (.getfield 19, 3) := by decide +kernel
theorem dX4_become_94 : decode cX4_become 94 = .ok (.lload 9, 2) := by decide +kernel
theorem dX4_become_96 : decode cX4_become 96 = .ok (.ldiv, 1) := by decide +kernel
theorem dX4_become_97 : decode cX4_become 97 = .ok (.putfield 19, 3) := by decide +kernel
theorem dX4_become_100 : decode cX4_become 100 = .ok (.return_, 1) := by decide +kernel
theorem dX4_coefficient_0 : decode cX4_coefficient 0 = .ok (.iload_n 1, 1) := by decide +kernel
theorem dX4_coefficient_1 : decode cX4_coefficient 1 = .ok (.ifCond .ne 8, 3) := by decide +kernel
theorem dX4_coefficient_4 : decode cX4_coefficient 4 = .ok (.aload_n 0, 1) := by decide +kernel
theorem dX4_coefficient_5 : decode cX4_coefficient 5 = .ok (.getfield 7, 3) := by decide +kernel
theorem dX4_coefficient_8 : decode cX4_coefficient 8 = .ok (.lreturn, 1) := by decide +kernel
theorem dX4_coefficient_9 : decode cX4_coefficient 9 = .ok (.iload_n 1, 1) := by decide +kernel
theorem dX4_coefficient_10 : decode cX4_coefficient 10 = .ok (.iconst 1, 1) := by decide +kernel
theorem dX4_coefficient_11 : decode cX4_coefficient 11 = .ok (.if_icmp .ne 10, 3) := by decide +kernel
theorem dX4_coefficient_14 : decode cX4_coefficient 14 = .ok (.aload_n 0, 1) := by decide +kernel
theorem dX4_coefficient_15 : decode cX4_coefficient 15 = .ok (.getfield 13, 3) := by decide +kernel
theorem dX4_coefficient_18 : decode cX4_coefficient 18 = .ok (.goto 7, 3) := by decide +kernel
theorem dX4_coefficient_21 : decode cX4_coefficient 21 = .ok (.aload_n 0, 1) := by decide +kernel
theorem dX4_coefficient_22 : decode cX4_coefficient 22 = .ok (.getfield 16, 3) := by decide +kernel
theorem dX4_coefficient_25 : decode cX4_coefficient 25 = .ok (.lreturn, 1) := by decide +kernel
theorem dX4_aboveAt_0 : decode cX4_aboveAt 0 = .ok (.aload_n 0, 1) := by decide +kernel
theorem dX4_aboveAt_1 : decode cX4_aboveAt 1 = .ok (.getfield 7, 3) := by decide +kernel
theorem dX4_aboveAt_4 : decode cX4_aboveAt 4 = .ok (.aload_n 0, 1) := by decide +kernel
theorem dX4_aboveAt_5 : decode cX4_aboveAt 5 = .ok (.getfield 13, 3) := by decide +kernel
theorem dX4_aboveAt_8 : decode cX4_aboveAt 8 = .ok (.aload_n 0, 1) := by decide +kernel
theorem dX4_aboveAt_9 : decode cX4_aboveAt 9 = .ok (.getfield 16, 3) := by decide +kernel
theorem dX4_aboveAt_12 : decode cX4_aboveAt 12 = .ok (.lload_n 1, 1) := by decide +kernel
theorem dX4_aboveAt_13 : decode cX4_aboveAt 13 = .ok (.lmul, 1) := by decide +kernel
theorem dX4_aboveAt_14 : decode cX4_aboveAt 14 = .ok (.ladd, 1) := by decide +kernel
theorem dX4_aboveAt_15 : decode cX4_aboveAt 15 = .ok (.lload_n 1, 1) := by decide +kernel
theorem dX4_aboveAt_16 : decode cX4_aboveAt 16 = .ok (.lmul, 1) := by decide +kernel
theorem dX4_aboveAt_17 : decode cX4_aboveAt 17 = .ok (.ladd, 1) := by decide +kernel
theorem dX4_aboveAt_18 : decode cX4_aboveAt 18 = .ok (.lreturn, 1) := by decide +kernel
theorem dX4_isLike_0 : decode cX4_isLike 0 = .ok (.aload_n 0, 1) := by decide +kernel
theorem dX4_isLike_1 : decode cX4_isLike 1 = .ok (.getfield 7, 3) := by decide +kernel
theorem dX4_isLike_4 : decode cX4_isLike 4 = .ok (.aload_n 1, 1) := by decide +kernel
theorem dX4_isLike_5 : decode cX4_isLike 5 = .ok (.getfield 7, 3) := by decide +kernel
theorem dX4_isLike_8 : decode cX4_isLike 8 = .ok (.lcmp, 1) := by decide +kernel
theorem dX4_isLike_9 : decode cX4_isLike 9 = .ok (.ifCond .ne 43, 3) := by decide +kernel
theorem dX4_isLike_12 : decode cX4_isLike 12 = .ok (.aload_n 0, 1) := by decide +kernel
theorem dX4_isLike_13 : decode cX4_isLike 13 = .ok (.getfield 13, 3) := by decide +kernel
theorem dX4_isLike_16 : decode cX4_isLike 16 = .ok (.aload_n 1, 1) := by decide +kernel
theorem dX4_isLike_17 : decode cX4_isLike 17 = .ok (.getfield 13, 3) := by decide +kernel
theorem dX4_isLike_20 : decode cX4_isLike 20 = .ok (.lcmp, 1) := by decide +kernel
theorem dX4_isLike_21 : decode cX4_isLike 21 = .ok (.ifCond .ne 31, 3) := by decide +kernel
theorem dX4_isLike_24 : decode cX4_isLike 24 = .ok (.aload_n 0, 1) := by decide +kernel
theorem dX4_isLike_25 : decode cX4_isLike 25 = .ok (.getfield 16, 3) := by decide +kernel
theorem dX4_isLike_28 : decode cX4_isLike 28 = .ok (.aload_n 1, 1) := by decide +kernel
theorem dX4_isLike_29 : decode cX4_isLike 29 = .ok (.getfield 16, 3) := by decide +kernel
theorem dX4_isLike_32 : decode cX4_isLike 32 = .ok (.lcmp, 1) := by decide +kernel
theorem dX4_isLike_33 : decode cX4_isLike 33 = .ok (.ifCond .ne 19, 3) := by decide +kernel
theorem dX4_isLike_36 : decode cX4_isLike 36 = .ok (.aload_n 0, 1) := by decide +kernel
theorem dX4_isLike_37 : decode cX4_isLike 37 = .ok (.getfield 19, 3) := by decide +kernel
theorem dX4_isLike_40 : decode cX4_isLike 40 = .ok (.aload_n 1, 1) := by decide +kernel
theorem dX4_isLike_41 : decode cX4_isLike 41 = .ok (.getfield 19, 3) := by decide +kernel
theorem dX4_isLike_44 : decode cX4_isLike 44 = .ok (.lcmp, 1) := by decide +kernel
theorem dX4_isLike_45 : decode cX4_isLike 45 = .ok (.ifCond .ne 7, 3) := by decide +kernel
theorem dX4_isLike_48 : decode cX4_isLike 48 = .ok (.iconst 1, 1) := by decide +kernel
theorem dX4_isLike_49 : decode cX4_isLike 49 = .ok (.goto 4, 3) := by decide +kernel
theorem dX4_isLike_52 : decode cX4_isLike 52 = .ok (.iconst 0, 1) := by decide +kernel
theorem dX4_isLike_53 : decode cX4_isLike 53 = .ok (.ireturn, 1) := by decide +kernel
theorem dX5_init_0 : decode cX5_init 0 = .ok (.aload_n 0, 1) := by decide +kernel
theorem dX5_init_1 : decode cX5_init 1 = .ok (.invokespecial 1, 3) := by decide +kernel
theorem dX5_init_4 : decode cX5_init 4 = .ok (.aload_n 0, 1) := by decide +kernel
theorem dX5_init_5 : decode cX5_init 5 = .ok (.iload_n 1, 1) := by decide +kernel
theorem dX5_init_6 : decode cX5_init 6 = .ok (.putfield 7, 3) := by decide +kernel
theorem dX5_init_9 : decode cX5_init 9 = .ok (.aload_n 0, 1) := by decide +kernel
theorem dX5_init_10 : decode cX5_init 10 = .ok (.iload_n 2, 1) := by decide +kernel
theorem dX5_init_11 : decode cX5_init 11 = .ok (.iconst 0, 1) := by decide +kernel
theorem dX5_init_12 : decode cX5_init 12 = .ok (.invokestatic 13, 3) := by decide +kernel
theorem dX5_init_15 : decode cX5_init 15 = .ok (.newarray .int, 2) := by decide +kernel
theorem dX5_init_17 : decode cX5_init 17 = .ok (.putfield 19, 3) := by decide +kernel
theorem dX5_init_20 : decode cX5_init 20 = .ok (.return_, 1) := by decide +kernel
theorem dX5_has_0 : decode cX5_has 0 = .ok (.iload_n 1, 1) := by decide +kernel
theorem dX5_has_1 : decode cX5_has 1 = .ok (.ifCond .lt 16, 3) := by decide +kernel
theorem dX5_has_4 : decode cX5_has 4 = .ok (.iload_n 1, 1) := by decide +kernel
theorem dX5_has_5 : decode cX5_has 5 = .ok (.aload_n 0, 1) := by decide +kernel
theorem dX5_has_6 : decode cX5_has 6 = .ok (.getfield 19, 3) := by decide +kernel
theorem dX5_has_9 : decode cX5_has 9 = .ok (.arraylength, 1) := by decide +kernel
theorem dX5_has_10 : decode cX5_has 10 = .ok (.if_icmp .ge 7, 3) := by decide +kernel
theorem dX5_has_13 : decode cX5_has 13 = .ok (.iconst 1, 1) := by decide +kernel
theorem dX5_has_14 : decode cX5_has 14 = .ok (.goto 4, 3) := by decide +kernel
theorem dX5_has_17 : decode cX5_has 17 = .ok (.iconst 0, 1) := by decide +kernel
theorem dX5_has_18 : decode cX5_has 18 = .ok (.ireturn, 1) := by decide +kernel
theorem dX6_init_0 : decode cX6_init 0 = .ok (.aload_n 0, 1) := by decide +kernel
theorem dX6_init_1 : decode cX6_init 1 = .ok (.invokespecial 3, 3) := by decide +kernel
theorem dX6_init_4 : decode cX6_init 4 = .ok (.aload_n 0, 1) := by decide +kernel
theorem dX6_init_5 : decode cX6_init 5 = .ok (.bipush 12, 2) := by decide +kernel
theorem dX6_init_7 : decode cX6_init 7 = .ok (.newarray .int, 2) := by decide +kernel
theorem dX6_init_9 : decode cX6_init 9 = .ok (.putfield 9, 3) := by decide +kernel
theorem dX6_init_12 : decode cX6_init 12 = .ok (.aload_n 0, 1) := by decide +kernel
theorem dX6_init_13 : decode cX6_init 13 = .ok (.iconst 0, 1) := by decide +kernel
theorem dX6_init_14 : decode cX6_init 14 = .ok (.putfield 15, 3) := by decide +kernel
theorem dX6_init_17 : decode cX6_init 17 = .ok (.aload_n 0, 1) := by decide +kernel
theorem dX6_init_18 : decode cX6_init 18 = .ok (.iconst 0, 1) := by decide +kernel
theorem dX6_init_19 : decode cX6_init 19 = .ok (.putfield 19, 3) := by decide +kernel
theorem dX6_init_22 : decode cX6_init 22 = .ok (.return_, 1) := by decide +kernel
theorem dX6_search_0 : decode cX6_search 0 = .ok (.iload_n 2, 1) := by decide +kernel
theorem dX6_search_1 : decode cX6_search 1 = .ok (.ifCond .ne 7, 3) := by decide +kernel
theorem dX6_search_4 : decode cX6_search 4 = .ok (.iconst 0, 1) := by decide +kernel
theorem dX6_search_5 : decode cX6_search 5 = .ok (.goto 7, 3) := by decide +kernel
theorem dX6_search_8 : decode cX6_search 8 = .ok (.bipush 8, 2) := by decide +kernel
theorem dX6_search_10 : decode cX6_search 10 = .ok (.iload_n 3, 1) := by decide +kernel
theorem dX6_search_11 : decode cX6_search 11 = .ok (.ishl, 1) := by decide +kernel
theorem dX6_search_12 : decode cX6_search 12 = .ok (.istore 4, 2) := by decide +kernel
theorem dX6_search_14 : decode cX6_search 14 = .ok (.iconst (-1), 1) := by decide +kernel
theorem dX6_search_15 : decode cX6_search 15 = .ok (.istore 5, 2) := by decide +kernel
theorem dX6_search_17 : decode cX6_search 17 = .ok (.iload 4, 2) := by decide +kernel
theorem dX6_search_19 : decode cX6_search 19 = .ok (.ineg, 1) := by decide +kernel
theorem dX6_search_20 : decode cX6_search 20 = .ok (.istore 6, 2) := by decide +kernel
theorem dX6_search_22 : decode cX6_search 22 = .ok (.iload 6, 2) := by decide +kernel
theorem dX6_search_24 : decode cX6_search 24 = .ok (.iload 4, 2) := by decide +kernel
theorem dX6_search_26 : decode cX6_search 26 = .ok (.if_icmp .gt 130, 3) := by decide +kernel
theorem dX6_search_29 : decode cX6_search 29 = .ok (.iconst 0, 1) := by decide +kernel
theorem dX6_search_30 : decode cX6_search 30 = .ok (.istore 7, 2) := by decide +kernel
theorem dX6_search_32 : decode cX6_search 32 = .ok (.iload 7, 2) := by decide +kernel
theorem dX6_search_34 : decode cX6_search 34 = .ok (.aload_n 1, 1) := by decide +kernel
theorem dX6_search_35 : decode cX6_search 35 = .ok (.getfield 22, 3) := by decide +kernel
theorem dX6_search_38 : decode cX6_search 38 = .ok (.if_icmp .ge 36, 3) := by decide +kernel
theorem dX6_search_41 : decode cX6_search 41 = .ok (.aload_n 0, 1) := by decide +kernel
theorem dX6_search_42 : decode cX6_search 42 = .ok (.getfield 9, 3) := by decide +kernel
theorem dX6_search_45 : decode cX6_search 45 = .ok (.iload 7, 2) := by decide +kernel
theorem dX6_search_47 : decode cX6_search 47 = .ok (.aload_n 1, 1) := by decide +kernel
theorem dX6_search_48 : decode cX6_search 48 = .ok (.getfield 27, 3) := by decide +kernel
theorem dX6_search_51 : decode cX6_search 51 = .ok (.iload 7, 2) := by decide +kernel
theorem dX6_search_53 : decode cX6_search 53 = .ok (.iaload, 1) := by decide +kernel
theorem dX6_search_54 : decode cX6_search 54 = .ok (.iload_n 3, 1) := by decide +kernel
theorem dX6_search_55 : decode cX6_search 55 = .ok (.ishl, 1) := by decide +kernel
theorem dX6_search_56 : decode cX6_search 56 = .ok (.iload 6, 2) := by decide +kernel
theorem dX6_search_58 : decode cX6_search 58 = .ok (.aload_n 1, 1) := by decide +kernel
theorem dX6_search_59 : decode cX6_search 59 = .ok (.getfield 30, 3) := by decide +kernel
theorem dX6_search_62 : decode cX6_search 62 = .ok (.iload 7, 2) := by decide +kernel
theorem dX6_search_64 : decode cX6_search 64 = .ok (.iaload, 1) := by decide +kernel
theorem dX6_search_65 : decode cX6_search 65 = .ok (.imul, 1) := by decide +kernel
theorem dX6_search_66 : decode cX6_search 66 = .ok (.isub, 1) := by decide +kernel
theorem dX6_search_67 : decode cX6_search 67 = .ok (.iastore, 1) := by decide +kernel
theorem dX6_search_68 : decode cX6_search 68 = .ok (.iinc 7 1, 3) := by decide +kernel
theorem dX6_search_71 : decode cX6_search 71 = .ok (.goto (-39), 3) := by decide +kernel
theorem dX6_search_74 : decode cX6_search 74 = .ok (.aload_n 0, 1) := by decide +kernel
theorem dX6_search_75 : decode cX6_search 75 = .ok (.aload_n 1, 1) := by decide +kernel
theorem dX6_search_76 : decode cX6_search 76 = .ok (.bipush 64, 2) := by decide +kernel
theorem dX6_search_78 : decode cX6_search 78 = .ok (.iload_n 3, 1) := by decide +kernel
theorem dX6_search_79 : decode cX6_search 79 = .ok (.ishl, 1) := by decide +kernel
theorem dX6_search_80 : decode cX6_search 80 = .ok (.invokevirtual 33, 3) := by decide +kernel
theorem dX6_search_83 : decode cX6_search 83 = .ok (.istore 7, 2) := by decide +kernel
theorem dX6_search_85 : decode cX6_search 85 = .ok (.aload_n 0, 1) := by decide +kernel
theorem dX6_search_86 : decode cX6_search 86 = .ok (.aload_n 1, 1) := by decide +kernel
theorem dX6_search_87 : decode cX6_search 87 = .ok (.iload 7, 2) := by decide +kernel
theorem dX6_search_89 : decode cX6_search 89 = .ok (.invokevirtual 37, 3) := by decide +kernel
theorem dX6_search_92 : decode cX6_search 92 = .ok (.istore 8, 2) := by decide +kernel
theorem dX6_search_94 : decode cX6_search 94 = .ok (.iload 5, 2) := by decide +kernel
theorem dX6_search_96 : decode cX6_search 96 = .ok (.ifCond .lt 26, 3) := by decide +kernel
theorem dX6_search_99 : decode cX6_search 99 = .ok (.iload 8, 2) := by decide +kernel
theorem dX6_search_101 : decode cX6_search 101 = .ok (.iload 5, 2) := by decide +kernel
theorem dX6_search_103 : decode cX6_search 103 = .ok (.if_icmp .lt 19, 3) := by decide +kernel
theorem dX6_search_106 : decode cX6_search 106 = .ok (.iload 8, 2) := by decide +kernel
theorem dX6_search_108 : decode cX6_search 108 = .ok (.iload 5, 2) := by decide +kernel
theorem dX6_search_110 : decode cX6_search 110 = .ok (.if_icmp .ne 16, 3) := by decide +kernel
theorem dX6_search_113 : decode cX6_search 113 = .ok (.iload 7, 2) := by decide +kernel
theorem dX6_search_115 : decode cX6_search 115 = .ok (.aload_n 0, 1) := by decide +kernel
theorem dX6_search_116 : decode cX6_search 116 = .ok (.getfield 15, 3) := by decide +kernel
theorem dX6_search_119 : decode cX6_search 119 = .ok (.if_icmp .ge 7, 3) := by decide +kernel
theorem dX6_search_122 : decode cX6_search 122 = .ok (.iconst 1, 1) := by decide +kernel
theorem dX6_search_123 : decode cX6_search 123 = .ok (.goto 4, 3) := by decide +kernel
theorem dX6_search_126 : decode cX6_search 126 = .ok (.iconst 0, 1) := by decide +kernel
theorem dX6_search_127 : decode cX6_search 127 = .ok (.istore 9, 2) := by decide +kernel
theorem dX6_search_129 : decode cX6_search 129 = .ok (.iload 9, 2) := by decide +kernel
theorem dX6_search_131 : decode cX6_search 131 = .ok (.ifCond .eq 19, 3) := by decide +kernel
theorem dX6_search_134 : decode cX6_search 134 = .ok (.iload 8, 2) := by decide +kernel
theorem dX6_search_136 : decode cX6_search 136 = .ok (.istore 5, 2) := by decide +kernel
theorem dX6_search_138 : decode cX6_search 138 = .ok (.aload_n 0, 1) := by decide +kernel
theorem dX6_search_139 : decode cX6_search 139 = .ok (.iload 7, 2) := by decide +kernel
theorem dX6_search_141 : decode cX6_search 141 = .ok (.putfield 15, 3) := by decide +kernel
theorem dX6_search_144 : decode cX6_search 144 = .ok (.aload_n 0, 1) := by decide +kernel
theorem dX6_search_145 : decode cX6_search 145 = .ok (.iload 6, 2) := by decide +kernel
theorem dX6_search_147 : decode cX6_search 147 = .ok (.putfield 19, 3) := by decide +kernel
theorem dX6_search_150 : decode cX6_search 150 = .ok (.iinc 6 1, 3) := by decide +kernel
theorem dX6_search_153 : decode cX6_search 153 = .ok (.goto (-131), 3) := by decide +kernel
theorem dX6_search_156 : decode cX6_search 156 = .ok (.return_, 1) := by decide +kernel
theorem dX6_leastC0_0 : decode cX6_leastC0 0 = .ok (.iload_n 2, 1) := by decide +kernel
theorem dX6_leastC0_1 : decode cX6_leastC0 1 = .ok (.ineg, 1) := by decide +kernel
theorem dX6_leastC0_2 : decode cX6_leastC0 2 = .ok (.istore_n 3, 1) := by decide +kernel
theorem dX6_leastC0_3 : decode cX6_leastC0 3 = .ok (.iload_n 2, 1) := by decide +kernel
theorem dX6_leastC0_4 : decode cX6_leastC0 4 = .ok (.istore 4, 2) := by decide +kernel
theorem dX6_leastC0_6 : decode cX6_leastC0 6 = .ok (.iconst 0, 1) := by decide +kernel
theorem dX6_leastC0_7 : decode cX6_leastC0 7 = .ok (.istore 5, 2) := by decide +kernel
theorem dX6_leastC0_9 : decode cX6_leastC0 9 = .ok (.iload 5, 2) := by decide +kernel
theorem dX6_leastC0_11 : decode cX6_leastC0 11 = .ok (.bipush 32, 2) := by decide +kernel
theorem dX6_leastC0_13 : decode cX6_leastC0 13 = .ok (.if_icmp .ge 56, 3) := by decide +kernel
theorem dX6_leastC0_16 : decode cX6_leastC0 16 = .ok (.iload_n 3, 1) := by decide +kernel
theorem dX6_leastC0_17 : decode cX6_leastC0 17 = .ok (.iload 4, 2) := by decide +kernel
theorem dX6_leastC0_19 : decode cX6_leastC0 19 = .ok (.if_icmp .ge 50, 3) := by decide +kernel
theorem dX6_leastC0_22 : decode cX6_leastC0 22 = .ok (.iload_n 3, 1) := by decide +kernel
theorem dX6_leastC0_23 : decode cX6_leastC0 23 = .ok (.iload 4, 2) := by decide +kernel
theorem dX6_leastC0_25 : decode cX6_leastC0 25 = .ok (.iadd, 1) := by decide +kernel
theorem dX6_leastC0_26 : decode cX6_leastC0 26 = .ok (.iconst 2, 1) := by decide +kernel
theorem dX6_leastC0_27 : decode cX6_leastC0 27 = .ok (.invokestatic 40, 3) := by decide +kernel
theorem dX6_leastC0_30 : decode cX6_leastC0 30 = .ok (.istore 6, 2) := by decide +kernel
theorem dX6_leastC0_32 : decode cX6_leastC0 32 = .ok (.aload_n 0, 1) := by decide +kernel
theorem dX6_leastC0_33 : decode cX6_leastC0 33 = .ok (.aload_n 1, 1) := by decide +kernel
theorem dX6_leastC0_34 : decode cX6_leastC0 34 = .ok (.iload 6, 2) := by decide +kernel
theorem dX6_leastC0_36 : decode cX6_leastC0 36 = .ok (.invokevirtual 37, 3) := by decide +kernel
theorem dX6_leastC0_39 : decode cX6_leastC0 39 = .ok (.aload_n 0, 1) := by decide +kernel
theorem dX6_leastC0_40 : decode cX6_leastC0 40 = .ok (.aload_n 1, 1) := by decide +kernel
theorem dX6_leastC0_41 : decode cX6_leastC0 41 = .ok (.iload 6, 2) := by decide +kernel
theorem dX6_leastC0_43 : decode cX6_leastC0 43 = .ok (.iconst 1, 1) := by decide +kernel
theorem dX6_leastC0_44 : decode cX6_leastC0 44 = .ok (.iadd, 1) := by decide +kernel
theorem dX6_leastC0_45 : decode cX6_leastC0 45 = .ok (.invokevirtual 37, 3) := by decide +kernel
theorem dX6_leastC0_48 : decode cX6_leastC0 48 = .ok (.if_icmp .gt 10, 3) := by decide +kernel
theorem dX6_leastC0_51 : decode cX6_leastC0 51 = .ok (.iload 6, 2) := by decide +kernel
theorem dX6_leastC0_53 : decode cX6_leastC0 53 = .ok (.istore 4, 2) := by decide +kernel
theorem dX6_leastC0_55 : decode cX6_leastC0 55 = .ok (.goto 8, 3) := by decide +kernel
theorem dX6_leastC0_58 : decode cX6_leastC0 58 = .ok (.iload 6, 2) := by decide +kernel
theorem dX6_leastC0_60 : decode cX6_leastC0 60 = .ok (.iconst 1, 1) := by decide +kernel
theorem dX6_leastC0_61 : decode cX6_leastC0 61 = .ok (.iadd, 1) := by decide +kernel
theorem dX6_leastC0_62 : decode cX6_leastC0 62 = .ok (.istore_n 3, 1) := by decide +kernel
theorem dX6_leastC0_63 : decode cX6_leastC0 63 = .ok (.iinc 5 1, 3) := by decide +kernel
theorem dX6_leastC0_66 : decode cX6_leastC0 66 = .ok (.goto (-57), 3) := by decide +kernel
theorem dX6_leastC0_69 : decode cX6_leastC0 69 = .ok (.iload_n 3, 1) := by decide +kernel
theorem dX6_leastC0_70 : decode cX6_leastC0 70 = .ok (.ireturn, 1) := by decide +kernel
theorem dX6_levelAt_0 : decode cX6_levelAt 0 = .ok (.iconst 0, 1) := by decide +kernel
theorem dX6_levelAt_1 : decode cX6_levelAt 1 = .ok (.istore_n 3, 1) := by decide +kernel
theorem dX6_levelAt_2 : decode cX6_levelAt 2 = .ok (.iconst 0, 1) := by decide +kernel
theorem dX6_levelAt_3 : decode cX6_levelAt 3 = .ok (.istore 4, 2) := by decide +kernel
theorem dX6_levelAt_5 : decode cX6_levelAt 5 = .ok (.iload 4, 2) := by decide +kernel
theorem dX6_levelAt_7 : decode cX6_levelAt 7 = .ok (.aload_n 1, 1) := by decide +kernel
theorem dX6_levelAt_8 : decode cX6_levelAt 8 = .ok (.getfield 22, 3) := by decide +kernel
theorem dX6_levelAt_11 : decode cX6_levelAt 11 = .ok (.if_icmp .ge 34, 3) := by decide +kernel
theorem dX6_levelAt_14 : decode cX6_levelAt 14 = .ok (.iload_n 3, 1) := by decide +kernel
theorem dX6_levelAt_15 : decode cX6_levelAt 15 = .ok (.aload_n 1, 1) := by decide +kernel
theorem dX6_levelAt_16 : decode cX6_levelAt 16 = .ok (.getfield 46, 3) := by decide +kernel
theorem dX6_levelAt_19 : decode cX6_levelAt 19 = .ok (.iload 4, 2) := by decide +kernel
theorem dX6_levelAt_21 : decode cX6_levelAt 21 = .ok (.iaload, 1) := by decide +kernel
theorem dX6_levelAt_22 : decode cX6_levelAt 22 = .ok (.aload_n 0, 1) := by decide +kernel
theorem dX6_levelAt_23 : decode cX6_levelAt 23 = .ok (.getfield 9, 3) := by decide +kernel
theorem dX6_levelAt_26 : decode cX6_levelAt 26 = .ok (.iload 4, 2) := by decide +kernel
theorem dX6_levelAt_28 : decode cX6_levelAt 28 = .ok (.iaload, 1) := by decide +kernel
theorem dX6_levelAt_29 : decode cX6_levelAt 29 = .ok (.iload_n 2, 1) := by decide +kernel
theorem dX6_levelAt_30 : decode cX6_levelAt 30 = .ok (.isub, 1) := by decide +kernel
theorem dX6_levelAt_31 : decode cX6_levelAt 31 = .ok (.invokestatic 49, 3) := by decide +kernel
theorem dX6_levelAt_34 : decode cX6_levelAt 34 = .ok (.imul, 1) := by decide +kernel
theorem dX6_levelAt_35 : decode cX6_levelAt 35 = .ok (.invokestatic 53, 3) := by decide +kernel
theorem dX6_levelAt_38 : decode cX6_levelAt 38 = .ok (.istore_n 3, 1) := by decide +kernel
theorem dX6_levelAt_39 : decode cX6_levelAt 39 = .ok (.iinc 4 1, 3) := by decide +kernel
theorem dX6_levelAt_42 : decode cX6_levelAt 42 = .ok (.goto (-37), 3) := by decide +kernel
theorem dX6_levelAt_45 : decode cX6_levelAt 45 = .ok (.iload_n 3, 1) := by decide +kernel
theorem dX6_levelAt_46 : decode cX6_levelAt 46 = .ok (.ireturn, 1) := by decide +kernel
theorem dJ6_bitCount_0f7a4_0 : decode cJ6_bitCount_0f7a4 0 = .ok (.iload_n 0, 1) := by decide +kernel
theorem dJ6_bitCount_0f7a4_1 : decode cJ6_bitCount_0f7a4 1 = .ok (.iload_n 0, 1) := by decide +kernel
theorem dJ6_bitCount_0f7a4_2 : decode cJ6_bitCount_0f7a4 2 = .ok (.iconst 1, 1) := by decide +kernel
theorem dJ6_bitCount_0f7a4_3 : decode cJ6_bitCount_0f7a4 3 = .ok (.iushr, 1) := by decide +kernel
theorem dJ6_bitCount_0f7a4_4 : decode cJ6_bitCount_0f7a4 4 = .ok (.ldc_w 265, 3) := by decide +kernel
theorem dJ6_bitCount_0f7a4_7 : decode cJ6_bitCount_0f7a4 7 = .ok (.iand, 1) := by decide +kernel
theorem dJ6_bitCount_0f7a4_8 : decode cJ6_bitCount_0f7a4 8 = .ok (.isub, 1) := by decide +kernel
theorem dJ6_bitCount_0f7a4_9 : decode cJ6_bitCount_0f7a4 9 = .ok (.istore_n 0, 1) := by decide +kernel
theorem dJ6_bitCount_0f7a4_10 : decode cJ6_bitCount_0f7a4 10 = .ok (.iload_n 0, 1) := by decide +kernel
theorem dJ6_bitCount_0f7a4_11 : decode cJ6_bitCount_0f7a4 11 = .ok (.ldc_w 266, 3) := by decide +kernel
theorem dJ6_bitCount_0f7a4_14 : decode cJ6_bitCount_0f7a4 14 = .ok (.iand, 1) := by decide +kernel
theorem dJ6_bitCount_0f7a4_15 : decode cJ6_bitCount_0f7a4 15 = .ok (.iload_n 0, 1) := by decide +kernel
theorem dJ6_bitCount_0f7a4_16 : decode cJ6_bitCount_0f7a4 16 = .ok (.iconst 2, 1) := by decide +kernel
theorem dJ6_bitCount_0f7a4_17 : decode cJ6_bitCount_0f7a4 17 = .ok (.iushr, 1) := by decide +kernel
theorem dJ6_bitCount_0f7a4_18 : decode cJ6_bitCount_0f7a4 18 = .ok (.ldc_w 266, 3) := by decide +kernel
theorem dJ6_bitCount_0f7a4_21 : decode cJ6_bitCount_0f7a4 21 = .ok (.iand, 1) := by decide +kernel
theorem dJ6_bitCount_0f7a4_22 : decode cJ6_bitCount_0f7a4 22 = .ok (.iadd, 1) := by decide +kernel
theorem dJ6_bitCount_0f7a4_23 : decode cJ6_bitCount_0f7a4 23 = .ok (.istore_n 0, 1) := by decide +kernel
theorem dJ6_bitCount_0f7a4_24 : decode cJ6_bitCount_0f7a4 24 = .ok (.iload_n 0, 1) := by decide +kernel
theorem dJ6_bitCount_0f7a4_25 : decode cJ6_bitCount_0f7a4 25 = .ok (.iload_n 0, 1) := by decide +kernel
theorem dJ6_bitCount_0f7a4_26 : decode cJ6_bitCount_0f7a4 26 = .ok (.iconst 4, 1) := by decide +kernel
theorem dJ6_bitCount_0f7a4_27 : decode cJ6_bitCount_0f7a4 27 = .ok (.iushr, 1) := by decide +kernel
theorem dJ6_bitCount_0f7a4_28 : decode cJ6_bitCount_0f7a4 28 = .ok (.iadd, 1) := by decide +kernel
theorem dJ6_bitCount_0f7a4_29 : decode cJ6_bitCount_0f7a4 29 = .ok (.ldc_w 267, 3) := by decide +kernel
theorem dJ6_bitCount_0f7a4_32 : decode cJ6_bitCount_0f7a4 32 = .ok (.iand, 1) := by decide +kernel
theorem dJ6_bitCount_0f7a4_33 : decode cJ6_bitCount_0f7a4 33 = .ok (.istore_n 0, 1) := by decide +kernel
theorem dJ6_bitCount_0f7a4_34 : decode cJ6_bitCount_0f7a4 34 = .ok (.iload_n 0, 1) := by decide +kernel
theorem dJ6_bitCount_0f7a4_35 : decode cJ6_bitCount_0f7a4 35 = .ok (.iload_n 0, 1) := by decide +kernel
theorem dJ6_bitCount_0f7a4_36 : decode cJ6_bitCount_0f7a4 36 = .ok (.bipush 8, 2) := by decide +kernel
theorem dJ6_bitCount_0f7a4_38 : decode cJ6_bitCount_0f7a4 38 = .ok (.iushr, 1) := by decide +kernel
theorem dJ6_bitCount_0f7a4_39 : decode cJ6_bitCount_0f7a4 39 = .ok (.iadd, 1) := by decide +kernel
theorem dJ6_bitCount_0f7a4_40 : decode cJ6_bitCount_0f7a4 40 = .ok (.istore_n 0, 1) := by decide +kernel
theorem dJ6_bitCount_0f7a4_41 : decode cJ6_bitCount_0f7a4 41 = .ok (.iload_n 0, 1) := by decide +kernel
theorem dJ6_bitCount_0f7a4_42 : decode cJ6_bitCount_0f7a4 42 = .ok (.iload_n 0, 1) := by decide +kernel
theorem dJ6_bitCount_0f7a4_43 : decode cJ6_bitCount_0f7a4 43 = .ok (.bipush 16, 2) := by decide +kernel
theorem dJ6_bitCount_0f7a4_45 : decode cJ6_bitCount_0f7a4 45 = .ok (.iushr, 1) := by decide +kernel
theorem dJ6_bitCount_0f7a4_46 : decode cJ6_bitCount_0f7a4 46 = .ok (.iadd, 1) := by decide +kernel
theorem dJ6_bitCount_0f7a4_47 : decode cJ6_bitCount_0f7a4 47 = .ok (.istore_n 0, 1) := by decide +kernel
theorem dJ6_bitCount_0f7a4_48 : decode cJ6_bitCount_0f7a4 48 = .ok (.iload_n 0, 1) := by decide +kernel
theorem dJ6_bitCount_0f7a4_49 : decode cJ6_bitCount_0f7a4 49 = .ok (.bipush 63, 2) := by decide +kernel
theorem dJ6_bitCount_0f7a4_51 : decode cJ6_bitCount_0f7a4 51 = .ok (.iand, 1) := by decide +kernel
theorem dJ6_bitCount_0f7a4_52 : decode cJ6_bitCount_0f7a4 52 = .ok (.ireturn, 1) := by decide +kernel
theorem dJ13_compare_74951_0 : decode cJ13_compare_74951 0 = .ok (.lload_n 0, 1) := by decide +kernel
theorem dJ13_compare_74951_1 : decode cJ13_compare_74951 1 = .ok (.lload_n 2, 1) := by decide +kernel
theorem dJ13_compare_74951_2 : decode cJ13_compare_74951 2 = .ok (.lcmp, 1) := by decide +kernel
theorem dJ13_compare_74951_3 : decode cJ13_compare_74951 3 = .ok (.ifCond .ge 7, 3) := by decide +kernel
theorem dJ13_compare_74951_6 : decode cJ13_compare_74951 6 = .ok (.iconst (-1), 1) := by decide +kernel
theorem dJ13_compare_74951_7 : decode cJ13_compare_74951 7 = .ok (.goto 14, 3) := by decide +kernel
theorem dJ13_compare_74951_10 : decode cJ13_compare_74951 10 = .ok (.lload_n 0, 1) := by decide +kernel
theorem dJ13_compare_74951_11 : decode cJ13_compare_74951 11 = .ok (.lload_n 2, 1) := by decide +kernel
theorem dJ13_compare_74951_12 : decode cJ13_compare_74951 12 = .ok (.lcmp, 1) := by decide +kernel
theorem dJ13_compare_74951_13 : decode cJ13_compare_74951 13 = .ok (.ifCond .ne 7, 3) := by decide +kernel
theorem dJ13_compare_74951_16 : decode cJ13_compare_74951 16 = .ok (.iconst 0, 1) := by decide +kernel
theorem dJ13_compare_74951_17 : decode cJ13_compare_74951 17 = .ok (.goto 4, 3) := by decide +kernel
theorem dJ13_compare_74951_20 : decode cJ13_compare_74951 20 = .ok (.iconst 1, 1) := by decide +kernel
theorem dJ13_compare_74951_21 : decode cJ13_compare_74951 21 = .ok (.ireturn, 1) := by decide +kernel
theorem dJ9_floorDiv_7cf53_0 : decode cJ9_floorDiv_7cf53 0 = .ok (.iload_n 0, 1) := by decide +kernel
theorem dJ9_floorDiv_7cf53_1 : decode cJ9_floorDiv_7cf53 1 = .ok (.iload_n 1, 1) := by decide +kernel
theorem dJ9_floorDiv_7cf53_2 : decode cJ9_floorDiv_7cf53 2 = .ok (.idiv, 1) := by decide +kernel
theorem dJ9_floorDiv_7cf53_3 : decode cJ9_floorDiv_7cf53 3 = .ok (.istore_n 2, 1) := by decide +kernel
theorem dJ9_floorDiv_7cf53_4 : decode cJ9_floorDiv_7cf53 4 = .ok (.iload_n 0, 1) := by decide +kernel
theorem dJ9_floorDiv_7cf53_5 : decode cJ9_floorDiv_7cf53 5 = .ok (.iload_n 1, 1) := by decide +kernel
theorem dJ9_floorDiv_7cf53_6 : decode cJ9_floorDiv_7cf53 6 = .ok (.ixor, 1) := by decide +kernel
theorem dJ9_floorDiv_7cf53_7 : decode cJ9_floorDiv_7cf53 7 = .ok (.ifCond .ge 14, 3) := by decide +kernel
theorem dJ9_floorDiv_7cf53_10 : decode cJ9_floorDiv_7cf53 10 = .ok (.iload_n 2, 1) := by decide +kernel
theorem dJ9_floorDiv_7cf53_11 : decode cJ9_floorDiv_7cf53 11 = .ok (.iload_n 1, 1) := by decide +kernel
theorem dJ9_floorDiv_7cf53_12 : decode cJ9_floorDiv_7cf53 12 = .ok (.imul, 1) := by decide +kernel
theorem dJ9_floorDiv_7cf53_13 : decode cJ9_floorDiv_7cf53 13 = .ok (.iload_n 0, 1) := by decide +kernel
theorem dJ9_floorDiv_7cf53_14 : decode cJ9_floorDiv_7cf53 14 = .ok (.if_icmp .eq 7, 3) := by decide +kernel
theorem dJ9_floorDiv_7cf53_17 : decode cJ9_floorDiv_7cf53 17 = .ok (.iload_n 2, 1) := by decide +kernel
theorem dJ9_floorDiv_7cf53_18 : decode cJ9_floorDiv_7cf53 18 = .ok (.iconst 1, 1) := by decide +kernel
theorem dJ9_floorDiv_7cf53_19 : decode cJ9_floorDiv_7cf53 19 = .ok (.isub, 1) := by decide +kernel
theorem dJ9_floorDiv_7cf53_20 : decode cJ9_floorDiv_7cf53 20 = .ok (.ireturn, 1) := by decide +kernel
theorem dJ9_floorDiv_7cf53_21 : decode cJ9_floorDiv_7cf53 21 = .ok (.iload_n 2, 1) := by decide +kernel
theorem dJ9_floorDiv_7cf53_22 : decode cJ9_floorDiv_7cf53 22 = .ok (.ireturn, 1) := by decide +kernel
theorem dJ9_floorMod_7cf53_0 : decode cJ9_floorMod_7cf53 0 = .ok (.iload_n 0, 1) := by decide +kernel
theorem dJ9_floorMod_7cf53_1 : decode cJ9_floorMod_7cf53 1 = .ok (.iload_n 1, 1) := by decide +kernel
theorem dJ9_floorMod_7cf53_2 : decode cJ9_floorMod_7cf53 2 = .ok (.irem, 1) := by decide +kernel
theorem dJ9_floorMod_7cf53_3 : decode cJ9_floorMod_7cf53 3 = .ok (.istore_n 2, 1) := by decide +kernel
theorem dJ9_floorMod_7cf53_4 : decode cJ9_floorMod_7cf53 4 = .ok (.iload_n 0, 1) := by decide +kernel
theorem dJ9_floorMod_7cf53_5 : decode cJ9_floorMod_7cf53 5 = .ok (.iload_n 1, 1) := by decide +kernel
theorem dJ9_floorMod_7cf53_6 : decode cJ9_floorMod_7cf53 6 = .ok (.ixor, 1) := by decide +kernel
theorem dJ9_floorMod_7cf53_7 : decode cJ9_floorMod_7cf53 7 = .ok (.ifCond .ge 11, 3) := by decide +kernel
theorem dJ9_floorMod_7cf53_10 : decode cJ9_floorMod_7cf53 10 = .ok (.iload_n 2, 1) := by decide +kernel
theorem dJ9_floorMod_7cf53_11 : decode cJ9_floorMod_7cf53 11 = .ok (.ifCond .eq 7, 3) := by decide +kernel
theorem dJ9_floorMod_7cf53_14 : decode cJ9_floorMod_7cf53 14 = .ok (.iload_n 2, 1) := by decide +kernel
theorem dJ9_floorMod_7cf53_15 : decode cJ9_floorMod_7cf53 15 = .ok (.iload_n 1, 1) := by decide +kernel
theorem dJ9_floorMod_7cf53_16 : decode cJ9_floorMod_7cf53 16 = .ok (.iadd, 1) := by decide +kernel
theorem dJ9_floorMod_7cf53_17 : decode cJ9_floorMod_7cf53 17 = .ok (.ireturn, 1) := by decide +kernel
theorem dJ9_floorMod_7cf53_18 : decode cJ9_floorMod_7cf53 18 = .ok (.iload_n 2, 1) := by decide +kernel
theorem dJ9_floorMod_7cf53_19 : decode cJ9_floorMod_7cf53 19 = .ok (.ireturn, 1) := by decide +kernel
theorem dJ9_abs_0f7a4_0 : decode cJ9_abs_0f7a4 0 = .ok (.iload_n 0, 1) := by decide +kernel
theorem dJ9_abs_0f7a4_1 : decode cJ9_abs_0f7a4 1 = .ok (.ifCond .ge 8, 3) := by decide +kernel
theorem dJ9_abs_0f7a4_4 : decode cJ9_abs_0f7a4 4 = .ok (.iload_n 0, 1) := by decide +kernel
theorem dJ9_abs_0f7a4_5 : decode cJ9_abs_0f7a4 5 = .ok (.ineg, 1) := by decide +kernel
theorem dJ9_abs_0f7a4_6 : decode cJ9_abs_0f7a4 6 = .ok (.goto 4, 3) := by decide +kernel
theorem dJ9_abs_0f7a4_9 : decode cJ9_abs_0f7a4 9 = .ok (.iload_n 0, 1) := by decide +kernel
theorem dJ9_abs_0f7a4_10 : decode cJ9_abs_0f7a4 10 = .ok (.ireturn, 1) := by decide +kernel
theorem dJ9_abs_067f4_0 : decode cJ9_abs_067f4 0 = .ok (.lload_n 0, 1) := by decide +kernel
theorem dJ9_abs_067f4_1 : decode cJ9_abs_067f4 1 = .ok (.lconst 0, 1) := by decide +kernel
theorem dJ9_abs_067f4_2 : decode cJ9_abs_067f4 2 = .ok (.lcmp, 1) := by decide +kernel
theorem dJ9_abs_067f4_3 : decode cJ9_abs_067f4 3 = .ok (.ifCond .ge 8, 3) := by decide +kernel
theorem dJ9_abs_067f4_6 : decode cJ9_abs_067f4 6 = .ok (.lload_n 0, 1) := by decide +kernel
theorem dJ9_abs_067f4_7 : decode cJ9_abs_067f4 7 = .ok (.lneg, 1) := by decide +kernel
theorem dJ9_abs_067f4_8 : decode cJ9_abs_067f4 8 = .ok (.goto 4, 3) := by decide +kernel
theorem dJ9_abs_067f4_11 : decode cJ9_abs_067f4 11 = .ok (.lload_n 0, 1) := by decide +kernel
theorem dJ9_abs_067f4_12 : decode cJ9_abs_067f4 12 = .ok (.lreturn, 1) := by decide +kernel
theorem dJ9_max_7cf53_0 : decode cJ9_max_7cf53 0 = .ok (.iload_n 0, 1) := by decide +kernel
theorem dJ9_max_7cf53_1 : decode cJ9_max_7cf53 1 = .ok (.iload_n 1, 1) := by decide +kernel
theorem dJ9_max_7cf53_2 : decode cJ9_max_7cf53 2 = .ok (.if_icmp .lt 7, 3) := by decide +kernel
theorem dJ9_max_7cf53_5 : decode cJ9_max_7cf53 5 = .ok (.iload_n 0, 1) := by decide +kernel
theorem dJ9_max_7cf53_6 : decode cJ9_max_7cf53 6 = .ok (.goto 4, 3) := by decide +kernel
theorem dJ9_max_7cf53_9 : decode cJ9_max_7cf53 9 = .ok (.iload_n 1, 1) := by decide +kernel
theorem dJ9_max_7cf53_10 : decode cJ9_max_7cf53 10 = .ok (.ireturn, 1) := by decide +kernel
theorem dJ9_min_7cf53_0 : decode cJ9_min_7cf53 0 = .ok (.iload_n 0, 1) := by decide +kernel
theorem dJ9_min_7cf53_1 : decode cJ9_min_7cf53 1 = .ok (.iload_n 1, 1) := by decide +kernel
theorem dJ9_min_7cf53_2 : decode cJ9_min_7cf53 2 = .ok (.if_icmp .gt 7, 3) := by decide +kernel
theorem dJ9_min_7cf53_5 : decode cJ9_min_7cf53 5 = .ok (.iload_n 0, 1) := by decide +kernel
theorem dJ9_min_7cf53_6 : decode cJ9_min_7cf53 6 = .ok (.goto 4, 3) := by decide +kernel
theorem dJ9_min_7cf53_9 : decode cJ9_min_7cf53 9 = .ok (.iload_n 1, 1) := by decide +kernel
theorem dJ9_min_7cf53_10 : decode cJ9_min_7cf53 10 = .ok (.ireturn, 1) := by decide +kernel
