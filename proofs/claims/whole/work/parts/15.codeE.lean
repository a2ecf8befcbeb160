theorem m_174 : hm_mtab[174]? = some (x, code, maxLocals, ret, 19, 1, 0) := rfl
theorem k_174_0 : hm_code 174 0 = some (.new 7) := by decide +kernel
theorem k_174_3 : hm_code 174 3 = some (.dup) := by decide +kernel
theorem k_174_4 : hm_code 174 4 = some (.invokespecial 9) := by decide +kernel
theorem k_174_7 : hm_code 174 7 = some (.astore_n 1) := by decide +kernel
theorem k_174_8 : hm_code 174 8 = some (.new 10) := by decide +kernel
theorem k_174_11 : hm_code 174 11 = some (.dup) := by decide +kernel
theorem k_174_12 : hm_code 174 12 = some (.invokespecial 12) := by decide +kernel
theorem k_174_15 : hm_code 174 15 = some (.astore_n 2) := by decide +kernel
theorem k_174_16 : hm_code 174 16 = some (.iconst 0) := by decide +kernel
theorem k_174_17 : hm_code 174 17 = some (.istore_n 3) := by decide +kernel
theorem k_174_18 : hm_code 174 18 = some (.iload_n 3) := by decide +kernel
theorem k_174_19 : hm_code 174 19 = some (.aload_n 0) := by decide +kernel
theorem k_174_20 : hm_code 174 20 = some (.arraylength) := by decide +kernel
theorem k_174_21 : hm_code 174 21 = some (.iconst 5) := by decide +kernel
theorem k_174_22 : hm_code 174 22 = some (.isub) := by decide +kernel
theorem k_174_23 : hm_code 174 23 = some (.if_icmp .gt 902) := by decide +kernel
theorem k_174_26 : hm_code 174 26 = some (.aload_n 0) := by decide +kernel
theorem k_174_27 : hm_code 174 27 = some (.iload_n 3) := by decide +kernel
theorem k_174_28 : hm_code 174 28 = some (.iaload) := by decide +kernel
theorem k_174_29 : hm_code 174 29 = some (.bipush 31) := by decide +kernel
theorem k_174_31 : hm_code 174 31 = some (.iand) := by decide +kernel
theorem k_174_32 : hm_code 174 32 = some (.tableswitch 887 0 22 #[108, 141, 174, 197, 260, 283, 296, 339, 392, 435, 478, 521, 564, 597, 640, 673, 696, 719, 752, 775, 798, 831, 854]) := by decide +kernel
theorem k_174_140 : hm_code 174 140 = some (.aload_n 1) := by decide +kernel
theorem k_174_141 : hm_code 174 141 = some (.aload_n 0) := by decide +kernel
theorem k_174_142 : hm_code 174 142 = some (.iload_n 3) := by decide +kernel
theorem k_174_143 : hm_code 174 143 = some (.iconst 1) := by decide +kernel
theorem k_174_144 : hm_code 174 144 = some (.iadd) := by decide +kernel
theorem k_174_145 : hm_code 174 145 = some (.iaload) := by decide +kernel
theorem k_174_146 : hm_code 174 146 = some (.aload_n 0) := by decide +kernel
theorem k_174_147 : hm_code 174 147 = some (.iload_n 3) := by decide +kernel
theorem k_174_148 : hm_code 174 148 = some (.iconst 2) := by decide +kernel
theorem k_174_149 : hm_code 174 149 = some (.iadd) := by decide +kernel
theorem k_174_150 : hm_code 174 150 = some (.iaload) := by decide +kernel
theorem k_174_151 : hm_code 174 151 = some (.invokevirtual 13) := by decide +kernel
theorem k_174_154 : hm_code 174 154 = some (.aload_n 2) := by decide +kernel
theorem k_174_155 : hm_code 174 155 = some (.aload_n 0) := by decide +kernel
theorem k_174_156 : hm_code 174 156 = some (.iload_n 3) := by decide +kernel
theorem k_174_157 : hm_code 174 157 = some (.iconst 1) := by decide +kernel
theorem k_174_158 : hm_code 174 158 = some (.iadd) := by decide +kernel
theorem k_174_159 : hm_code 174 159 = some (.iaload) := by decide +kernel
theorem k_174_160 : hm_code 174 160 = some (.aload_n 0) := by decide +kernel
theorem k_174_161 : hm_code 174 161 = some (.iload_n 3) := by decide +kernel
theorem k_174_162 : hm_code 174 162 = some (.iconst 2) := by decide +kernel
theorem k_174_163 : hm_code 174 163 = some (.iadd) := by decide +kernel
theorem k_174_164 : hm_code 174 164 = some (.iaload) := by decide +kernel
theorem k_174_165 : hm_code 174 165 = some (.invokevirtual 17) := by decide +kernel
theorem k_174_168 : hm_code 174 168 = some (.if_icmp .eq 751) := by decide +kernel
theorem k_174_171 : hm_code 174 171 = some (.iconst 0) := by decide +kernel
theorem k_174_172 : hm_code 174 172 = some (.ireturn) := by decide +kernel
theorem k_174_173 : hm_code 174 173 = some (.aload_n 1) := by decide +kernel
theorem k_174_174 : hm_code 174 174 = some (.aload_n 0) := by decide +kernel
theorem k_174_175 : hm_code 174 175 = some (.iload_n 3) := by decide +kernel
theorem k_174_176 : hm_code 174 176 = some (.iconst 1) := by decide +kernel
theorem k_174_177 : hm_code 174 177 = some (.iadd) := by decide +kernel
theorem k_174_178 : hm_code 174 178 = some (.iaload) := by decide +kernel
theorem k_174_179 : hm_code 174 179 = some (.aload_n 0) := by decide +kernel
theorem k_174_180 : hm_code 174 180 = some (.iload_n 3) := by decide +kernel
theorem k_174_181 : hm_code 174 181 = some (.iconst 2) := by decide +kernel
theorem k_174_182 : hm_code 174 182 = some (.iadd) := by decide +kernel
theorem k_174_183 : hm_code 174 183 = some (.iaload) := by decide +kernel
theorem k_174_184 : hm_code 174 184 = some (.invokevirtual 18) := by decide +kernel
theorem k_174_187 : hm_code 174 187 = some (.aload_n 2) := by decide +kernel
theorem k_174_188 : hm_code 174 188 = some (.aload_n 0) := by decide +kernel
theorem k_174_189 : hm_code 174 189 = some (.iload_n 3) := by decide +kernel
theorem k_174_190 : hm_code 174 190 = some (.iconst 1) := by decide +kernel
theorem k_174_191 : hm_code 174 191 = some (.iadd) := by decide +kernel
theorem k_174_192 : hm_code 174 192 = some (.iaload) := by decide +kernel
theorem k_174_193 : hm_code 174 193 = some (.aload_n 0) := by decide +kernel
theorem k_174_194 : hm_code 174 194 = some (.iload_n 3) := by decide +kernel
theorem k_174_195 : hm_code 174 195 = some (.iconst 2) := by decide +kernel
theorem k_174_196 : hm_code 174 196 = some (.iadd) := by decide +kernel
theorem k_174_197 : hm_code 174 197 = some (.iaload) := by decide +kernel
theorem k_174_198 : hm_code 174 198 = some (.invokevirtual 21) := by decide +kernel
theorem k_174_201 : hm_code 174 201 = some (.if_icmp .eq 718) := by decide +kernel
theorem k_174_204 : hm_code 174 204 = some (.iconst 0) := by decide +kernel
theorem k_174_205 : hm_code 174 205 = some (.ireturn) := by decide +kernel
theorem k_174_206 : hm_code 174 206 = some (.aload_n 1) := by decide +kernel
theorem k_174_207 : hm_code 174 207 = some (.aload_n 0) := by decide +kernel
theorem k_174_208 : hm_code 174 208 = some (.iload_n 3) := by decide +kernel
theorem k_174_209 : hm_code 174 209 = some (.iconst 1) := by decide +kernel
theorem k_174_210 : hm_code 174 210 = some (.iadd) := by decide +kernel
theorem k_174_211 : hm_code 174 211 = some (.iaload) := by decide +kernel
theorem k_174_212 : hm_code 174 212 = some (.invokevirtual 22) := by decide +kernel
theorem k_174_215 : hm_code 174 215 = some (.aload_n 2) := by decide +kernel
theorem k_174_216 : hm_code 174 216 = some (.aload_n 0) := by decide +kernel
theorem k_174_217 : hm_code 174 217 = some (.iload_n 3) := by decide +kernel
theorem k_174_218 : hm_code 174 218 = some (.iconst 1) := by decide +kernel
theorem k_174_219 : hm_code 174 219 = some (.iadd) := by decide +kernel
theorem k_174_220 : hm_code 174 220 = some (.iaload) := by decide +kernel
theorem k_174_221 : hm_code 174 221 = some (.invokevirtual 26) := by decide +kernel
theorem k_174_224 : hm_code 174 224 = some (.if_icmp .eq 695) := by decide +kernel
theorem k_174_227 : hm_code 174 227 = some (.iconst 0) := by decide +kernel
theorem k_174_228 : hm_code 174 228 = some (.ireturn) := by decide +kernel
theorem k_174_229 : hm_code 174 229 = some (.aload_n 1) := by decide +kernel
theorem k_174_230 : hm_code 174 230 = some (.aload_n 0) := by decide +kernel
theorem k_174_231 : hm_code 174 231 = some (.iload_n 3) := by decide +kernel
theorem k_174_232 : hm_code 174 232 = some (.iconst 1) := by decide +kernel
theorem k_174_233 : hm_code 174 233 = some (.iadd) := by decide +kernel
theorem k_174_234 : hm_code 174 234 = some (.iaload) := by decide +kernel
theorem k_174_235 : hm_code 174 235 = some (.aload_n 0) := by decide +kernel
theorem k_174_236 : hm_code 174 236 = some (.iload_n 3) := by decide +kernel
theorem k_174_237 : hm_code 174 237 = some (.iconst 2) := by decide +kernel
theorem k_174_238 : hm_code 174 238 = some (.iadd) := by decide +kernel
theorem k_174_239 : hm_code 174 239 = some (.iaload) := by decide +kernel
theorem k_174_240 : hm_code 174 240 = some (.i2l) := by decide +kernel
theorem k_174_241 : hm_code 174 241 = some (.bipush 32) := by decide +kernel
theorem k_174_243 : hm_code 174 243 = some (.lshl) := by decide +kernel
theorem k_174_244 : hm_code 174 244 = some (.aload_n 0) := by decide +kernel
theorem k_174_245 : hm_code 174 245 = some (.iload_n 3) := by decide +kernel
theorem k_174_246 : hm_code 174 246 = some (.iconst 3) := by decide +kernel
theorem k_174_247 : hm_code 174 247 = some (.iadd) := by decide +kernel
theorem k_174_248 : hm_code 174 248 = some (.iaload) := by decide +kernel
theorem k_174_249 : hm_code 174 249 = some (.i2l) := by decide +kernel
theorem k_174_250 : hm_code 174 250 = some (.ldc2_w 27) := by decide +kernel
theorem k_174_253 : hm_code 174 253 = some (.land) := by decide +kernel
theorem k_174_254 : hm_code 174 254 = some (.lor) := by decide +kernel
theorem k_174_255 : hm_code 174 255 = some (.invokevirtual 29) := by decide +kernel
theorem k_174_258 : hm_code 174 258 = some (.aload_n 2) := by decide +kernel
theorem k_174_259 : hm_code 174 259 = some (.aload_n 0) := by decide +kernel
theorem k_174_260 : hm_code 174 260 = some (.iload_n 3) := by decide +kernel
theorem k_174_261 : hm_code 174 261 = some (.iconst 1) := by decide +kernel
theorem k_174_262 : hm_code 174 262 = some (.iadd) := by decide +kernel
theorem k_174_263 : hm_code 174 263 = some (.iaload) := by decide +kernel
theorem k_174_264 : hm_code 174 264 = some (.aload_n 0) := by decide +kernel
theorem k_174_265 : hm_code 174 265 = some (.iload_n 3) := by decide +kernel
theorem k_174_266 : hm_code 174 266 = some (.iconst 2) := by decide +kernel
theorem k_174_267 : hm_code 174 267 = some (.iadd) := by decide +kernel
theorem k_174_268 : hm_code 174 268 = some (.iaload) := by decide +kernel
theorem k_174_269 : hm_code 174 269 = some (.i2l) := by decide +kernel
theorem k_174_270 : hm_code 174 270 = some (.bipush 32) := by decide +kernel
theorem k_174_272 : hm_code 174 272 = some (.lshl) := by decide +kernel
theorem k_174_273 : hm_code 174 273 = some (.aload_n 0) := by decide +kernel
theorem k_174_274 : hm_code 174 274 = some (.iload_n 3) := by decide +kernel
theorem k_174_275 : hm_code 174 275 = some (.iconst 3) := by decide +kernel
theorem k_174_276 : hm_code 174 276 = some (.iadd) := by decide +kernel
theorem k_174_277 : hm_code 174 277 = some (.iaload) := by decide +kernel
theorem k_174_278 : hm_code 174 278 = some (.i2l) := by decide +kernel
theorem k_174_279 : hm_code 174 279 = some (.ldc2_w 27) := by decide +kernel
theorem k_174_282 : hm_code 174 282 = some (.land) := by decide +kernel
theorem k_174_283 : hm_code 174 283 = some (.lor) := by decide +kernel
theorem k_174_284 : hm_code 174 284 = some (.invokevirtual 33) := by decide +kernel
theorem k_174_287 : hm_code 174 287 = some (.if_icmp .eq 632) := by decide +kernel
theorem k_174_290 : hm_code 174 290 = some (.iconst 0) := by decide +kernel
theorem k_174_291 : hm_code 174 291 = some (.ireturn) := by decide +kernel
theorem k_174_292 : hm_code 174 292 = some (.aload_n 1) := by decide +kernel
theorem k_174_293 : hm_code 174 293 = some (.aload_n 0) := by decide +kernel
theorem k_174_294 : hm_code 174 294 = some (.iload_n 3) := by decide +kernel
theorem k_174_295 : hm_code 174 295 = some (.iconst 1) := by decide +kernel
theorem k_174_296 : hm_code 174 296 = some (.iadd) := by decide +kernel
theorem k_174_297 : hm_code 174 297 = some (.iaload) := by decide +kernel
theorem k_174_298 : hm_code 174 298 = some (.invokevirtual 34) := by decide +kernel
theorem k_174_301 : hm_code 174 301 = some (.aload_n 2) := by decide +kernel
theorem k_174_302 : hm_code 174 302 = some (.aload_n 0) := by decide +kernel
theorem k_174_303 : hm_code 174 303 = some (.iload_n 3) := by decide +kernel
theorem k_174_304 : hm_code 174 304 = some (.iconst 1) := by decide +kernel
theorem k_174_305 : hm_code 174 305 = some (.iadd) := by decide +kernel
theorem k_174_306 : hm_code 174 306 = some (.iaload) := by decide +kernel
theorem k_174_307 : hm_code 174 307 = some (.invokevirtual 37) := by decide +kernel
theorem k_174_310 : hm_code 174 310 = some (.if_icmp .eq 609) := by decide +kernel
theorem k_174_313 : hm_code 174 313 = some (.iconst 0) := by decide +kernel
theorem k_174_314 : hm_code 174 314 = some (.ireturn) := by decide +kernel
theorem k_174_315 : hm_code 174 315 = some (.aload_n 1) := by decide +kernel
theorem k_174_316 : hm_code 174 316 = some (.invokevirtual 38) := by decide +kernel
theorem k_174_319 : hm_code 174 319 = some (.aload_n 2) := by decide +kernel
theorem k_174_320 : hm_code 174 320 = some (.invokevirtual 42) := by decide +kernel
theorem k_174_323 : hm_code 174 323 = some (.if_icmp .eq 596) := by decide +kernel
theorem k_174_326 : hm_code 174 326 = some (.iconst 0) := by decide +kernel
theorem k_174_327 : hm_code 174 327 = some (.ireturn) := by decide +kernel
theorem k_174_328 : hm_code 174 328 = some (.aload_n 1) := by decide +kernel
theorem k_174_329 : hm_code 174 329 = some (.aload_n 0) := by decide +kernel
theorem k_174_330 : hm_code 174 330 = some (.iload_n 3) := by decide +kernel
theorem k_174_331 : hm_code 174 331 = some (.iconst 1) := by decide +kernel
theorem k_174_332 : hm_code 174 332 = some (.iadd) := by decide +kernel
theorem k_174_333 : hm_code 174 333 = some (.iaload) := by decide +kernel
theorem k_174_334 : hm_code 174 334 = some (.aload_n 0) := by decide +kernel
theorem k_174_335 : hm_code 174 335 = some (.iload_n 3) := by decide +kernel
theorem k_174_336 : hm_code 174 336 = some (.iconst 2) := by decide +kernel
theorem k_174_337 : hm_code 174 337 = some (.iadd) := by decide +kernel
theorem k_174_338 : hm_code 174 338 = some (.iaload) := by decide +kernel
theorem k_174_339 : hm_code 174 339 = some (.aload_n 0) := by decide +kernel
theorem k_174_340 : hm_code 174 340 = some (.iload_n 3) := by decide +kernel
theorem k_174_341 : hm_code 174 341 = some (.iconst 3) := by decide +kernel
theorem k_174_342 : hm_code 174 342 = some (.iadd) := by decide +kernel
theorem k_174_343 : hm_code 174 343 = some (.iaload) := by decide +kernel
theorem k_174_344 : hm_code 174 344 = some (.invokevirtual 43) := by decide +kernel
theorem k_174_347 : hm_code 174 347 = some (.aload_n 2) := by decide +kernel
theorem k_174_348 : hm_code 174 348 = some (.aload_n 0) := by decide +kernel
theorem k_174_349 : hm_code 174 349 = some (.iload_n 3) := by decide +kernel
theorem k_174_350 : hm_code 174 350 = some (.iconst 1) := by decide +kernel
theorem k_174_351 : hm_code 174 351 = some (.iadd) := by decide +kernel
theorem k_174_352 : hm_code 174 352 = some (.iaload) := by decide +kernel
theorem k_174_353 : hm_code 174 353 = some (.aload_n 0) := by decide +kernel
theorem k_174_354 : hm_code 174 354 = some (.iload_n 3) := by decide +kernel
theorem k_174_355 : hm_code 174 355 = some (.iconst 2) := by decide +kernel
theorem k_174_356 : hm_code 174 356 = some (.iadd) := by decide +kernel
theorem k_174_357 : hm_code 174 357 = some (.iaload) := by decide +kernel
theorem k_174_358 : hm_code 174 358 = some (.aload_n 0) := by decide +kernel
theorem k_174_359 : hm_code 174 359 = some (.iload_n 3) := by decide +kernel
theorem k_174_360 : hm_code 174 360 = some (.iconst 3) := by decide +kernel
theorem k_174_361 : hm_code 174 361 = some (.iadd) := by decide +kernel
theorem k_174_362 : hm_code 174 362 = some (.iaload) := by decide +kernel
theorem k_174_363 : hm_code 174 363 = some (.invokevirtual 47) := by decide +kernel
theorem k_174_366 : hm_code 174 366 = some (.if_icmp .eq 553) := by decide +kernel
theorem k_174_369 : hm_code 174 369 = some (.iconst 0) := by decide +kernel
theorem k_174_370 : hm_code 174 370 = some (.ireturn) := by decide +kernel
theorem k_174_371 : hm_code 174 371 = some (.aload_n 1) := by decide +kernel
theorem k_174_372 : hm_code 174 372 = some (.aload_n 0) := by decide +kernel
theorem k_174_373 : hm_code 174 373 = some (.iload_n 3) := by decide +kernel
theorem k_174_374 : hm_code 174 374 = some (.iconst 1) := by decide +kernel
theorem k_174_375 : hm_code 174 375 = some (.iadd) := by decide +kernel
theorem k_174_376 : hm_code 174 376 = some (.iaload) := by decide +kernel
theorem k_174_377 : hm_code 174 377 = some (.aload_n 0) := by decide +kernel
theorem k_174_378 : hm_code 174 378 = some (.iload_n 3) := by decide +kernel
theorem k_174_379 : hm_code 174 379 = some (.iconst 2) := by decide +kernel
theorem k_174_380 : hm_code 174 380 = some (.iadd) := by decide +kernel
theorem k_174_381 : hm_code 174 381 = some (.iaload) := by decide +kernel
theorem k_174_382 : hm_code 174 382 = some (.aload_n 0) := by decide +kernel
theorem k_174_383 : hm_code 174 383 = some (.iload_n 3) := by decide +kernel
theorem k_174_384 : hm_code 174 384 = some (.iconst 3) := by decide +kernel
theorem k_174_385 : hm_code 174 385 = some (.iadd) := by decide +kernel
theorem k_174_386 : hm_code 174 386 = some (.iaload) := by decide +kernel
theorem k_174_387 : hm_code 174 387 = some (.aload_n 0) := by decide +kernel
theorem k_174_388 : hm_code 174 388 = some (.iload_n 3) := by decide +kernel
theorem k_174_389 : hm_code 174 389 = some (.iconst 4) := by decide +kernel
theorem k_174_390 : hm_code 174 390 = some (.iadd) := by decide +kernel
theorem k_174_391 : hm_code 174 391 = some (.iaload) := by decide +kernel
theorem k_174_392 : hm_code 174 392 = some (.invokevirtual 48) := by decide +kernel
theorem k_174_395 : hm_code 174 395 = some (.aload_n 2) := by decide +kernel
theorem k_174_396 : hm_code 174 396 = some (.aload_n 0) := by decide +kernel
theorem k_174_397 : hm_code 174 397 = some (.iload_n 3) := by decide +kernel
theorem k_174_398 : hm_code 174 398 = some (.iconst 1) := by decide +kernel
theorem k_174_399 : hm_code 174 399 = some (.iadd) := by decide +kernel
theorem k_174_400 : hm_code 174 400 = some (.iaload) := by decide +kernel
theorem k_174_401 : hm_code 174 401 = some (.aload_n 0) := by decide +kernel
theorem k_174_402 : hm_code 174 402 = some (.iload_n 3) := by decide +kernel
theorem k_174_403 : hm_code 174 403 = some (.iconst 2) := by decide +kernel
theorem k_174_404 : hm_code 174 404 = some (.iadd) := by decide +kernel
theorem k_174_405 : hm_code 174 405 = some (.iaload) := by decide +kernel
theorem k_174_406 : hm_code 174 406 = some (.aload_n 0) := by decide +kernel
theorem k_174_407 : hm_code 174 407 = some (.iload_n 3) := by decide +kernel
theorem k_174_408 : hm_code 174 408 = some (.iconst 3) := by decide +kernel
theorem k_174_409 : hm_code 174 409 = some (.iadd) := by decide +kernel
theorem k_174_410 : hm_code 174 410 = some (.iaload) := by decide +kernel
theorem k_174_411 : hm_code 174 411 = some (.aload_n 0) := by decide +kernel
theorem k_174_412 : hm_code 174 412 = some (.iload_n 3) := by decide +kernel
theorem k_174_413 : hm_code 174 413 = some (.iconst 4) := by decide +kernel
theorem k_174_414 : hm_code 174 414 = some (.iadd) := by decide +kernel
theorem k_174_415 : hm_code 174 415 = some (.iaload) := by decide +kernel
theorem k_174_416 : hm_code 174 416 = some (.invokevirtual 52) := by decide +kernel
theorem k_174_419 : hm_code 174 419 = some (.if_icmp .eq 500) := by decide +kernel
theorem k_174_422 : hm_code 174 422 = some (.iconst 0) := by decide +kernel
theorem k_174_423 : hm_code 174 423 = some (.ireturn) := by decide +kernel
theorem k_174_424 : hm_code 174 424 = some (.aload_n 1) := by decide +kernel
theorem k_174_425 : hm_code 174 425 = some (.aload_n 0) := by decide +kernel
theorem k_174_426 : hm_code 174 426 = some (.iload_n 3) := by decide +kernel
theorem k_174_427 : hm_code 174 427 = some (.iconst 1) := by decide +kernel
theorem k_174_428 : hm_code 174 428 = some (.iadd) := by decide +kernel
theorem k_174_429 : hm_code 174 429 = some (.iaload) := by decide +kernel
theorem k_174_430 : hm_code 174 430 = some (.aload_n 0) := by decide +kernel
theorem k_174_431 : hm_code 174 431 = some (.iload_n 3) := by decide +kernel
theorem k_174_432 : hm_code 174 432 = some (.iconst 2) := by decide +kernel
theorem k_174_433 : hm_code 174 433 = some (.iadd) := by decide +kernel
theorem k_174_434 : hm_code 174 434 = some (.iaload) := by decide +kernel
theorem k_174_435 : hm_code 174 435 = some (.aload_n 0) := by decide +kernel
theorem k_174_436 : hm_code 174 436 = some (.iload_n 3) := by decide +kernel
theorem k_174_437 : hm_code 174 437 = some (.iconst 3) := by decide +kernel
theorem k_174_438 : hm_code 174 438 = some (.iadd) := by decide +kernel
theorem k_174_439 : hm_code 174 439 = some (.iaload) := by decide +kernel
theorem k_174_440 : hm_code 174 440 = some (.invokevirtual 53) := by decide +kernel
theorem k_174_443 : hm_code 174 443 = some (.aload_n 2) := by decide +kernel
theorem k_174_444 : hm_code 174 444 = some (.aload_n 0) := by decide +kernel
theorem k_174_445 : hm_code 174 445 = some (.iload_n 3) := by decide +kernel
theorem k_174_446 : hm_code 174 446 = some (.iconst 1) := by decide +kernel
theorem k_174_447 : hm_code 174 447 = some (.iadd) := by decide +kernel
theorem k_174_448 : hm_code 174 448 = some (.iaload) := by decide +kernel
theorem k_174_449 : hm_code 174 449 = some (.aload_n 0) := by decide +kernel
theorem k_174_450 : hm_code 174 450 = some (.iload_n 3) := by decide +kernel
theorem k_174_451 : hm_code 174 451 = some (.iconst 2) := by decide +kernel
theorem k_174_452 : hm_code 174 452 = some (.iadd) := by decide +kernel
theorem k_174_453 : hm_code 174 453 = some (.iaload) := by decide +kernel
theorem k_174_454 : hm_code 174 454 = some (.aload_n 0) := by decide +kernel
theorem k_174_455 : hm_code 174 455 = some (.iload_n 3) := by decide +kernel
theorem k_174_456 : hm_code 174 456 = some (.iconst 3) := by decide +kernel
theorem k_174_457 : hm_code 174 457 = some (.iadd) := by decide +kernel
theorem k_174_458 : hm_code 174 458 = some (.iaload) := by decide +kernel
theorem k_174_459 : hm_code 174 459 = some (.invokevirtual 56) := by decide +kernel
theorem k_174_462 : hm_code 174 462 = some (.if_icmp .eq 457) := by decide +kernel
theorem k_174_465 : hm_code 174 465 = some (.iconst 0) := by decide +kernel
theorem k_174_466 : hm_code 174 466 = some (.ireturn) := by decide +kernel
theorem k_174_467 : hm_code 174 467 = some (.aload_n 1) := by decide +kernel
theorem k_174_468 : hm_code 174 468 = some (.aload_n 0) := by decide +kernel
theorem k_174_469 : hm_code 174 469 = some (.iload_n 3) := by decide +kernel
theorem k_174_470 : hm_code 174 470 = some (.iconst 1) := by decide +kernel
theorem k_174_471 : hm_code 174 471 = some (.iadd) := by decide +kernel
theorem k_174_472 : hm_code 174 472 = some (.iaload) := by decide +kernel
theorem k_174_473 : hm_code 174 473 = some (.aload_n 0) := by decide +kernel
theorem k_174_474 : hm_code 174 474 = some (.iload_n 3) := by decide +kernel
theorem k_174_475 : hm_code 174 475 = some (.iconst 2) := by decide +kernel
theorem k_174_476 : hm_code 174 476 = some (.iadd) := by decide +kernel
theorem k_174_477 : hm_code 174 477 = some (.iaload) := by decide +kernel
theorem k_174_478 : hm_code 174 478 = some (.aload_n 0) := by decide +kernel
theorem k_174_479 : hm_code 174 479 = some (.iload_n 3) := by decide +kernel
theorem k_174_480 : hm_code 174 480 = some (.iconst 3) := by decide +kernel
theorem k_174_481 : hm_code 174 481 = some (.iadd) := by decide +kernel
theorem k_174_482 : hm_code 174 482 = some (.iaload) := by decide +kernel
theorem k_174_483 : hm_code 174 483 = some (.invokevirtual 57) := by decide +kernel
theorem k_174_486 : hm_code 174 486 = some (.aload_n 2) := by decide +kernel
theorem k_174_487 : hm_code 174 487 = some (.aload_n 0) := by decide +kernel
theorem k_174_488 : hm_code 174 488 = some (.iload_n 3) := by decide +kernel
theorem k_174_489 : hm_code 174 489 = some (.iconst 1) := by decide +kernel
theorem k_174_490 : hm_code 174 490 = some (.iadd) := by decide +kernel
theorem k_174_491 : hm_code 174 491 = some (.iaload) := by decide +kernel
theorem k_174_492 : hm_code 174 492 = some (.aload_n 0) := by decide +kernel
theorem k_174_493 : hm_code 174 493 = some (.iload_n 3) := by decide +kernel
theorem k_174_494 : hm_code 174 494 = some (.iconst 2) := by decide +kernel
theorem k_174_495 : hm_code 174 495 = some (.iadd) := by decide +kernel
theorem k_174_496 : hm_code 174 496 = some (.iaload) := by decide +kernel
theorem k_174_497 : hm_code 174 497 = some (.aload_n 0) := by decide +kernel
theorem k_174_498 : hm_code 174 498 = some (.iload_n 3) := by decide +kernel
theorem k_174_499 : hm_code 174 499 = some (.iconst 3) := by decide +kernel
theorem k_174_500 : hm_code 174 500 = some (.iadd) := by decide +kernel
theorem k_174_501 : hm_code 174 501 = some (.iaload) := by decide +kernel
theorem k_174_502 : hm_code 174 502 = some (.invokevirtual 60) := by decide +kernel
theorem k_174_505 : hm_code 174 505 = some (.if_icmp .eq 414) := by decide +kernel
theorem k_174_508 : hm_code 174 508 = some (.iconst 0) := by decide +kernel
theorem k_174_509 : hm_code 174 509 = some (.ireturn) := by decide +kernel
theorem k_174_510 : hm_code 174 510 = some (.aload_n 1) := by decide +kernel
theorem k_174_511 : hm_code 174 511 = some (.aload_n 0) := by decide +kernel
theorem k_174_512 : hm_code 174 512 = some (.iload_n 3) := by decide +kernel
theorem k_174_513 : hm_code 174 513 = some (.iconst 1) := by decide +kernel
theorem k_174_514 : hm_code 174 514 = some (.iadd) := by decide +kernel
theorem k_174_515 : hm_code 174 515 = some (.iaload) := by decide +kernel
theorem k_174_516 : hm_code 174 516 = some (.aload_n 0) := by decide +kernel
theorem k_174_517 : hm_code 174 517 = some (.iload_n 3) := by decide +kernel
theorem k_174_518 : hm_code 174 518 = some (.iconst 2) := by decide +kernel
theorem k_174_519 : hm_code 174 519 = some (.iadd) := by decide +kernel
theorem k_174_520 : hm_code 174 520 = some (.iaload) := by decide +kernel
theorem k_174_521 : hm_code 174 521 = some (.aload_n 0) := by decide +kernel
theorem k_174_522 : hm_code 174 522 = some (.iload_n 3) := by decide +kernel
theorem k_174_523 : hm_code 174 523 = some (.iconst 3) := by decide +kernel
theorem k_174_524 : hm_code 174 524 = some (.iadd) := by decide +kernel
theorem k_174_525 : hm_code 174 525 = some (.iaload) := by decide +kernel
theorem k_174_526 : hm_code 174 526 = some (.invokevirtual 61) := by decide +kernel
theorem k_174_529 : hm_code 174 529 = some (.aload_n 2) := by decide +kernel
theorem k_174_530 : hm_code 174 530 = some (.aload_n 0) := by decide +kernel
theorem k_174_531 : hm_code 174 531 = some (.iload_n 3) := by decide +kernel
theorem k_174_532 : hm_code 174 532 = some (.iconst 1) := by decide +kernel
theorem k_174_533 : hm_code 174 533 = some (.iadd) := by decide +kernel
theorem k_174_534 : hm_code 174 534 = some (.iaload) := by decide +kernel
theorem k_174_535 : hm_code 174 535 = some (.aload_n 0) := by decide +kernel
theorem k_174_536 : hm_code 174 536 = some (.iload_n 3) := by decide +kernel
theorem k_174_537 : hm_code 174 537 = some (.iconst 2) := by decide +kernel
theorem k_174_538 : hm_code 174 538 = some (.iadd) := by decide +kernel
theorem k_174_539 : hm_code 174 539 = some (.iaload) := by decide +kernel
theorem k_174_540 : hm_code 174 540 = some (.aload_n 0) := by decide +kernel
theorem k_174_541 : hm_code 174 541 = some (.iload_n 3) := by decide +kernel
theorem k_174_542 : hm_code 174 542 = some (.iconst 3) := by decide +kernel
theorem k_174_543 : hm_code 174 543 = some (.iadd) := by decide +kernel
theorem k_174_544 : hm_code 174 544 = some (.iaload) := by decide +kernel
theorem k_174_545 : hm_code 174 545 = some (.invokevirtual 64) := by decide +kernel
theorem k_174_548 : hm_code 174 548 = some (.if_icmp .eq 371) := by decide +kernel
theorem k_174_551 : hm_code 174 551 = some (.iconst 0) := by decide +kernel
theorem k_174_552 : hm_code 174 552 = some (.ireturn) := by decide +kernel
theorem k_174_553 : hm_code 174 553 = some (.aload_n 1) := by decide +kernel
theorem k_174_554 : hm_code 174 554 = some (.aload_n 0) := by decide +kernel
theorem k_174_555 : hm_code 174 555 = some (.iload_n 3) := by decide +kernel
theorem k_174_556 : hm_code 174 556 = some (.iconst 1) := by decide +kernel
theorem k_174_557 : hm_code 174 557 = some (.iadd) := by decide +kernel
theorem k_174_558 : hm_code 174 558 = some (.iaload) := by decide +kernel
theorem k_174_559 : hm_code 174 559 = some (.aload_n 0) := by decide +kernel
theorem k_174_560 : hm_code 174 560 = some (.iload_n 3) := by decide +kernel
theorem k_174_561 : hm_code 174 561 = some (.iconst 2) := by decide +kernel
theorem k_174_562 : hm_code 174 562 = some (.iadd) := by decide +kernel
theorem k_174_563 : hm_code 174 563 = some (.iaload) := by decide +kernel
theorem k_174_564 : hm_code 174 564 = some (.aload_n 0) := by decide +kernel
theorem k_174_565 : hm_code 174 565 = some (.iload_n 3) := by decide +kernel
theorem k_174_566 : hm_code 174 566 = some (.iconst 3) := by decide +kernel
theorem k_174_567 : hm_code 174 567 = some (.iadd) := by decide +kernel
theorem k_174_568 : hm_code 174 568 = some (.iaload) := by decide +kernel
theorem k_174_569 : hm_code 174 569 = some (.invokevirtual 65) := by decide +kernel
theorem k_174_572 : hm_code 174 572 = some (.aload_n 2) := by decide +kernel
theorem k_174_573 : hm_code 174 573 = some (.aload_n 0) := by decide +kernel
theorem k_174_574 : hm_code 174 574 = some (.iload_n 3) := by decide +kernel
theorem k_174_575 : hm_code 174 575 = some (.iconst 1) := by decide +kernel
theorem k_174_576 : hm_code 174 576 = some (.iadd) := by decide +kernel
theorem k_174_577 : hm_code 174 577 = some (.iaload) := by decide +kernel
theorem k_174_578 : hm_code 174 578 = some (.aload_n 0) := by decide +kernel
theorem k_174_579 : hm_code 174 579 = some (.iload_n 3) := by decide +kernel
theorem k_174_580 : hm_code 174 580 = some (.iconst 2) := by decide +kernel
theorem k_174_581 : hm_code 174 581 = some (.iadd) := by decide +kernel
theorem k_174_582 : hm_code 174 582 = some (.iaload) := by decide +kernel
theorem k_174_583 : hm_code 174 583 = some (.aload_n 0) := by decide +kernel
theorem k_174_584 : hm_code 174 584 = some (.iload_n 3) := by decide +kernel
theorem k_174_585 : hm_code 174 585 = some (.iconst 3) := by decide +kernel
theorem k_174_586 : hm_code 174 586 = some (.iadd) := by decide +kernel
theorem k_174_587 : hm_code 174 587 = some (.iaload) := by decide +kernel
theorem k_174_588 : hm_code 174 588 = some (.invokevirtual 68) := by decide +kernel
theorem k_174_591 : hm_code 174 591 = some (.if_icmp .eq 328) := by decide +kernel
theorem k_174_594 : hm_code 174 594 = some (.iconst 0) := by decide +kernel
theorem k_174_595 : hm_code 174 595 = some (.ireturn) := by decide +kernel
theorem k_174_596 : hm_code 174 596 = some (.aload_n 1) := by decide +kernel
theorem k_174_597 : hm_code 174 597 = some (.aload_n 0) := by decide +kernel
theorem k_174_598 : hm_code 174 598 = some (.iload_n 3) := by decide +kernel
theorem k_174_599 : hm_code 174 599 = some (.iconst 1) := by decide +kernel
theorem k_174_600 : hm_code 174 600 = some (.iadd) := by decide +kernel
theorem k_174_601 : hm_code 174 601 = some (.iaload) := by decide +kernel
theorem k_174_602 : hm_code 174 602 = some (.aload_n 0) := by decide +kernel
theorem k_174_603 : hm_code 174 603 = some (.iload_n 3) := by decide +kernel
theorem k_174_604 : hm_code 174 604 = some (.iconst 2) := by decide +kernel
theorem k_174_605 : hm_code 174 605 = some (.iadd) := by decide +kernel
theorem k_174_606 : hm_code 174 606 = some (.iaload) := by decide +kernel
theorem k_174_607 : hm_code 174 607 = some (.invokevirtual 69) := by decide +kernel
theorem k_174_610 : hm_code 174 610 = some (.aload_n 2) := by decide +kernel
theorem k_174_611 : hm_code 174 611 = some (.aload_n 0) := by decide +kernel
theorem k_174_612 : hm_code 174 612 = some (.iload_n 3) := by decide +kernel
theorem k_174_613 : hm_code 174 613 = some (.iconst 1) := by decide +kernel
theorem k_174_614 : hm_code 174 614 = some (.iadd) := by decide +kernel
theorem k_174_615 : hm_code 174 615 = some (.iaload) := by decide +kernel
theorem k_174_616 : hm_code 174 616 = some (.aload_n 0) := by decide +kernel
theorem k_174_617 : hm_code 174 617 = some (.iload_n 3) := by decide +kernel
theorem k_174_618 : hm_code 174 618 = some (.iconst 2) := by decide +kernel
theorem k_174_619 : hm_code 174 619 = some (.iadd) := by decide +kernel
theorem k_174_620 : hm_code 174 620 = some (.iaload) := by decide +kernel
theorem k_174_621 : hm_code 174 621 = some (.invokevirtual 72) := by decide +kernel
theorem k_174_624 : hm_code 174 624 = some (.if_icmp .eq 295) := by decide +kernel
theorem k_174_627 : hm_code 174 627 = some (.iconst 0) := by decide +kernel
theorem k_174_628 : hm_code 174 628 = some (.ireturn) := by decide +kernel
theorem k_174_629 : hm_code 174 629 = some (.aload_n 1) := by decide +kernel
theorem k_174_630 : hm_code 174 630 = some (.aload_n 0) := by decide +kernel
theorem k_174_631 : hm_code 174 631 = some (.iload_n 3) := by decide +kernel
theorem k_174_632 : hm_code 174 632 = some (.iconst 1) := by decide +kernel
theorem k_174_633 : hm_code 174 633 = some (.iadd) := by decide +kernel
theorem k_174_634 : hm_code 174 634 = some (.iaload) := by decide +kernel
theorem k_174_635 : hm_code 174 635 = some (.aload_n 0) := by decide +kernel
theorem k_174_636 : hm_code 174 636 = some (.iload_n 3) := by decide +kernel
theorem k_174_637 : hm_code 174 637 = some (.iconst 2) := by decide +kernel
theorem k_174_638 : hm_code 174 638 = some (.iadd) := by decide +kernel
theorem k_174_639 : hm_code 174 639 = some (.iaload) := by decide +kernel
theorem k_174_640 : hm_code 174 640 = some (.aload_n 0) := by decide +kernel
theorem k_174_641 : hm_code 174 641 = some (.iload_n 3) := by decide +kernel
theorem k_174_642 : hm_code 174 642 = some (.iconst 3) := by decide +kernel
theorem k_174_643 : hm_code 174 643 = some (.iadd) := by decide +kernel
theorem k_174_644 : hm_code 174 644 = some (.iaload) := by decide +kernel
theorem k_174_645 : hm_code 174 645 = some (.invokevirtual 73) := by decide +kernel
theorem k_174_648 : hm_code 174 648 = some (.aload_n 2) := by decide +kernel
theorem k_174_649 : hm_code 174 649 = some (.aload_n 0) := by decide +kernel
theorem k_174_650 : hm_code 174 650 = some (.iload_n 3) := by decide +kernel
theorem k_174_651 : hm_code 174 651 = some (.iconst 1) := by decide +kernel
theorem k_174_652 : hm_code 174 652 = some (.iadd) := by decide +kernel
theorem k_174_653 : hm_code 174 653 = some (.iaload) := by decide +kernel
theorem k_174_654 : hm_code 174 654 = some (.aload_n 0) := by decide +kernel
theorem k_174_655 : hm_code 174 655 = some (.iload_n 3) := by decide +kernel
theorem k_174_656 : hm_code 174 656 = some (.iconst 2) := by decide +kernel
theorem k_174_657 : hm_code 174 657 = some (.iadd) := by decide +kernel
theorem k_174_658 : hm_code 174 658 = some (.iaload) := by decide +kernel
theorem k_174_659 : hm_code 174 659 = some (.aload_n 0) := by decide +kernel
theorem k_174_660 : hm_code 174 660 = some (.iload_n 3) := by decide +kernel
theorem k_174_661 : hm_code 174 661 = some (.iconst 3) := by decide +kernel
theorem k_174_662 : hm_code 174 662 = some (.iadd) := by decide +kernel
theorem k_174_663 : hm_code 174 663 = some (.iaload) := by decide +kernel
theorem k_174_664 : hm_code 174 664 = some (.invokevirtual 76) := by decide +kernel
theorem k_174_667 : hm_code 174 667 = some (.if_icmp .eq 252) := by decide +kernel
theorem k_174_670 : hm_code 174 670 = some (.iconst 0) := by decide +kernel
theorem k_174_671 : hm_code 174 671 = some (.ireturn) := by decide +kernel
theorem k_174_672 : hm_code 174 672 = some (.aload_n 1) := by decide +kernel
theorem k_174_673 : hm_code 174 673 = some (.aload_n 0) := by decide +kernel
theorem k_174_674 : hm_code 174 674 = some (.iload_n 3) := by decide +kernel
theorem k_174_675 : hm_code 174 675 = some (.iconst 1) := by decide +kernel
theorem k_174_676 : hm_code 174 676 = some (.iadd) := by decide +kernel
theorem k_174_677 : hm_code 174 677 = some (.iaload) := by decide +kernel
theorem k_174_678 : hm_code 174 678 = some (.aload_n 0) := by decide +kernel
theorem k_174_679 : hm_code 174 679 = some (.iload_n 3) := by decide +kernel
theorem k_174_680 : hm_code 174 680 = some (.iconst 2) := by decide +kernel
theorem k_174_681 : hm_code 174 681 = some (.iadd) := by decide +kernel
theorem k_174_682 : hm_code 174 682 = some (.iaload) := by decide +kernel
theorem k_174_683 : hm_code 174 683 = some (.invokevirtual 77) := by decide +kernel
theorem k_174_686 : hm_code 174 686 = some (.aload_n 2) := by decide +kernel
theorem k_174_687 : hm_code 174 687 = some (.aload_n 0) := by decide +kernel
theorem k_174_688 : hm_code 174 688 = some (.iload_n 3) := by decide +kernel
theorem k_174_689 : hm_code 174 689 = some (.iconst 1) := by decide +kernel
theorem k_174_690 : hm_code 174 690 = some (.iadd) := by decide +kernel
theorem k_174_691 : hm_code 174 691 = some (.iaload) := by decide +kernel
theorem k_174_692 : hm_code 174 692 = some (.aload_n 0) := by decide +kernel
theorem k_174_693 : hm_code 174 693 = some (.iload_n 3) := by decide +kernel
theorem k_174_694 : hm_code 174 694 = some (.iconst 2) := by decide +kernel
theorem k_174_695 : hm_code 174 695 = some (.iadd) := by decide +kernel
theorem k_174_696 : hm_code 174 696 = some (.iaload) := by decide +kernel
theorem k_174_697 : hm_code 174 697 = some (.invokevirtual 80) := by decide +kernel
theorem k_174_700 : hm_code 174 700 = some (.if_icmp .eq 219) := by decide +kernel
theorem k_174_703 : hm_code 174 703 = some (.iconst 0) := by decide +kernel
theorem k_174_704 : hm_code 174 704 = some (.ireturn) := by decide +kernel
theorem k_174_705 : hm_code 174 705 = some (.aload_n 1) := by decide +kernel
theorem k_174_706 : hm_code 174 706 = some (.aload_n 0) := by decide +kernel
theorem k_174_707 : hm_code 174 707 = some (.iload_n 3) := by decide +kernel
theorem k_174_708 : hm_code 174 708 = some (.iconst 1) := by decide +kernel
theorem k_174_709 : hm_code 174 709 = some (.iadd) := by decide +kernel
theorem k_174_710 : hm_code 174 710 = some (.iaload) := by decide +kernel
theorem k_174_711 : hm_code 174 711 = some (.invokevirtual 81) := by decide +kernel
theorem k_174_714 : hm_code 174 714 = some (.aload_n 2) := by decide +kernel
theorem k_174_715 : hm_code 174 715 = some (.aload_n 0) := by decide +kernel
theorem k_174_716 : hm_code 174 716 = some (.iload_n 3) := by decide +kernel
theorem k_174_717 : hm_code 174 717 = some (.iconst 1) := by decide +kernel
theorem k_174_718 : hm_code 174 718 = some (.iadd) := by decide +kernel
theorem k_174_719 : hm_code 174 719 = some (.iaload) := by decide +kernel
theorem k_174_720 : hm_code 174 720 = some (.invokevirtual 84) := by decide +kernel
theorem k_174_723 : hm_code 174 723 = some (.if_icmp .eq 196) := by decide +kernel
theorem k_174_726 : hm_code 174 726 = some (.iconst 0) := by decide +kernel
theorem k_174_727 : hm_code 174 727 = some (.ireturn) := by decide +kernel
theorem k_174_728 : hm_code 174 728 = some (.aload_n 1) := by decide +kernel
theorem k_174_729 : hm_code 174 729 = some (.aload_n 0) := by decide +kernel
theorem k_174_730 : hm_code 174 730 = some (.iload_n 3) := by decide +kernel
theorem k_174_731 : hm_code 174 731 = some (.iconst 1) := by decide +kernel
theorem k_174_732 : hm_code 174 732 = some (.iadd) := by decide +kernel
theorem k_174_733 : hm_code 174 733 = some (.iaload) := by decide +kernel
theorem k_174_734 : hm_code 174 734 = some (.invokevirtual 85) := by decide +kernel
theorem k_174_737 : hm_code 174 737 = some (.aload_n 2) := by decide +kernel
theorem k_174_738 : hm_code 174 738 = some (.aload_n 0) := by decide +kernel
theorem k_174_739 : hm_code 174 739 = some (.iload_n 3) := by decide +kernel
theorem k_174_740 : hm_code 174 740 = some (.iconst 1) := by decide +kernel
theorem k_174_741 : hm_code 174 741 = some (.iadd) := by decide +kernel
theorem k_174_742 : hm_code 174 742 = some (.iaload) := by decide +kernel
theorem k_174_743 : hm_code 174 743 = some (.invokevirtual 88) := by decide +kernel
theorem k_174_746 : hm_code 174 746 = some (.if_icmp .eq 173) := by decide +kernel
theorem k_174_749 : hm_code 174 749 = some (.iconst 0) := by decide +kernel
theorem k_174_750 : hm_code 174 750 = some (.ireturn) := by decide +kernel
theorem k_174_751 : hm_code 174 751 = some (.aload_n 1) := by decide +kernel
theorem k_174_752 : hm_code 174 752 = some (.aload_n 0) := by decide +kernel
theorem k_174_753 : hm_code 174 753 = some (.iload_n 3) := by decide +kernel
theorem k_174_754 : hm_code 174 754 = some (.iconst 1) := by decide +kernel
theorem k_174_755 : hm_code 174 755 = some (.iadd) := by decide +kernel
theorem k_174_756 : hm_code 174 756 = some (.iaload) := by decide +kernel
theorem k_174_757 : hm_code 174 757 = some (.aload_n 0) := by decide +kernel
theorem k_174_758 : hm_code 174 758 = some (.iload_n 3) := by decide +kernel
theorem k_174_759 : hm_code 174 759 = some (.iconst 2) := by decide +kernel
theorem k_174_760 : hm_code 174 760 = some (.iadd) := by decide +kernel
theorem k_174_761 : hm_code 174 761 = some (.iaload) := by decide +kernel
theorem k_174_762 : hm_code 174 762 = some (.invokevirtual 89) := by decide +kernel
theorem k_174_765 : hm_code 174 765 = some (.aload_n 2) := by decide +kernel
theorem k_174_766 : hm_code 174 766 = some (.aload_n 0) := by decide +kernel
theorem k_174_767 : hm_code 174 767 = some (.iload_n 3) := by decide +kernel
theorem k_174_768 : hm_code 174 768 = some (.iconst 1) := by decide +kernel
theorem k_174_769 : hm_code 174 769 = some (.iadd) := by decide +kernel
theorem k_174_770 : hm_code 174 770 = some (.iaload) := by decide +kernel
theorem k_174_771 : hm_code 174 771 = some (.aload_n 0) := by decide +kernel
theorem k_174_772 : hm_code 174 772 = some (.iload_n 3) := by decide +kernel
theorem k_174_773 : hm_code 174 773 = some (.iconst 2) := by decide +kernel
theorem k_174_774 : hm_code 174 774 = some (.iadd) := by decide +kernel
theorem k_174_775 : hm_code 174 775 = some (.iaload) := by decide +kernel
theorem k_174_776 : hm_code 174 776 = some (.invokevirtual 92) := by decide +kernel
theorem k_174_779 : hm_code 174 779 = some (.if_icmp .eq 140) := by decide +kernel
theorem k_174_782 : hm_code 174 782 = some (.iconst 0) := by decide +kernel
theorem k_174_783 : hm_code 174 783 = some (.ireturn) := by decide +kernel
theorem k_174_784 : hm_code 174 784 = some (.aload_n 1) := by decide +kernel
theorem k_174_785 : hm_code 174 785 = some (.aload_n 0) := by decide +kernel
theorem k_174_786 : hm_code 174 786 = some (.iload_n 3) := by decide +kernel
theorem k_174_787 : hm_code 174 787 = some (.iconst 1) := by decide +kernel
theorem k_174_788 : hm_code 174 788 = some (.iadd) := by decide +kernel
theorem k_174_789 : hm_code 174 789 = some (.iaload) := by decide +kernel
theorem k_174_790 : hm_code 174 790 = some (.invokevirtual 93) := by decide +kernel
theorem k_174_793 : hm_code 174 793 = some (.aload_n 2) := by decide +kernel
theorem k_174_794 : hm_code 174 794 = some (.aload_n 0) := by decide +kernel
theorem k_174_795 : hm_code 174 795 = some (.iload_n 3) := by decide +kernel
theorem k_174_796 : hm_code 174 796 = some (.iconst 1) := by decide +kernel
theorem k_174_797 : hm_code 174 797 = some (.iadd) := by decide +kernel
theorem k_174_798 : hm_code 174 798 = some (.iaload) := by decide +kernel
theorem k_174_799 : hm_code 174 799 = some (.invokevirtual 96) := by decide +kernel
theorem k_174_802 : hm_code 174 802 = some (.if_icmp .eq 117) := by decide +kernel
theorem k_174_805 : hm_code 174 805 = some (.iconst 0) := by decide +kernel
theorem k_174_806 : hm_code 174 806 = some (.ireturn) := by decide +kernel
theorem k_174_807 : hm_code 174 807 = some (.aload_n 1) := by decide +kernel
theorem k_174_808 : hm_code 174 808 = some (.aload_n 0) := by decide +kernel
theorem k_174_809 : hm_code 174 809 = some (.iload_n 3) := by decide +kernel
theorem k_174_810 : hm_code 174 810 = some (.iconst 1) := by decide +kernel
theorem k_174_811 : hm_code 174 811 = some (.iadd) := by decide +kernel
theorem k_174_812 : hm_code 174 812 = some (.iaload) := by decide +kernel
theorem k_174_813 : hm_code 174 813 = some (.invokevirtual 97) := by decide +kernel
theorem k_174_816 : hm_code 174 816 = some (.aload_n 2) := by decide +kernel
theorem k_174_817 : hm_code 174 817 = some (.aload_n 0) := by decide +kernel
theorem k_174_818 : hm_code 174 818 = some (.iload_n 3) := by decide +kernel
theorem k_174_819 : hm_code 174 819 = some (.iconst 1) := by decide +kernel
theorem k_174_820 : hm_code 174 820 = some (.iadd) := by decide +kernel
theorem k_174_821 : hm_code 174 821 = some (.iaload) := by decide +kernel
theorem k_174_822 : hm_code 174 822 = some (.invokevirtual 100) := by decide +kernel
theorem k_174_825 : hm_code 174 825 = some (.if_icmp .eq 94) := by decide +kernel
theorem k_174_828 : hm_code 174 828 = some (.iconst 0) := by decide +kernel
theorem k_174_829 : hm_code 174 829 = some (.ireturn) := by decide +kernel
theorem k_174_830 : hm_code 174 830 = some (.aload_n 1) := by decide +kernel
theorem k_174_831 : hm_code 174 831 = some (.aload_n 0) := by decide +kernel
theorem k_174_832 : hm_code 174 832 = some (.iload_n 3) := by decide +kernel
theorem k_174_833 : hm_code 174 833 = some (.iconst 1) := by decide +kernel
theorem k_174_834 : hm_code 174 834 = some (.iadd) := by decide +kernel
theorem k_174_835 : hm_code 174 835 = some (.iaload) := by decide +kernel
theorem k_174_836 : hm_code 174 836 = some (.aload_n 0) := by decide +kernel
theorem k_174_837 : hm_code 174 837 = some (.iload_n 3) := by decide +kernel
theorem k_174_838 : hm_code 174 838 = some (.iconst 2) := by decide +kernel
theorem k_174_839 : hm_code 174 839 = some (.iadd) := by decide +kernel
theorem k_174_840 : hm_code 174 840 = some (.iaload) := by decide +kernel
theorem k_174_841 : hm_code 174 841 = some (.invokevirtual 101) := by decide +kernel
theorem k_174_844 : hm_code 174 844 = some (.aload_n 2) := by decide +kernel
theorem k_174_845 : hm_code 174 845 = some (.aload_n 0) := by decide +kernel
theorem k_174_846 : hm_code 174 846 = some (.iload_n 3) := by decide +kernel
theorem k_174_847 : hm_code 174 847 = some (.iconst 1) := by decide +kernel
theorem k_174_848 : hm_code 174 848 = some (.iadd) := by decide +kernel
theorem k_174_849 : hm_code 174 849 = some (.iaload) := by decide +kernel
theorem k_174_850 : hm_code 174 850 = some (.aload_n 0) := by decide +kernel
theorem k_174_851 : hm_code 174 851 = some (.iload_n 3) := by decide +kernel
theorem k_174_852 : hm_code 174 852 = some (.iconst 2) := by decide +kernel
theorem k_174_853 : hm_code 174 853 = some (.iadd) := by decide +kernel
theorem k_174_854 : hm_code 174 854 = some (.iaload) := by decide +kernel
theorem k_174_855 : hm_code 174 855 = some (.invokevirtual 104) := by decide +kernel
theorem k_174_858 : hm_code 174 858 = some (.if_icmp .eq 61) := by decide +kernel
theorem k_174_861 : hm_code 174 861 = some (.iconst 0) := by decide +kernel
theorem k_174_862 : hm_code 174 862 = some (.ireturn) := by decide +kernel
theorem k_174_863 : hm_code 174 863 = some (.aload_n 1) := by decide +kernel
theorem k_174_864 : hm_code 174 864 = some (.aload_n 0) := by decide +kernel
theorem k_174_865 : hm_code 174 865 = some (.iload_n 3) := by decide +kernel
theorem k_174_866 : hm_code 174 866 = some (.iconst 1) := by decide +kernel
theorem k_174_867 : hm_code 174 867 = some (.iadd) := by decide +kernel
theorem k_174_868 : hm_code 174 868 = some (.iaload) := by decide +kernel
theorem k_174_869 : hm_code 174 869 = some (.invokevirtual 105) := by decide +kernel
theorem k_174_872 : hm_code 174 872 = some (.aload_n 2) := by decide +kernel
theorem k_174_873 : hm_code 174 873 = some (.aload_n 0) := by decide +kernel
theorem k_174_874 : hm_code 174 874 = some (.iload_n 3) := by decide +kernel
theorem k_174_875 : hm_code 174 875 = some (.iconst 1) := by decide +kernel
theorem k_174_876 : hm_code 174 876 = some (.iadd) := by decide +kernel
theorem k_174_877 : hm_code 174 877 = some (.iaload) := by decide +kernel
theorem k_174_878 : hm_code 174 878 = some (.invokevirtual 108) := by decide +kernel
theorem k_174_881 : hm_code 174 881 = some (.if_icmp .eq 38) := by decide +kernel
theorem k_174_884 : hm_code 174 884 = some (.iconst 0) := by decide +kernel
theorem k_174_885 : hm_code 174 885 = some (.ireturn) := by decide +kernel
theorem k_174_886 : hm_code 174 886 = some (.aload_n 1) := by decide +kernel
theorem k_174_887 : hm_code 174 887 = some (.aload_n 0) := by decide +kernel
theorem k_174_888 : hm_code 174 888 = some (.iload_n 3) := by decide +kernel
theorem k_174_889 : hm_code 174 889 = some (.iconst 1) := by decide +kernel
theorem k_174_890 : hm_code 174 890 = some (.iadd) := by decide +kernel
theorem k_174_891 : hm_code 174 891 = some (.iaload) := by decide +kernel
theorem k_174_892 : hm_code 174 892 = some (.aload_n 0) := by decide +kernel
theorem k_174_893 : hm_code 174 893 = some (.iload_n 3) := by decide +kernel
theorem k_174_894 : hm_code 174 894 = some (.iconst 2) := by decide +kernel
theorem k_174_895 : hm_code 174 895 = some (.iadd) := by decide +kernel
theorem k_174_896 : hm_code 174 896 = some (.iaload) := by decide +kernel
theorem k_174_897 : hm_code 174 897 = some (.invokevirtual 109) := by decide +kernel
theorem k_174_900 : hm_code 174 900 = some (.aload_n 2) := by decide +kernel
theorem k_174_901 : hm_code 174 901 = some (.aload_n 0) := by decide +kernel
theorem k_174_902 : hm_code 174 902 = some (.iload_n 3) := by decide +kernel
theorem k_174_903 : hm_code 174 903 = some (.iconst 1) := by decide +kernel
theorem k_174_904 : hm_code 174 904 = some (.iadd) := by decide +kernel
theorem k_174_905 : hm_code 174 905 = some (.iaload) := by decide +kernel
theorem k_174_906 : hm_code 174 906 = some (.aload_n 0) := by decide +kernel
theorem k_174_907 : hm_code 174 907 = some (.iload_n 3) := by decide +kernel
theorem k_174_908 : hm_code 174 908 = some (.iconst 2) := by decide +kernel
theorem k_174_909 : hm_code 174 909 = some (.iadd) := by decide +kernel
theorem k_174_910 : hm_code 174 910 = some (.iaload) := by decide +kernel
theorem k_174_911 : hm_code 174 911 = some (.invokevirtual 112) := by decide +kernel
theorem k_174_914 : hm_code 174 914 = some (.if_icmp .eq 5) := by decide +kernel
theorem k_174_917 : hm_code 174 917 = some (.iconst 0) := by decide +kernel
theorem k_174_918 : hm_code 174 918 = some (.ireturn) := by decide +kernel
theorem k_174_919 : hm_code 174 919 = some (.iinc 3 5) := by decide +kernel
theorem k_174_922 : hm_code 174 922 = some (.goto (-904)) := by decide +kernel
theorem k_174_925 : hm_code 174 925 = some (.iconst 1) := by decide +kernel
theorem k_174_926 : hm_code 174 926 = some (.ireturn) := by decide +kernel
