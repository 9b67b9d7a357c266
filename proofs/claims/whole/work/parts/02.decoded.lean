theorem dL_law_0 : decode code 0 = .ok (.new 8, 3) := by decide +kernel
theorem dL_law_3 : decode code 3 = .ok (.dup, 1) := by decide +kernel
theorem dL_law_4 : decode code 4 = .ok (.aload_n 0, 1) := by decide +kernel
theorem dL_law_5 : decode code 5 = .ok (.iconst 0, 1) := by decide +kernel
theorem dL_law_6 : decode code 6 = .ok (.invokestatic 15, 3) := by decide +kernel
theorem dL_law_9 : decode code 9 = .ok (.i2l, 1) := by decide +kernel
theorem dL_law_10 : decode code 10 = .ok (.invokespecial 21, 3) := by decide +kernel
theorem dL_law_13 : decode code 13 = .ok (.astore_n 1, 1) := by decide +kernel
theorem dL_law_14 : decode code 14 = .ok (.new 24, 3) := by decide +kernel
theorem dL_law_17 : decode code 17 = .ok (.dup, 1) := by decide +kernel
theorem dL_law_18 : decode code 18 = .ok (.aload_n 0, 1) := by decide +kernel
theorem dL_law_19 : decode code 19 = .ok (.iconst 0, 1) := by decide +kernel
theorem dL_law_20 : decode code 20 = .ok (.invokestatic 15, 3) := by decide +kernel
theorem dL_law_23 : decode code 23 = .ok (.i2l, 1) := by decide +kernel
theorem dL_law_24 : decode code 24 = .ok (.invokespecial 26, 3) := by decide +kernel
theorem dL_law_27 : decode code 27 = .ok (.astore_n 2, 1) := by decide +kernel
theorem dL_law_28 : decode code 28 = .ok (.iconst 1, 1) := by decide +kernel
theorem dL_law_29 : decode code 29 = .ok (.newarray .long, 2) := by decide +kernel
theorem dL_law_31 : decode code 31 = .ok (.astore_n 3, 1) := by decide +kernel
theorem dL_law_32 : decode code 32 = .ok (.iconst 1, 1) := by decide +kernel
theorem dL_law_33 : decode code 33 = .ok (.istore 4, 2) := by decide +kernel
theorem dL_law_35 : decode code 35 = .ok (.iload 4, 2) := by decide +kernel
theorem dL_law_37 : decode code 37 = .ok (.aload_n 0, 1) := by decide +kernel
theorem dL_law_38 : decode code 38 = .ok (.arraylength, 1) := by decide +kernel
theorem dL_law_39 : decode code 39 = .ok (.bipush 6, 2) := by decide +kernel
theorem dL_law_41 : decode code 41 = .ok (.isub, 1) := by decide +kernel
theorem dL_law_42 : decode code 42 = .ok (.if_icmp .gt 706, 3) := by decide +kernel
theorem dL_law_45 : decode code 45 = .ok (.aload_n 0, 1) := by decide +kernel
theorem dL_law_46 : decode code 46 = .ok (.iload 4, 2) := by decide +kernel
theorem dL_law_48 : decode code 48 = .ok (.iaload, 1) := by decide +kernel
theorem dL_law_49 : decode code 49 = .ok (.bipush 15, 2) := by decide +kernel
theorem dL_law_51 : decode code 51 = .ok (.iand, 1) := by decide +kernel
theorem dL_law_52 : decode code 52 = .ok (.tableswitch 690 0 12 #[68, 81, 118, 167, 216, 254, 279, 340, 378, 431, 496, 521, 634], 68) := by decide +kernel
theorem dL_law_120 : decode code 120 = .ok (.aload_n 1, 1) := by decide +kernel
theorem dL_law_121 : decode code 121 = .ok (.invokevirtual 27, 3) := by decide +kernel
theorem dL_law_124 : decode code 124 = .ok (.aload_n 2, 1) := by decide +kernel
theorem dL_law_125 : decode code 125 = .ok (.invokevirtual 31, 3) := by decide +kernel
theorem dL_law_128 : decode code 128 = .ok (.if_icmp .eq 614, 3) := by decide +kernel
theorem dL_law_131 : decode code 131 = .ok (.iconst 0, 1) := by decide +kernel
theorem dL_law_132 : decode code 132 = .ok (.ireturn, 1) := by decide +kernel
theorem dL_law_133 : decode code 133 = .ok (.aload_n 1, 1) := by decide +kernel
theorem dL_law_134 : decode code 134 = .ok (.aload_n 0, 1) := by decide +kernel
theorem dL_law_135 : decode code 135 = .ok (.iload 4, 2) := by decide +kernel
theorem dL_law_137 : decode code 137 = .ok (.iconst 1, 1) := by decide +kernel
theorem dL_law_138 : decode code 138 = .ok (.iadd, 1) := by decide +kernel
theorem dL_law_139 : decode code 139 = .ok (.iaload, 1) := by decide +kernel
theorem dL_law_140 : decode code 140 = .ok (.aload_n 0, 1) := by decide +kernel
theorem dL_law_141 : decode code 141 = .ok (.iload 4, 2) := by decide +kernel
theorem dL_law_143 : decode code 143 = .ok (.iconst 2, 1) := by decide +kernel
theorem dL_law_144 : decode code 144 = .ok (.iadd, 1) := by decide +kernel
theorem dL_law_145 : decode code 145 = .ok (.iaload, 1) := by decide +kernel
theorem dL_law_146 : decode code 146 = .ok (.invokevirtual 32, 3) := by decide +kernel
theorem dL_law_149 : decode code 149 = .ok (.aload_n 2, 1) := by decide +kernel
theorem dL_law_150 : decode code 150 = .ok (.aload_n 0, 1) := by decide +kernel
theorem dL_law_151 : decode code 151 = .ok (.iload 4, 2) := by decide +kernel
theorem dL_law_153 : decode code 153 = .ok (.iconst 1, 1) := by decide +kernel
theorem dL_law_154 : decode code 154 = .ok (.iadd, 1) := by decide +kernel
theorem dL_law_155 : decode code 155 = .ok (.iaload, 1) := by decide +kernel
theorem dL_law_156 : decode code 156 = .ok (.aload_n 0, 1) := by decide +kernel
theorem dL_law_157 : decode code 157 = .ok (.iload 4, 2) := by decide +kernel
theorem dL_law_159 : decode code 159 = .ok (.iconst 2, 1) := by decide +kernel
theorem dL_law_160 : decode code 160 = .ok (.iadd, 1) := by decide +kernel
theorem dL_law_161 : decode code 161 = .ok (.iaload, 1) := by decide +kernel
theorem dL_law_162 : decode code 162 = .ok (.invokevirtual 36, 3) := by decide +kernel
theorem dL_law_165 : decode code 165 = .ok (.if_icmp .eq 577, 3) := by decide +kernel
theorem dL_law_168 : decode code 168 = .ok (.iconst 0, 1) := by decide +kernel
theorem dL_law_169 : decode code 169 = .ok (.ireturn, 1) := by decide +kernel
theorem dL_law_170 : decode code 170 = .ok (.aload_n 1, 1) := by decide +kernel
theorem dL_law_171 : decode code 171 = .ok (.aload_n 0, 1) := by decide +kernel
theorem dL_law_172 : decode code 172 = .ok (.iload 4, 2) := by decide +kernel
theorem dL_law_174 : decode code 174 = .ok (.iconst 1, 1) := by decide +kernel
theorem dL_law_175 : decode code 175 = .ok (.iadd, 1) := by decide +kernel
theorem dL_law_176 : decode code 176 = .ok (.iaload, 1) := by decide +kernel
theorem dL_law_177 : decode code 177 = .ok (.aload_n 0, 1) := by decide +kernel
theorem dL_law_178 : decode code 178 = .ok (.iload 4, 2) := by decide +kernel
theorem dL_law_180 : decode code 180 = .ok (.iconst 2, 1) := by decide +kernel
theorem dL_law_181 : decode code 181 = .ok (.iadd, 1) := by decide +kernel
theorem dL_law_182 : decode code 182 = .ok (.iaload, 1) := by decide +kernel
theorem dL_law_183 : decode code 183 = .ok (.aload_n 0, 1) := by decide +kernel
theorem dL_law_184 : decode code 184 = .ok (.iload 4, 2) := by decide +kernel
theorem dL_law_186 : decode code 186 = .ok (.iconst 3, 1) := by decide +kernel
theorem dL_law_187 : decode code 187 = .ok (.iadd, 1) := by decide +kernel
theorem dL_law_188 : decode code 188 = .ok (.iaload, 1) := by decide +kernel
theorem dL_law_189 : decode code 189 = .ok (.invokevirtual 37, 3) := by decide +kernel
theorem dL_law_192 : decode code 192 = .ok (.aload_n 2, 1) := by decide +kernel
theorem dL_law_193 : decode code 193 = .ok (.aload_n 0, 1) := by decide +kernel
theorem dL_law_194 : decode code 194 = .ok (.iload 4, 2) := by decide +kernel
theorem dL_law_196 : decode code 196 = .ok (.iconst 1, 1) := by decide +kernel
theorem dL_law_197 : decode code 197 = .ok (.iadd, 1) := by decide +kernel
theorem dL_law_198 : decode code 198 = .ok (.iaload, 1) := by decide +kernel
theorem dL_law_199 : decode code 199 = .ok (.aload_n 0, 1) := by decide +kernel
theorem dL_law_200 : decode code 200 = .ok (.iload 4, 2) := by decide +kernel
theorem dL_law_202 : decode code 202 = .ok (.iconst 2, 1) := by decide +kernel
theorem dL_law_203 : decode code 203 = .ok (.iadd, 1) := by decide +kernel
theorem dL_law_204 : decode code 204 = .ok (.iaload, 1) := by decide +kernel
theorem dL_law_205 : decode code 205 = .ok (.aload_n 0, 1) := by decide +kernel
theorem dL_law_206 : decode code 206 = .ok (.iload 4, 2) := by decide +kernel
theorem dL_law_208 : decode code 208 = .ok (.iconst 3, 1) := by decide +kernel
theorem dL_law_209 : decode code 209 = .ok (.iadd, 1) := by decide +kernel
theorem dL_law_210 : decode code 210 = .ok (.iaload, 1) := by decide +kernel
theorem dL_law_211 : decode code 211 = .ok (.invokevirtual 41, 3) := by decide +kernel
theorem dL_law_214 : decode code 214 = .ok (.if_icmp .eq 528, 3) := by decide +kernel
theorem dL_law_217 : decode code 217 = .ok (.iconst 0, 1) := by decide +kernel
theorem dL_law_218 : decode code 218 = .ok (.ireturn, 1) := by decide +kernel
theorem dL_law_219 : decode code 219 = .ok (.aload_n 1, 1) := by decide +kernel
theorem dL_law_220 : decode code 220 = .ok (.aload_n 0, 1) := by decide +kernel
theorem dL_law_221 : decode code 221 = .ok (.iload 4, 2) := by decide +kernel
theorem dL_law_223 : decode code 223 = .ok (.iconst 1, 1) := by decide +kernel
theorem dL_law_224 : decode code 224 = .ok (.iadd, 1) := by decide +kernel
theorem dL_law_225 : decode code 225 = .ok (.iaload, 1) := by decide +kernel
theorem dL_law_226 : decode code 226 = .ok (.aload_n 0, 1) := by decide +kernel
theorem dL_law_227 : decode code 227 = .ok (.iload 4, 2) := by decide +kernel
theorem dL_law_229 : decode code 229 = .ok (.iconst 2, 1) := by decide +kernel
theorem dL_law_230 : decode code 230 = .ok (.iadd, 1) := by decide +kernel
theorem dL_law_231 : decode code 231 = .ok (.iaload, 1) := by decide +kernel
theorem dL_law_232 : decode code 232 = .ok (.aload_n 0, 1) := by decide +kernel
theorem dL_law_233 : decode code 233 = .ok (.iload 4, 2) := by decide +kernel
theorem dL_law_235 : decode code 235 = .ok (.iconst 3, 1) := by decide +kernel
theorem dL_law_236 : decode code 236 = .ok (.iadd, 1) := by decide +kernel
theorem dL_law_237 : decode code 237 = .ok (.iaload, 1) := by decide +kernel
theorem dL_law_238 : decode code 238 = .ok (.invokevirtual 42, 3) := by decide +kernel
theorem dL_law_241 : decode code 241 = .ok (.aload_n 2, 1) := by decide +kernel
theorem dL_law_242 : decode code 242 = .ok (.aload_n 0, 1) := by decide +kernel
theorem dL_law_243 : decode code 243 = .ok (.iload 4, 2) := by decide +kernel
theorem dL_law_245 : decode code 245 = .ok (.iconst 1, 1) := by decide +kernel
theorem dL_law_246 : decode code 246 = .ok (.iadd, 1) := by decide +kernel
theorem dL_law_247 : decode code 247 = .ok (.iaload, 1) := by decide +kernel
theorem dL_law_248 : decode code 248 = .ok (.aload_n 0, 1) := by decide +kernel
theorem dL_law_249 : decode code 249 = .ok (.iload 4, 2) := by decide +kernel
theorem dL_law_251 : decode code 251 = .ok (.iconst 2, 1) := by decide +kernel
theorem dL_law_252 : decode code 252 = .ok (.iadd, 1) := by decide +kernel
theorem dL_law_253 : decode code 253 = .ok (.iaload, 1) := by decide +kernel
theorem dL_law_254 : decode code 254 = .ok (.aload_n 0, 1) := by decide +kernel
theorem dL_law_255 : decode code 255 = .ok (.iload 4, 2) := by decide +kernel
theorem dL_law_257 : decode code 257 = .ok (.iconst 3, 1) := by decide +kernel
theorem dL_law_258 : decode code 258 = .ok (.iadd, 1) := by decide +kernel
theorem dL_law_259 : decode code 259 = .ok (.iaload, 1) := by decide +kernel
theorem dL_law_260 : decode code 260 = .ok (.invokevirtual 46, 3) := by decide +kernel
theorem dL_law_263 : decode code 263 = .ok (.if_icmp .eq 479, 3) := by decide +kernel
theorem dL_law_266 : decode code 266 = .ok (.iconst 0, 1) := by decide +kernel
theorem dL_law_267 : decode code 267 = .ok (.ireturn, 1) := by decide +kernel
theorem dL_law_268 : decode code 268 = .ok (.aload_n 1, 1) := by decide +kernel
theorem dL_law_269 : decode code 269 = .ok (.aload_n 0, 1) := by decide +kernel
theorem dL_law_270 : decode code 270 = .ok (.iload 4, 2) := by decide +kernel
theorem dL_law_272 : decode code 272 = .ok (.iconst 1, 1) := by decide +kernel
theorem dL_law_273 : decode code 273 = .ok (.iadd, 1) := by decide +kernel
theorem dL_law_274 : decode code 274 = .ok (.iaload, 1) := by decide +kernel
theorem dL_law_275 : decode code 275 = .ok (.aload_n 0, 1) := by decide +kernel
theorem dL_law_276 : decode code 276 = .ok (.iload 4, 2) := by decide +kernel
theorem dL_law_278 : decode code 278 = .ok (.iconst 2, 1) := by decide +kernel
theorem dL_law_279 : decode code 279 = .ok (.iadd, 1) := by decide +kernel
theorem dL_law_280 : decode code 280 = .ok (.iaload, 1) := by decide +kernel
theorem dL_law_281 : decode code 281 = .ok (.invokevirtual 47, 3) := by decide +kernel
theorem dL_law_284 : decode code 284 = .ok (.aload_n 2, 1) := by decide +kernel
theorem dL_law_285 : decode code 285 = .ok (.aload_n 0, 1) := by decide +kernel
theorem dL_law_286 : decode code 286 = .ok (.iload 4, 2) := by decide +kernel
theorem dL_law_288 : decode code 288 = .ok (.iconst 1, 1) := by decide +kernel
theorem dL_law_289 : decode code 289 = .ok (.iadd, 1) := by decide +kernel
theorem dL_law_290 : decode code 290 = .ok (.iaload, 1) := by decide +kernel
theorem dL_law_291 : decode code 291 = .ok (.aload_n 0, 1) := by decide +kernel
theorem dL_law_292 : decode code 292 = .ok (.iload 4, 2) := by decide +kernel
theorem dL_law_294 : decode code 294 = .ok (.iconst 2, 1) := by decide +kernel
theorem dL_law_295 : decode code 295 = .ok (.iadd, 1) := by decide +kernel
theorem dL_law_296 : decode code 296 = .ok (.iaload, 1) := by decide +kernel
theorem dL_law_297 : decode code 297 = .ok (.invokevirtual 51, 3) := by decide +kernel
theorem dL_law_300 : decode code 300 = .ok (.lcmp, 1) := by decide +kernel
theorem dL_law_301 : decode code 301 = .ok (.ifCond .eq 441, 3) := by decide +kernel
theorem dL_law_304 : decode code 304 = .ok (.iconst 0, 1) := by decide +kernel
theorem dL_law_305 : decode code 305 = .ok (.ireturn, 1) := by decide +kernel
theorem dL_law_306 : decode code 306 = .ok (.aload_n 1, 1) := by decide +kernel
theorem dL_law_307 : decode code 307 = .ok (.aload_n 0, 1) := by decide +kernel
theorem dL_law_308 : decode code 308 = .ok (.iload 4, 2) := by decide +kernel
theorem dL_law_310 : decode code 310 = .ok (.iconst 1, 1) := by decide +kernel
theorem dL_law_311 : decode code 311 = .ok (.iadd, 1) := by decide +kernel
theorem dL_law_312 : decode code 312 = .ok (.iaload, 1) := by decide +kernel
theorem dL_law_313 : decode code 313 = .ok (.invokevirtual 52, 3) := by decide +kernel
theorem dL_law_316 : decode code 316 = .ok (.aload_n 2, 1) := by decide +kernel
theorem dL_law_317 : decode code 317 = .ok (.aload_n 0, 1) := by decide +kernel
theorem dL_law_318 : decode code 318 = .ok (.iload 4, 2) := by decide +kernel
theorem dL_law_320 : decode code 320 = .ok (.iconst 1, 1) := by decide +kernel
theorem dL_law_321 : decode code 321 = .ok (.iadd, 1) := by decide +kernel
theorem dL_law_322 : decode code 322 = .ok (.iaload, 1) := by decide +kernel
theorem dL_law_323 : decode code 323 = .ok (.invokevirtual 55, 3) := by decide +kernel
theorem dL_law_326 : decode code 326 = .ok (.if_icmp .eq 416, 3) := by decide +kernel
theorem dL_law_329 : decode code 329 = .ok (.iconst 0, 1) := by decide +kernel
theorem dL_law_330 : decode code 330 = .ok (.ireturn, 1) := by decide +kernel
theorem dL_law_331 : decode code 331 = .ok (.aload_n 1, 1) := by decide +kernel
theorem dL_law_332 : decode code 332 = .ok (.aload_n 0, 1) := by decide +kernel
theorem dL_law_333 : decode code 333 = .ok (.iload 4, 2) := by decide +kernel
theorem dL_law_335 : decode code 335 = .ok (.iconst 1, 1) := by decide +kernel
theorem dL_law_336 : decode code 336 = .ok (.iadd, 1) := by decide +kernel
theorem dL_law_337 : decode code 337 = .ok (.iaload, 1) := by decide +kernel
theorem dL_law_338 : decode code 338 = .ok (.aload_n 0, 1) := by decide +kernel
theorem dL_law_339 : decode code 339 = .ok (.iload 4, 2) := by decide +kernel
theorem dL_law_341 : decode code 341 = .ok (.iconst 2, 1) := by decide +kernel
theorem dL_law_342 : decode code 342 = .ok (.iadd, 1) := by decide +kernel
theorem dL_law_343 : decode code 343 = .ok (.iaload, 1) := by decide +kernel
theorem dL_law_344 : decode code 344 = .ok (.aload_n 0, 1) := by decide +kernel
theorem dL_law_345 : decode code 345 = .ok (.iload 4, 2) := by decide +kernel
theorem dL_law_347 : decode code 347 = .ok (.iconst 3, 1) := by decide +kernel
theorem dL_law_348 : decode code 348 = .ok (.iadd, 1) := by decide +kernel
theorem dL_law_349 : decode code 349 = .ok (.iaload, 1) := by decide +kernel
theorem dL_law_350 : decode code 350 = .ok (.aload_n 0, 1) := by decide +kernel
theorem dL_law_351 : decode code 351 = .ok (.iload 4, 2) := by decide +kernel
theorem dL_law_353 : decode code 353 = .ok (.iconst 4, 1) := by decide +kernel
theorem dL_law_354 : decode code 354 = .ok (.iadd, 1) := by decide +kernel
theorem dL_law_355 : decode code 355 = .ok (.iaload, 1) := by decide +kernel
theorem dL_law_356 : decode code 356 = .ok (.invokevirtual 56, 3) := by decide +kernel
theorem dL_law_359 : decode code 359 = .ok (.aload_n 2, 1) := by decide +kernel
theorem dL_law_360 : decode code 360 = .ok (.aload_n 0, 1) := by decide +kernel
theorem dL_law_361 : decode code 361 = .ok (.iload 4, 2) := by decide +kernel
theorem dL_law_363 : decode code 363 = .ok (.iconst 1, 1) := by decide +kernel
theorem dL_law_364 : decode code 364 = .ok (.iadd, 1) := by decide +kernel
theorem dL_law_365 : decode code 365 = .ok (.iaload, 1) := by decide +kernel
theorem dL_law_366 : decode code 366 = .ok (.aload_n 0, 1) := by decide +kernel
theorem dL_law_367 : decode code 367 = .ok (.iload 4, 2) := by decide +kernel
theorem dL_law_369 : decode code 369 = .ok (.iconst 2, 1) := by decide +kernel
theorem dL_law_370 : decode code 370 = .ok (.iadd, 1) := by decide +kernel
theorem dL_law_371 : decode code 371 = .ok (.iaload, 1) := by decide +kernel
theorem dL_law_372 : decode code 372 = .ok (.aload_n 0, 1) := by decide +kernel
theorem dL_law_373 : decode code 373 = .ok (.iload 4, 2) := by decide +kernel
theorem dL_law_375 : decode code 375 = .ok (.iconst 3, 1) := by decide +kernel
theorem dL_law_376 : decode code 376 = .ok (.iadd, 1) := by decide +kernel
theorem dL_law_377 : decode code 377 = .ok (.iaload, 1) := by decide +kernel
theorem dL_law_378 : decode code 378 = .ok (.aload_n 0, 1) := by decide +kernel
theorem dL_law_379 : decode code 379 = .ok (.iload 4, 2) := by decide +kernel
theorem dL_law_381 : decode code 381 = .ok (.iconst 4, 1) := by decide +kernel
theorem dL_law_382 : decode code 382 = .ok (.iadd, 1) := by decide +kernel
theorem dL_law_383 : decode code 383 = .ok (.iaload, 1) := by decide +kernel
theorem dL_law_384 : decode code 384 = .ok (.invokevirtual 60, 3) := by decide +kernel
theorem dL_law_387 : decode code 387 = .ok (.if_icmp .eq 355, 3) := by decide +kernel
theorem dL_law_390 : decode code 390 = .ok (.iconst 0, 1) := by decide +kernel
theorem dL_law_391 : decode code 391 = .ok (.ireturn, 1) := by decide +kernel
theorem dL_law_392 : decode code 392 = .ok (.aload_n 1, 1) := by decide +kernel
theorem dL_law_393 : decode code 393 = .ok (.aload_n 0, 1) := by decide +kernel
theorem dL_law_394 : decode code 394 = .ok (.iload 4, 2) := by decide +kernel
theorem dL_law_396 : decode code 396 = .ok (.iconst 1, 1) := by decide +kernel
theorem dL_law_397 : decode code 397 = .ok (.iadd, 1) := by decide +kernel
theorem dL_law_398 : decode code 398 = .ok (.iaload, 1) := by decide +kernel
theorem dL_law_399 : decode code 399 = .ok (.aload_n 0, 1) := by decide +kernel
theorem dL_law_400 : decode code 400 = .ok (.iload 4, 2) := by decide +kernel
theorem dL_law_402 : decode code 402 = .ok (.iconst 2, 1) := by decide +kernel
theorem dL_law_403 : decode code 403 = .ok (.iadd, 1) := by decide +kernel
theorem dL_law_404 : decode code 404 = .ok (.iaload, 1) := by decide +kernel
theorem dL_law_405 : decode code 405 = .ok (.invokevirtual 61, 3) := by decide +kernel
theorem dL_law_408 : decode code 408 = .ok (.aload_n 2, 1) := by decide +kernel
theorem dL_law_409 : decode code 409 = .ok (.aload_n 0, 1) := by decide +kernel
theorem dL_law_410 : decode code 410 = .ok (.iload 4, 2) := by decide +kernel
theorem dL_law_412 : decode code 412 = .ok (.iconst 1, 1) := by decide +kernel
theorem dL_law_413 : decode code 413 = .ok (.iadd, 1) := by decide +kernel
theorem dL_law_414 : decode code 414 = .ok (.iaload, 1) := by decide +kernel
theorem dL_law_415 : decode code 415 = .ok (.aload_n 0, 1) := by decide +kernel
theorem dL_law_416 : decode code 416 = .ok (.iload 4, 2) := by decide +kernel
theorem dL_law_418 : decode code 418 = .ok (.iconst 2, 1) := by decide +kernel
theorem dL_law_419 : decode code 419 = .ok (.iadd, 1) := by decide +kernel
theorem dL_law_420 : decode code 420 = .ok (.iaload, 1) := by decide +kernel
theorem dL_law_421 : decode code 421 = .ok (.invokevirtual 64, 3) := by decide +kernel
theorem dL_law_424 : decode code 424 = .ok (.lcmp, 1) := by decide +kernel
theorem dL_law_425 : decode code 425 = .ok (.ifCond .eq 317, 3) := by decide +kernel
theorem dL_law_428 : decode code 428 = .ok (.iconst 0, 1) := by decide +kernel
theorem dL_law_429 : decode code 429 = .ok (.ireturn, 1) := by decide +kernel
theorem dL_law_430 : decode code 430 = .ok (.aload_n 1, 1) := by decide +kernel
theorem dL_law_431 : decode code 431 = .ok (.aload_n 0, 1) := by decide +kernel
theorem dL_law_432 : decode code 432 = .ok (.iload 4, 2) := by decide +kernel
theorem dL_law_434 : decode code 434 = .ok (.iconst 1, 1) := by decide +kernel
theorem dL_law_435 : decode code 435 = .ok (.iadd, 1) := by decide +kernel
theorem dL_law_436 : decode code 436 = .ok (.iaload, 1) := by decide +kernel
theorem dL_law_437 : decode code 437 = .ok (.invokevirtual 65, 3) := by decide +kernel
theorem dL_law_440 : decode code 440 = .ok (.dstore 5, 2) := by decide +kernel
theorem dL_law_442 : decode code 442 = .ok (.aload_n 2, 1) := by decide +kernel
theorem dL_law_443 : decode code 443 = .ok (.aload_n 0, 1) := by decide +kernel
theorem dL_law_444 : decode code 444 = .ok (.iload 4, 2) := by decide +kernel
theorem dL_law_446 : decode code 446 = .ok (.iconst 1, 1) := by decide +kernel
theorem dL_law_447 : decode code 447 = .ok (.iadd, 1) := by decide +kernel
theorem dL_law_448 : decode code 448 = .ok (.iaload, 1) := by decide +kernel
theorem dL_law_449 : decode code 449 = .ok (.invokevirtual 69, 3) := by decide +kernel
theorem dL_law_452 : decode code 452 = .ok (.dstore 7, 2) := by decide +kernel
theorem dL_law_454 : decode code 454 = .ok (.dload 5, 2) := by decide +kernel
theorem dL_law_456 : decode code 456 = .ok (.dload 7, 2) := by decide +kernel
theorem dL_law_458 : decode code 458 = .ok (.dcmp .l, 1) := by decide +kernel
theorem dL_law_459 : decode code 459 = .ok (.ifCond .eq 21, 3) := by decide +kernel
theorem dL_law_462 : decode code 462 = .ok (.dload 5, 2) := by decide +kernel
theorem dL_law_464 : decode code 464 = .ok (.dload 5, 2) := by decide +kernel
theorem dL_law_466 : decode code 466 = .ok (.dcmp .l, 1) := by decide +kernel
theorem dL_law_467 : decode code 467 = .ok (.ifCond .eq 11, 3) := by decide +kernel
theorem dL_law_470 : decode code 470 = .ok (.dload 7, 2) := by decide +kernel
theorem dL_law_472 : decode code 472 = .ok (.dload 7, 2) := by decide +kernel
theorem dL_law_474 : decode code 474 = .ok (.dcmp .l, 1) := by decide +kernel
theorem dL_law_475 : decode code 475 = .ok (.ifCond .ne 5, 3) := by decide +kernel
theorem dL_law_478 : decode code 478 = .ok (.iconst 0, 1) := by decide +kernel
theorem dL_law_479 : decode code 479 = .ok (.ireturn, 1) := by decide +kernel
theorem dL_law_480 : decode code 480 = .ok (.goto 262, 3) := by decide +kernel
theorem dL_law_483 : decode code 483 = .ok (.aload_n 1, 1) := by decide +kernel
theorem dL_law_484 : decode code 484 = .ok (.aload_n 0, 1) := by decide +kernel
theorem dL_law_485 : decode code 485 = .ok (.iload 4, 2) := by decide +kernel
theorem dL_law_487 : decode code 487 = .ok (.iconst 1, 1) := by decide +kernel
theorem dL_law_488 : decode code 488 = .ok (.iadd, 1) := by decide +kernel
theorem dL_law_489 : decode code 489 = .ok (.iaload, 1) := by decide +kernel
theorem dL_law_490 : decode code 490 = .ok (.aload_n 0, 1) := by decide +kernel
theorem dL_law_491 : decode code 491 = .ok (.iload 4, 2) := by decide +kernel
theorem dL_law_493 : decode code 493 = .ok (.iconst 2, 1) := by decide +kernel
theorem dL_law_494 : decode code 494 = .ok (.iadd, 1) := by decide +kernel
theorem dL_law_495 : decode code 495 = .ok (.iaload, 1) := by decide +kernel
theorem dL_law_496 : decode code 496 = .ok (.aload_n 0, 1) := by decide +kernel
theorem dL_law_497 : decode code 497 = .ok (.iload 4, 2) := by decide +kernel
theorem dL_law_499 : decode code 499 = .ok (.iconst 3, 1) := by decide +kernel
theorem dL_law_500 : decode code 500 = .ok (.iadd, 1) := by decide +kernel
theorem dL_law_501 : decode code 501 = .ok (.iaload, 1) := by decide +kernel
theorem dL_law_502 : decode code 502 = .ok (.ifCond .eq 7, 3) := by decide +kernel
theorem dL_law_505 : decode code 505 = .ok (.iconst 1, 1) := by decide +kernel
theorem dL_law_506 : decode code 506 = .ok (.goto 4, 3) := by decide +kernel
theorem dL_law_509 : decode code 509 = .ok (.iconst 0, 1) := by decide +kernel
theorem dL_law_510 : decode code 510 = .ok (.invokevirtual 70, 3) := by decide +kernel
theorem dL_law_513 : decode code 513 = .ok (.aload_n 2, 1) := by decide +kernel
theorem dL_law_514 : decode code 514 = .ok (.aload_n 0, 1) := by decide +kernel
theorem dL_law_515 : decode code 515 = .ok (.iload 4, 2) := by decide +kernel
theorem dL_law_517 : decode code 517 = .ok (.iconst 1, 1) := by decide +kernel
theorem dL_law_518 : decode code 518 = .ok (.iadd, 1) := by decide +kernel
theorem dL_law_519 : decode code 519 = .ok (.iaload, 1) := by decide +kernel
theorem dL_law_520 : decode code 520 = .ok (.aload_n 0, 1) := by decide +kernel
theorem dL_law_521 : decode code 521 = .ok (.iload 4, 2) := by decide +kernel
theorem dL_law_523 : decode code 523 = .ok (.iconst 2, 1) := by decide +kernel
theorem dL_law_524 : decode code 524 = .ok (.iadd, 1) := by decide +kernel
theorem dL_law_525 : decode code 525 = .ok (.iaload, 1) := by decide +kernel
theorem dL_law_526 : decode code 526 = .ok (.aload_n 0, 1) := by decide +kernel
theorem dL_law_527 : decode code 527 = .ok (.iload 4, 2) := by decide +kernel
theorem dL_law_529 : decode code 529 = .ok (.iconst 3, 1) := by decide +kernel
theorem dL_law_530 : decode code 530 = .ok (.iadd, 1) := by decide +kernel
theorem dL_law_531 : decode code 531 = .ok (.iaload, 1) := by decide +kernel
theorem dL_law_532 : decode code 532 = .ok (.ifCond .eq 7, 3) := by decide +kernel
theorem dL_law_535 : decode code 535 = .ok (.iconst 1, 1) := by decide +kernel
theorem dL_law_536 : decode code 536 = .ok (.goto 4, 3) := by decide +kernel
theorem dL_law_539 : decode code 539 = .ok (.iconst 0, 1) := by decide +kernel
theorem dL_law_540 : decode code 540 = .ok (.invokevirtual 74, 3) := by decide +kernel
theorem dL_law_543 : decode code 543 = .ok (.if_icmp .eq 199, 3) := by decide +kernel
theorem dL_law_546 : decode code 546 = .ok (.iconst 0, 1) := by decide +kernel
theorem dL_law_547 : decode code 547 = .ok (.ireturn, 1) := by decide +kernel
theorem dL_law_548 : decode code 548 = .ok (.aload_n 1, 1) := by decide +kernel
theorem dL_law_549 : decode code 549 = .ok (.aload_n 0, 1) := by decide +kernel
theorem dL_law_550 : decode code 550 = .ok (.iload 4, 2) := by decide +kernel
theorem dL_law_552 : decode code 552 = .ok (.iconst 1, 1) := by decide +kernel
theorem dL_law_553 : decode code 553 = .ok (.iadd, 1) := by decide +kernel
theorem dL_law_554 : decode code 554 = .ok (.iaload, 1) := by decide +kernel
theorem dL_law_555 : decode code 555 = .ok (.invokevirtual 75, 3) := by decide +kernel
theorem dL_law_558 : decode code 558 = .ok (.aload_n 2, 1) := by decide +kernel
theorem dL_law_559 : decode code 559 = .ok (.aload_n 0, 1) := by decide +kernel
theorem dL_law_560 : decode code 560 = .ok (.iload 4, 2) := by decide +kernel
theorem dL_law_562 : decode code 562 = .ok (.iconst 1, 1) := by decide +kernel
theorem dL_law_563 : decode code 563 = .ok (.iadd, 1) := by decide +kernel
theorem dL_law_564 : decode code 564 = .ok (.iaload, 1) := by decide +kernel
theorem dL_law_565 : decode code 565 = .ok (.invokevirtual 79, 3) := by decide +kernel
theorem dL_law_568 : decode code 568 = .ok (.if_icmp .eq 174, 3) := by decide +kernel
theorem dL_law_571 : decode code 571 = .ok (.iconst 0, 1) := by decide +kernel
theorem dL_law_572 : decode code 572 = .ok (.ireturn, 1) := by decide +kernel
theorem dL_law_573 : decode code 573 = .ok (.aload_n 1, 1) := by decide +kernel
theorem dL_law_574 : decode code 574 = .ok (.aload_n 0, 1) := by decide +kernel
theorem dL_law_575 : decode code 575 = .ok (.iload 4, 2) := by decide +kernel
theorem dL_law_577 : decode code 577 = .ok (.iconst 1, 1) := by decide +kernel
theorem dL_law_578 : decode code 578 = .ok (.iadd, 1) := by decide +kernel
theorem dL_law_579 : decode code 579 = .ok (.iaload, 1) := by decide +kernel
theorem dL_law_580 : decode code 580 = .ok (.aload_n 0, 1) := by decide +kernel
theorem dL_law_581 : decode code 581 = .ok (.iload 4, 2) := by decide +kernel
theorem dL_law_583 : decode code 583 = .ok (.iconst 2, 1) := by decide +kernel
theorem dL_law_584 : decode code 584 = .ok (.iadd, 1) := by decide +kernel
theorem dL_law_585 : decode code 585 = .ok (.iaload, 1) := by decide +kernel
theorem dL_law_586 : decode code 586 = .ok (.i2l, 1) := by decide +kernel
theorem dL_law_587 : decode code 587 = .ok (.bipush 32, 2) := by decide +kernel
theorem dL_law_589 : decode code 589 = .ok (.lshl, 1) := by decide +kernel
theorem dL_law_590 : decode code 590 = .ok (.aload_n 0, 1) := by decide +kernel
theorem dL_law_591 : decode code 591 = .ok (.iload 4, 2) := by decide +kernel
theorem dL_law_593 : decode code 593 = .ok (.iconst 3, 1) := by decide +kernel
theorem dL_law_594 : decode code 594 = .ok (.iadd, 1) := by decide +kernel
theorem dL_law_595 : decode code 595 = .ok (.iaload, 1) := by decide +kernel
theorem dL_law_596 : decode code 596 = .ok (.i2l, 1) := by decide +kernel
theorem dL_law_597 : decode code 597 = .ok (.ldc2_w 80, 3) := by decide +kernel
theorem dL_law_600 : decode code 600 = .ok (.land, 1) := by decide +kernel
theorem dL_law_601 : decode code 601 = .ok (.lor, 1) := by decide +kernel
theorem dL_law_602 : decode code 602 = .ok (.aload_n 0, 1) := by decide +kernel
theorem dL_law_603 : decode code 603 = .ok (.iload 4, 2) := by decide +kernel
theorem dL_law_605 : decode code 605 = .ok (.iconst 4, 1) := by decide +kernel
theorem dL_law_606 : decode code 606 = .ok (.iadd, 1) := by decide +kernel
theorem dL_law_607 : decode code 607 = .ok (.iaload, 1) := by decide +kernel
theorem dL_law_608 : decode code 608 = .ok (.i2l, 1) := by decide +kernel
theorem dL_law_609 : decode code 609 = .ok (.bipush 32, 2) := by decide +kernel
theorem dL_law_611 : decode code 611 = .ok (.lshl, 1) := by decide +kernel
theorem dL_law_612 : decode code 612 = .ok (.aload_n 0, 1) := by decide +kernel
theorem dL_law_613 : decode code 613 = .ok (.iload 4, 2) := by decide +kernel
theorem dL_law_615 : decode code 615 = .ok (.iconst 5, 1) := by decide +kernel
theorem dL_law_616 : decode code 616 = .ok (.iadd, 1) := by decide +kernel
theorem dL_law_617 : decode code 617 = .ok (.iaload, 1) := by decide +kernel
theorem dL_law_618 : decode code 618 = .ok (.i2l, 1) := by decide +kernel
theorem dL_law_619 : decode code 619 = .ok (.ldc2_w 80, 3) := by decide +kernel
theorem dL_law_622 : decode code 622 = .ok (.land, 1) := by decide +kernel
theorem dL_law_623 : decode code 623 = .ok (.lor, 1) := by decide +kernel
theorem dL_law_624 : decode code 624 = .ok (.invokevirtual 82, 3) := by decide +kernel
theorem dL_law_627 : decode code 627 = .ok (.aload_n 2, 1) := by decide +kernel
theorem dL_law_628 : decode code 628 = .ok (.aload_n 0, 1) := by decide +kernel
theorem dL_law_629 : decode code 629 = .ok (.iload 4, 2) := by decide +kernel
theorem dL_law_631 : decode code 631 = .ok (.iconst 1, 1) := by decide +kernel
theorem dL_law_632 : decode code 632 = .ok (.iadd, 1) := by decide +kernel
theorem dL_law_633 : decode code 633 = .ok (.iaload, 1) := by decide +kernel
theorem dL_law_634 : decode code 634 = .ok (.aload_n 0, 1) := by decide +kernel
theorem dL_law_635 : decode code 635 = .ok (.iload 4, 2) := by decide +kernel
theorem dL_law_637 : decode code 637 = .ok (.iconst 2, 1) := by decide +kernel
theorem dL_law_638 : decode code 638 = .ok (.iadd, 1) := by decide +kernel
theorem dL_law_639 : decode code 639 = .ok (.iaload, 1) := by decide +kernel
theorem dL_law_640 : decode code 640 = .ok (.i2l, 1) := by decide +kernel
theorem dL_law_641 : decode code 641 = .ok (.bipush 32, 2) := by decide +kernel
theorem dL_law_643 : decode code 643 = .ok (.lshl, 1) := by decide +kernel
theorem dL_law_644 : decode code 644 = .ok (.aload_n 0, 1) := by decide +kernel
theorem dL_law_645 : decode code 645 = .ok (.iload 4, 2) := by decide +kernel
theorem dL_law_647 : decode code 647 = .ok (.iconst 3, 1) := by decide +kernel
theorem dL_law_648 : decode code 648 = .ok (.iadd, 1) := by decide +kernel
theorem dL_law_649 : decode code 649 = .ok (.iaload, 1) := by decide +kernel
theorem dL_law_650 : decode code 650 = .ok (.i2l, 1) := by decide +kernel
theorem dL_law_651 : decode code 651 = .ok (.ldc2_w 80, 3) := by decide +kernel
theorem dL_law_654 : decode code 654 = .ok (.land, 1) := by decide +kernel
theorem dL_law_655 : decode code 655 = .ok (.lor, 1) := by decide +kernel
theorem dL_law_656 : decode code 656 = .ok (.aload_n 0, 1) := by decide +kernel
theorem dL_law_657 : decode code 657 = .ok (.iload 4, 2) := by decide +kernel
theorem dL_law_659 : decode code 659 = .ok (.iconst 4, 1) := by decide +kernel
theorem dL_law_660 : decode code 660 = .ok (.iadd, 1) := by decide +kernel
theorem dL_law_661 : decode code 661 = .ok (.iaload, 1) := by decide +kernel
theorem dL_law_662 : decode code 662 = .ok (.i2l, 1) := by decide +kernel
theorem dL_law_663 : decode code 663 = .ok (.bipush 32, 2) := by decide +kernel
theorem dL_law_665 : decode code 665 = .ok (.lshl, 1) := by decide +kernel
theorem dL_law_666 : decode code 666 = .ok (.aload_n 0, 1) := by decide +kernel
theorem dL_law_667 : decode code 667 = .ok (.iload 4, 2) := by decide +kernel
theorem dL_law_669 : decode code 669 = .ok (.iconst 5, 1) := by decide +kernel
theorem dL_law_670 : decode code 670 = .ok (.iadd, 1) := by decide +kernel
theorem dL_law_671 : decode code 671 = .ok (.iaload, 1) := by decide +kernel
theorem dL_law_672 : decode code 672 = .ok (.i2l, 1) := by decide +kernel
theorem dL_law_673 : decode code 673 = .ok (.ldc2_w 80, 3) := by decide +kernel
theorem dL_law_676 : decode code 676 = .ok (.land, 1) := by decide +kernel
theorem dL_law_677 : decode code 677 = .ok (.lor, 1) := by decide +kernel
theorem dL_law_678 : decode code 678 = .ok (.invokevirtual 86, 3) := by decide +kernel
theorem dL_law_681 : decode code 681 = .ok (.if_icmp .eq 61, 3) := by decide +kernel
theorem dL_law_684 : decode code 684 = .ok (.iconst 0, 1) := by decide +kernel
theorem dL_law_685 : decode code 685 = .ok (.ireturn, 1) := by decide +kernel
theorem dL_law_686 : decode code 686 = .ok (.aload_n 1, 1) := by decide +kernel
theorem dL_law_687 : decode code 687 = .ok (.aload_n 0, 1) := by decide +kernel
theorem dL_law_688 : decode code 688 = .ok (.iload 4, 2) := by decide +kernel
theorem dL_law_690 : decode code 690 = .ok (.iconst 1, 1) := by decide +kernel
theorem dL_law_691 : decode code 691 = .ok (.iadd, 1) := by decide +kernel
theorem dL_law_692 : decode code 692 = .ok (.iaload, 1) := by decide +kernel
theorem dL_law_693 : decode code 693 = .ok (.aload_n 3, 1) := by decide +kernel
theorem dL_law_694 : decode code 694 = .ok (.invokestatic 87, 3) := by decide +kernel
theorem dL_law_697 : decode code 697 = .ok (.istore 5, 2) := by decide +kernel
theorem dL_law_699 : decode code 699 = .ok (.aload_n 2, 1) := by decide +kernel
theorem dL_law_700 : decode code 700 = .ok (.aload_n 0, 1) := by decide +kernel
theorem dL_law_701 : decode code 701 = .ok (.iload 4, 2) := by decide +kernel
theorem dL_law_703 : decode code 703 = .ok (.iconst 1, 1) := by decide +kernel
theorem dL_law_704 : decode code 704 = .ok (.iadd, 1) := by decide +kernel
theorem dL_law_705 : decode code 705 = .ok (.iaload, 1) := by decide +kernel
theorem dL_law_706 : decode code 706 = .ok (.invokevirtual 90, 3) := by decide +kernel
theorem dL_law_709 : decode code 709 = .ok (.istore 6, 2) := by decide +kernel
theorem dL_law_711 : decode code 711 = .ok (.aload_n 2, 1) := by decide +kernel
theorem dL_law_712 : decode code 712 = .ok (.invokevirtual 91, 3) := by decide +kernel
theorem dL_law_715 : decode code 715 = .ok (.iload 5, 2) := by decide +kernel
theorem dL_law_717 : decode code 717 = .ok (.if_icmp .eq 5, 3) := by decide +kernel
theorem dL_law_720 : decode code 720 = .ok (.iconst 0, 1) := by decide +kernel
theorem dL_law_721 : decode code 721 = .ok (.ireturn, 1) := by decide +kernel
theorem dL_law_722 : decode code 722 = .ok (.iload 5, 2) := by decide +kernel
theorem dL_law_724 : decode code 724 = .ok (.ifCond .ne 15, 3) := by decide +kernel
theorem dL_law_727 : decode code 727 = .ok (.aload_n 3, 1) := by decide +kernel
theorem dL_law_728 : decode code 728 = .ok (.iconst 0, 1) := by decide +kernel
theorem dL_law_729 : decode code 729 = .ok (.laload, 1) := by decide +kernel
theorem dL_law_730 : decode code 730 = .ok (.iload 6, 2) := by decide +kernel
theorem dL_law_732 : decode code 732 = .ok (.i2l, 1) := by decide +kernel
theorem dL_law_733 : decode code 733 = .ok (.lcmp, 1) := by decide +kernel
theorem dL_law_734 : decode code 734 = .ok (.ifCond .eq 5, 3) := by decide +kernel
theorem dL_law_737 : decode code 737 = .ok (.iconst 0, 1) := by decide +kernel
theorem dL_law_738 : decode code 738 = .ok (.ireturn, 1) := by decide +kernel
theorem dL_law_739 : decode code 739 = .ok (.goto 3, 3) := by decide +kernel
theorem dL_law_742 : decode code 742 = .ok (.iinc 4 6, 3) := by decide +kernel
theorem dL_law_745 : decode code 745 = .ok (.goto (-710), 3) := by decide +kernel
theorem dL_law_748 : decode code 748 = .ok (.iconst 1, 1) := by decide +kernel
theorem dL_law_749 : decode code 749 = .ok (.ireturn, 1) := by decide +kernel
