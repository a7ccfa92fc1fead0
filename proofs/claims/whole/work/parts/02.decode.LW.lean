theorem d_LW_law_0 : decode code 0 = .ok (.new 8, 3) := by decide +kernel
theorem d_LW_law_3 : decode code 3 = .ok (.dup, 1) := by decide +kernel
theorem d_LW_law_4 : decode code 4 = .ok (.invokespecial 25, 3) := by decide +kernel
theorem d_LW_law_7 : decode code 7 = .ok (.astore_n 1, 1) := by decide +kernel
theorem d_LW_law_8 : decode code 8 = .ok (.new 26, 3) := by decide +kernel
theorem d_LW_law_11 : decode code 11 = .ok (.dup, 1) := by decide +kernel
theorem d_LW_law_12 : decode code 12 = .ok (.invokespecial 28, 3) := by decide +kernel
theorem d_LW_law_15 : decode code 15 = .ok (.astore_n 2, 1) := by decide +kernel
theorem d_LW_law_16 : decode code 16 = .ok (.iconst 1, 1) := by decide +kernel
theorem d_LW_law_17 : decode code 17 = .ok (.newarray .long, 2) := by decide +kernel
theorem d_LW_law_19 : decode code 19 = .ok (.astore_n 3, 1) := by decide +kernel
theorem d_LW_law_20 : decode code 20 = .ok (.iconst 0, 1) := by decide +kernel
theorem d_LW_law_21 : decode code 21 = .ok (.istore 4, 2) := by decide +kernel
theorem d_LW_law_23 : decode code 23 = .ok (.iload 4, 2) := by decide +kernel
theorem d_LW_law_25 : decode code 25 = .ok (.aload_n 0, 1) := by decide +kernel
theorem d_LW_law_26 : decode code 26 = .ok (.arraylength, 1) := by decide +kernel
theorem d_LW_law_27 : decode code 27 = .ok (.iconst 4, 1) := by decide +kernel
theorem d_LW_law_28 : decode code 28 = .ok (.isub, 1) := by decide +kernel
theorem d_LW_law_29 : decode code 29 = .ok (.if_icmp .gt 902, 3) := by decide +kernel
theorem d_LW_law_32 : decode code 32 = .ok (.aload_n 0, 1) := by decide +kernel
theorem d_LW_law_33 : decode code 33 = .ok (.iload 4, 2) := by decide +kernel
theorem d_LW_law_35 : decode code 35 = .ok (.iaload, 1) := by decide +kernel
theorem d_LW_law_36 : decode code 36 = .ok (.bipush 31, 2) := by decide +kernel
theorem d_LW_law_38 : decode code 38 = .ok (.iand, 1) := by decide +kernel
theorem d_LW_law_39 : decode code 39 = .ok (.tableswitch 886 0 20 #[97, 154, 223, 292, 317, 342, 379, 404, 417, 430, 443, 454, 523, 548, 559, 572, 652, 719, 768, 836, 861], 97) := by decide +kernel
theorem d_LW_law_136 : decode code 136 = .ok (.aload_n 1, 1) := by decide +kernel
theorem d_LW_law_137 : decode code 137 = .ok (.aload_n 0, 1) := by decide +kernel
theorem d_LW_law_138 : decode code 138 = .ok (.iload 4, 2) := by decide +kernel
theorem d_LW_law_140 : decode code 140 = .ok (.iconst 1, 1) := by decide +kernel
theorem d_LW_law_141 : decode code 141 = .ok (.iadd, 1) := by decide +kernel
theorem d_LW_law_142 : decode code 142 = .ok (.iaload, 1) := by decide +kernel
theorem d_LW_law_143 : decode code 143 = .ok (.i2l, 1) := by decide +kernel
theorem d_LW_law_144 : decode code 144 = .ok (.bipush 32, 2) := by decide +kernel
theorem d_LW_law_146 : decode code 146 = .ok (.lshl, 1) := by decide +kernel
theorem d_LW_law_147 : decode code 147 = .ok (.aload_n 0, 1) := by decide +kernel
theorem d_LW_law_148 : decode code 148 = .ok (.iload 4, 2) := by decide +kernel
theorem d_LW_law_150 : decode code 150 = .ok (.iconst 2, 1) := by decide +kernel
theorem d_LW_law_151 : decode code 151 = .ok (.iadd, 1) := by decide +kernel
theorem d_LW_law_152 : decode code 152 = .ok (.iaload, 1) := by decide +kernel
theorem d_LW_law_153 : decode code 153 = .ok (.i2l, 1) := by decide +kernel
theorem d_LW_law_154 : decode code 154 = .ok (.ldc2_w 29, 3) := by decide +kernel
theorem d_LW_law_157 : decode code 157 = .ok (.land, 1) := by decide +kernel
theorem d_LW_law_158 : decode code 158 = .ok (.lor, 1) := by decide +kernel
theorem d_LW_law_159 : decode code 159 = .ok (.invokevirtual 31, 3) := by decide +kernel
theorem d_LW_law_162 : decode code 162 = .ok (.aload_n 2, 1) := by decide +kernel
theorem d_LW_law_163 : decode code 163 = .ok (.aload_n 0, 1) := by decide +kernel
theorem d_LW_law_164 : decode code 164 = .ok (.iload 4, 2) := by decide +kernel
theorem d_LW_law_166 : decode code 166 = .ok (.iconst 1, 1) := by decide +kernel
theorem d_LW_law_167 : decode code 167 = .ok (.iadd, 1) := by decide +kernel
theorem d_LW_law_168 : decode code 168 = .ok (.iaload, 1) := by decide +kernel
theorem d_LW_law_169 : decode code 169 = .ok (.i2l, 1) := by decide +kernel
theorem d_LW_law_170 : decode code 170 = .ok (.bipush 32, 2) := by decide +kernel
theorem d_LW_law_172 : decode code 172 = .ok (.lshl, 1) := by decide +kernel
theorem d_LW_law_173 : decode code 173 = .ok (.aload_n 0, 1) := by decide +kernel
theorem d_LW_law_174 : decode code 174 = .ok (.iload 4, 2) := by decide +kernel
theorem d_LW_law_176 : decode code 176 = .ok (.iconst 2, 1) := by decide +kernel
theorem d_LW_law_177 : decode code 177 = .ok (.iadd, 1) := by decide +kernel
theorem d_LW_law_178 : decode code 178 = .ok (.iaload, 1) := by decide +kernel
theorem d_LW_law_179 : decode code 179 = .ok (.i2l, 1) := by decide +kernel
theorem d_LW_law_180 : decode code 180 = .ok (.ldc2_w 29, 3) := by decide +kernel
theorem d_LW_law_183 : decode code 183 = .ok (.land, 1) := by decide +kernel
theorem d_LW_law_184 : decode code 184 = .ok (.lor, 1) := by decide +kernel
theorem d_LW_law_185 : decode code 185 = .ok (.invokevirtual 35, 3) := by decide +kernel
theorem d_LW_law_188 : decode code 188 = .ok (.if_icmp .eq 737, 3) := by decide +kernel
theorem d_LW_law_191 : decode code 191 = .ok (.iconst 0, 1) := by decide +kernel
theorem d_LW_law_192 : decode code 192 = .ok (.ireturn, 1) := by decide +kernel
theorem d_LW_law_193 : decode code 193 = .ok (.aload_n 1, 1) := by decide +kernel
theorem d_LW_law_194 : decode code 194 = .ok (.aload_n 0, 1) := by decide +kernel
theorem d_LW_law_195 : decode code 195 = .ok (.iload 4, 2) := by decide +kernel
theorem d_LW_law_197 : decode code 197 = .ok (.iconst 1, 1) := by decide +kernel
theorem d_LW_law_198 : decode code 198 = .ok (.iadd, 1) := by decide +kernel
theorem d_LW_law_199 : decode code 199 = .ok (.iaload, 1) := by decide +kernel
theorem d_LW_law_200 : decode code 200 = .ok (.i2l, 1) := by decide +kernel
theorem d_LW_law_201 : decode code 201 = .ok (.bipush 32, 2) := by decide +kernel
theorem d_LW_law_203 : decode code 203 = .ok (.lshl, 1) := by decide +kernel
theorem d_LW_law_204 : decode code 204 = .ok (.aload_n 0, 1) := by decide +kernel
theorem d_LW_law_205 : decode code 205 = .ok (.iload 4, 2) := by decide +kernel
theorem d_LW_law_207 : decode code 207 = .ok (.iconst 2, 1) := by decide +kernel
theorem d_LW_law_208 : decode code 208 = .ok (.iadd, 1) := by decide +kernel
theorem d_LW_law_209 : decode code 209 = .ok (.iaload, 1) := by decide +kernel
theorem d_LW_law_210 : decode code 210 = .ok (.i2l, 1) := by decide +kernel
theorem d_LW_law_211 : decode code 211 = .ok (.ldc2_w 29, 3) := by decide +kernel
theorem d_LW_law_214 : decode code 214 = .ok (.land, 1) := by decide +kernel
theorem d_LW_law_215 : decode code 215 = .ok (.lor, 1) := by decide +kernel
theorem d_LW_law_216 : decode code 216 = .ok (.aload_n 0, 1) := by decide +kernel
theorem d_LW_law_217 : decode code 217 = .ok (.iload 4, 2) := by decide +kernel
theorem d_LW_law_219 : decode code 219 = .ok (.iconst 3, 1) := by decide +kernel
theorem d_LW_law_220 : decode code 220 = .ok (.iadd, 1) := by decide +kernel
theorem d_LW_law_221 : decode code 221 = .ok (.iaload, 1) := by decide +kernel
theorem d_LW_law_222 : decode code 222 = .ok (.invokevirtual 36, 3) := by decide +kernel
theorem d_LW_law_225 : decode code 225 = .ok (.aload_n 2, 1) := by decide +kernel
theorem d_LW_law_226 : decode code 226 = .ok (.aload_n 0, 1) := by decide +kernel
theorem d_LW_law_227 : decode code 227 = .ok (.iload 4, 2) := by decide +kernel
theorem d_LW_law_229 : decode code 229 = .ok (.iconst 1, 1) := by decide +kernel
theorem d_LW_law_230 : decode code 230 = .ok (.iadd, 1) := by decide +kernel
theorem d_LW_law_231 : decode code 231 = .ok (.iaload, 1) := by decide +kernel
theorem d_LW_law_232 : decode code 232 = .ok (.i2l, 1) := by decide +kernel
theorem d_LW_law_233 : decode code 233 = .ok (.bipush 32, 2) := by decide +kernel
theorem d_LW_law_235 : decode code 235 = .ok (.lshl, 1) := by decide +kernel
theorem d_LW_law_236 : decode code 236 = .ok (.aload_n 0, 1) := by decide +kernel
theorem d_LW_law_237 : decode code 237 = .ok (.iload 4, 2) := by decide +kernel
theorem d_LW_law_239 : decode code 239 = .ok (.iconst 2, 1) := by decide +kernel
theorem d_LW_law_240 : decode code 240 = .ok (.iadd, 1) := by decide +kernel
theorem d_LW_law_241 : decode code 241 = .ok (.iaload, 1) := by decide +kernel
theorem d_LW_law_242 : decode code 242 = .ok (.i2l, 1) := by decide +kernel
theorem d_LW_law_243 : decode code 243 = .ok (.ldc2_w 29, 3) := by decide +kernel
theorem d_LW_law_246 : decode code 246 = .ok (.land, 1) := by decide +kernel
theorem d_LW_law_247 : decode code 247 = .ok (.lor, 1) := by decide +kernel
theorem d_LW_law_248 : decode code 248 = .ok (.aload_n 0, 1) := by decide +kernel
theorem d_LW_law_249 : decode code 249 = .ok (.iload 4, 2) := by decide +kernel
theorem d_LW_law_251 : decode code 251 = .ok (.iconst 3, 1) := by decide +kernel
theorem d_LW_law_252 : decode code 252 = .ok (.iadd, 1) := by decide +kernel
theorem d_LW_law_253 : decode code 253 = .ok (.iaload, 1) := by decide +kernel
theorem d_LW_law_254 : decode code 254 = .ok (.invokevirtual 40, 3) := by decide +kernel
theorem d_LW_law_257 : decode code 257 = .ok (.if_icmp .eq 668, 3) := by decide +kernel
theorem d_LW_law_260 : decode code 260 = .ok (.iconst 0, 1) := by decide +kernel
theorem d_LW_law_261 : decode code 261 = .ok (.ireturn, 1) := by decide +kernel
theorem d_LW_law_262 : decode code 262 = .ok (.aload_n 1, 1) := by decide +kernel
theorem d_LW_law_263 : decode code 263 = .ok (.aload_n 0, 1) := by decide +kernel
theorem d_LW_law_264 : decode code 264 = .ok (.iload 4, 2) := by decide +kernel
theorem d_LW_law_266 : decode code 266 = .ok (.iconst 1, 1) := by decide +kernel
theorem d_LW_law_267 : decode code 267 = .ok (.iadd, 1) := by decide +kernel
theorem d_LW_law_268 : decode code 268 = .ok (.iaload, 1) := by decide +kernel
theorem d_LW_law_269 : decode code 269 = .ok (.i2l, 1) := by decide +kernel
theorem d_LW_law_270 : decode code 270 = .ok (.bipush 32, 2) := by decide +kernel
theorem d_LW_law_272 : decode code 272 = .ok (.lshl, 1) := by decide +kernel
theorem d_LW_law_273 : decode code 273 = .ok (.aload_n 0, 1) := by decide +kernel
theorem d_LW_law_274 : decode code 274 = .ok (.iload 4, 2) := by decide +kernel
theorem d_LW_law_276 : decode code 276 = .ok (.iconst 2, 1) := by decide +kernel
theorem d_LW_law_277 : decode code 277 = .ok (.iadd, 1) := by decide +kernel
theorem d_LW_law_278 : decode code 278 = .ok (.iaload, 1) := by decide +kernel
theorem d_LW_law_279 : decode code 279 = .ok (.i2l, 1) := by decide +kernel
theorem d_LW_law_280 : decode code 280 = .ok (.ldc2_w 29, 3) := by decide +kernel
theorem d_LW_law_283 : decode code 283 = .ok (.land, 1) := by decide +kernel
theorem d_LW_law_284 : decode code 284 = .ok (.lor, 1) := by decide +kernel
theorem d_LW_law_285 : decode code 285 = .ok (.aload_n 0, 1) := by decide +kernel
theorem d_LW_law_286 : decode code 286 = .ok (.iload 4, 2) := by decide +kernel
theorem d_LW_law_288 : decode code 288 = .ok (.iconst 3, 1) := by decide +kernel
theorem d_LW_law_289 : decode code 289 = .ok (.iadd, 1) := by decide +kernel
theorem d_LW_law_290 : decode code 290 = .ok (.iaload, 1) := by decide +kernel
theorem d_LW_law_291 : decode code 291 = .ok (.invokevirtual 41, 3) := by decide +kernel
theorem d_LW_law_294 : decode code 294 = .ok (.aload_n 2, 1) := by decide +kernel
theorem d_LW_law_295 : decode code 295 = .ok (.aload_n 0, 1) := by decide +kernel
theorem d_LW_law_296 : decode code 296 = .ok (.iload 4, 2) := by decide +kernel
theorem d_LW_law_298 : decode code 298 = .ok (.iconst 1, 1) := by decide +kernel
theorem d_LW_law_299 : decode code 299 = .ok (.iadd, 1) := by decide +kernel
theorem d_LW_law_300 : decode code 300 = .ok (.iaload, 1) := by decide +kernel
theorem d_LW_law_301 : decode code 301 = .ok (.i2l, 1) := by decide +kernel
theorem d_LW_law_302 : decode code 302 = .ok (.bipush 32, 2) := by decide +kernel
theorem d_LW_law_304 : decode code 304 = .ok (.lshl, 1) := by decide +kernel
theorem d_LW_law_305 : decode code 305 = .ok (.aload_n 0, 1) := by decide +kernel
theorem d_LW_law_306 : decode code 306 = .ok (.iload 4, 2) := by decide +kernel
theorem d_LW_law_308 : decode code 308 = .ok (.iconst 2, 1) := by decide +kernel
theorem d_LW_law_309 : decode code 309 = .ok (.iadd, 1) := by decide +kernel
theorem d_LW_law_310 : decode code 310 = .ok (.iaload, 1) := by decide +kernel
theorem d_LW_law_311 : decode code 311 = .ok (.i2l, 1) := by decide +kernel
theorem d_LW_law_312 : decode code 312 = .ok (.ldc2_w 29, 3) := by decide +kernel
theorem d_LW_law_315 : decode code 315 = .ok (.land, 1) := by decide +kernel
theorem d_LW_law_316 : decode code 316 = .ok (.lor, 1) := by decide +kernel
theorem d_LW_law_317 : decode code 317 = .ok (.aload_n 0, 1) := by decide +kernel
theorem d_LW_law_318 : decode code 318 = .ok (.iload 4, 2) := by decide +kernel
theorem d_LW_law_320 : decode code 320 = .ok (.iconst 3, 1) := by decide +kernel
theorem d_LW_law_321 : decode code 321 = .ok (.iadd, 1) := by decide +kernel
theorem d_LW_law_322 : decode code 322 = .ok (.iaload, 1) := by decide +kernel
theorem d_LW_law_323 : decode code 323 = .ok (.invokevirtual 44, 3) := by decide +kernel
theorem d_LW_law_326 : decode code 326 = .ok (.if_icmp .eq 599, 3) := by decide +kernel
theorem d_LW_law_329 : decode code 329 = .ok (.iconst 0, 1) := by decide +kernel
theorem d_LW_law_330 : decode code 330 = .ok (.ireturn, 1) := by decide +kernel
theorem d_LW_law_331 : decode code 331 = .ok (.aload_n 1, 1) := by decide +kernel
theorem d_LW_law_332 : decode code 332 = .ok (.aload_n 0, 1) := by decide +kernel
theorem d_LW_law_333 : decode code 333 = .ok (.iload 4, 2) := by decide +kernel
theorem d_LW_law_335 : decode code 335 = .ok (.iconst 1, 1) := by decide +kernel
theorem d_LW_law_336 : decode code 336 = .ok (.iadd, 1) := by decide +kernel
theorem d_LW_law_337 : decode code 337 = .ok (.iaload, 1) := by decide +kernel
theorem d_LW_law_338 : decode code 338 = .ok (.invokevirtual 45, 3) := by decide +kernel
theorem d_LW_law_341 : decode code 341 = .ok (.aload_n 2, 1) := by decide +kernel
theorem d_LW_law_342 : decode code 342 = .ok (.aload_n 0, 1) := by decide +kernel
theorem d_LW_law_343 : decode code 343 = .ok (.iload 4, 2) := by decide +kernel
theorem d_LW_law_345 : decode code 345 = .ok (.iconst 1, 1) := by decide +kernel
theorem d_LW_law_346 : decode code 346 = .ok (.iadd, 1) := by decide +kernel
theorem d_LW_law_347 : decode code 347 = .ok (.iaload, 1) := by decide +kernel
theorem d_LW_law_348 : decode code 348 = .ok (.invokevirtual 49, 3) := by decide +kernel
theorem d_LW_law_351 : decode code 351 = .ok (.if_icmp .eq 574, 3) := by decide +kernel
theorem d_LW_law_354 : decode code 354 = .ok (.iconst 0, 1) := by decide +kernel
theorem d_LW_law_355 : decode code 355 = .ok (.ireturn, 1) := by decide +kernel
theorem d_LW_law_356 : decode code 356 = .ok (.aload_n 1, 1) := by decide +kernel
theorem d_LW_law_357 : decode code 357 = .ok (.aload_n 0, 1) := by decide +kernel
theorem d_LW_law_358 : decode code 358 = .ok (.iload 4, 2) := by decide +kernel
theorem d_LW_law_360 : decode code 360 = .ok (.iconst 1, 1) := by decide +kernel
theorem d_LW_law_361 : decode code 361 = .ok (.iadd, 1) := by decide +kernel
theorem d_LW_law_362 : decode code 362 = .ok (.iaload, 1) := by decide +kernel
theorem d_LW_law_363 : decode code 363 = .ok (.invokevirtual 50, 3) := by decide +kernel
theorem d_LW_law_366 : decode code 366 = .ok (.aload_n 2, 1) := by decide +kernel
theorem d_LW_law_367 : decode code 367 = .ok (.aload_n 0, 1) := by decide +kernel
theorem d_LW_law_368 : decode code 368 = .ok (.iload 4, 2) := by decide +kernel
theorem d_LW_law_370 : decode code 370 = .ok (.iconst 1, 1) := by decide +kernel
theorem d_LW_law_371 : decode code 371 = .ok (.iadd, 1) := by decide +kernel
theorem d_LW_law_372 : decode code 372 = .ok (.iaload, 1) := by decide +kernel
theorem d_LW_law_373 : decode code 373 = .ok (.invokevirtual 53, 3) := by decide +kernel
theorem d_LW_law_376 : decode code 376 = .ok (.if_icmp .eq 549, 3) := by decide +kernel
theorem d_LW_law_379 : decode code 379 = .ok (.iconst 0, 1) := by decide +kernel
theorem d_LW_law_380 : decode code 380 = .ok (.ireturn, 1) := by decide +kernel
theorem d_LW_law_381 : decode code 381 = .ok (.aload_n 1, 1) := by decide +kernel
theorem d_LW_law_382 : decode code 382 = .ok (.aload_n 0, 1) := by decide +kernel
theorem d_LW_law_383 : decode code 383 = .ok (.iload 4, 2) := by decide +kernel
theorem d_LW_law_385 : decode code 385 = .ok (.iconst 1, 1) := by decide +kernel
theorem d_LW_law_386 : decode code 386 = .ok (.iadd, 1) := by decide +kernel
theorem d_LW_law_387 : decode code 387 = .ok (.iaload, 1) := by decide +kernel
theorem d_LW_law_388 : decode code 388 = .ok (.aload_n 0, 1) := by decide +kernel
theorem d_LW_law_389 : decode code 389 = .ok (.iload 4, 2) := by decide +kernel
theorem d_LW_law_391 : decode code 391 = .ok (.iconst 2, 1) := by decide +kernel
theorem d_LW_law_392 : decode code 392 = .ok (.iadd, 1) := by decide +kernel
theorem d_LW_law_393 : decode code 393 = .ok (.iaload, 1) := by decide +kernel
theorem d_LW_law_394 : decode code 394 = .ok (.invokevirtual 54, 3) := by decide +kernel
theorem d_LW_law_397 : decode code 397 = .ok (.aload_n 2, 1) := by decide +kernel
theorem d_LW_law_398 : decode code 398 = .ok (.aload_n 0, 1) := by decide +kernel
theorem d_LW_law_399 : decode code 399 = .ok (.iload 4, 2) := by decide +kernel
theorem d_LW_law_401 : decode code 401 = .ok (.iconst 1, 1) := by decide +kernel
theorem d_LW_law_402 : decode code 402 = .ok (.iadd, 1) := by decide +kernel
theorem d_LW_law_403 : decode code 403 = .ok (.iaload, 1) := by decide +kernel
theorem d_LW_law_404 : decode code 404 = .ok (.aload_n 0, 1) := by decide +kernel
theorem d_LW_law_405 : decode code 405 = .ok (.iload 4, 2) := by decide +kernel
theorem d_LW_law_407 : decode code 407 = .ok (.iconst 2, 1) := by decide +kernel
theorem d_LW_law_408 : decode code 408 = .ok (.iadd, 1) := by decide +kernel
theorem d_LW_law_409 : decode code 409 = .ok (.iaload, 1) := by decide +kernel
theorem d_LW_law_410 : decode code 410 = .ok (.invokevirtual 58, 3) := by decide +kernel
theorem d_LW_law_413 : decode code 413 = .ok (.if_icmp .eq 512, 3) := by decide +kernel
theorem d_LW_law_416 : decode code 416 = .ok (.iconst 0, 1) := by decide +kernel
theorem d_LW_law_417 : decode code 417 = .ok (.ireturn, 1) := by decide +kernel
theorem d_LW_law_418 : decode code 418 = .ok (.aload_n 1, 1) := by decide +kernel
theorem d_LW_law_419 : decode code 419 = .ok (.aload_n 0, 1) := by decide +kernel
theorem d_LW_law_420 : decode code 420 = .ok (.iload 4, 2) := by decide +kernel
theorem d_LW_law_422 : decode code 422 = .ok (.iconst 1, 1) := by decide +kernel
theorem d_LW_law_423 : decode code 423 = .ok (.iadd, 1) := by decide +kernel
theorem d_LW_law_424 : decode code 424 = .ok (.iaload, 1) := by decide +kernel
theorem d_LW_law_425 : decode code 425 = .ok (.invokevirtual 59, 3) := by decide +kernel
theorem d_LW_law_428 : decode code 428 = .ok (.aload_n 2, 1) := by decide +kernel
theorem d_LW_law_429 : decode code 429 = .ok (.aload_n 0, 1) := by decide +kernel
theorem d_LW_law_430 : decode code 430 = .ok (.iload 4, 2) := by decide +kernel
theorem d_LW_law_432 : decode code 432 = .ok (.iconst 1, 1) := by decide +kernel
theorem d_LW_law_433 : decode code 433 = .ok (.iadd, 1) := by decide +kernel
theorem d_LW_law_434 : decode code 434 = .ok (.iaload, 1) := by decide +kernel
theorem d_LW_law_435 : decode code 435 = .ok (.invokevirtual 62, 3) := by decide +kernel
theorem d_LW_law_438 : decode code 438 = .ok (.if_icmp .eq 487, 3) := by decide +kernel
theorem d_LW_law_441 : decode code 441 = .ok (.iconst 0, 1) := by decide +kernel
theorem d_LW_law_442 : decode code 442 = .ok (.ireturn, 1) := by decide +kernel
theorem d_LW_law_443 : decode code 443 = .ok (.aload_n 1, 1) := by decide +kernel
theorem d_LW_law_444 : decode code 444 = .ok (.invokevirtual 63, 3) := by decide +kernel
theorem d_LW_law_447 : decode code 447 = .ok (.aload_n 2, 1) := by decide +kernel
theorem d_LW_law_448 : decode code 448 = .ok (.invokevirtual 67, 3) := by decide +kernel
theorem d_LW_law_451 : decode code 451 = .ok (.if_icmp .eq 474, 3) := by decide +kernel
theorem d_LW_law_454 : decode code 454 = .ok (.iconst 0, 1) := by decide +kernel
theorem d_LW_law_455 : decode code 455 = .ok (.ireturn, 1) := by decide +kernel
theorem d_LW_law_456 : decode code 456 = .ok (.aload_n 1, 1) := by decide +kernel
theorem d_LW_law_457 : decode code 457 = .ok (.invokevirtual 68, 3) := by decide +kernel
theorem d_LW_law_460 : decode code 460 = .ok (.aload_n 2, 1) := by decide +kernel
theorem d_LW_law_461 : decode code 461 = .ok (.invokevirtual 72, 3) := by decide +kernel
theorem d_LW_law_464 : decode code 464 = .ok (.if_icmp .eq 461, 3) := by decide +kernel
theorem d_LW_law_467 : decode code 467 = .ok (.iconst 0, 1) := by decide +kernel
theorem d_LW_law_468 : decode code 468 = .ok (.ireturn, 1) := by decide +kernel
theorem d_LW_law_469 : decode code 469 = .ok (.aload_n 1, 1) := by decide +kernel
theorem d_LW_law_470 : decode code 470 = .ok (.invokevirtual 73, 3) := by decide +kernel
theorem d_LW_law_473 : decode code 473 = .ok (.aload_n 2, 1) := by decide +kernel
theorem d_LW_law_474 : decode code 474 = .ok (.invokevirtual 76, 3) := by decide +kernel
theorem d_LW_law_477 : decode code 477 = .ok (.if_icmp .eq 448, 3) := by decide +kernel
theorem d_LW_law_480 : decode code 480 = .ok (.iconst 0, 1) := by decide +kernel
theorem d_LW_law_481 : decode code 481 = .ok (.ireturn, 1) := by decide +kernel
theorem d_LW_law_482 : decode code 482 = .ok (.aload_n 1, 1) := by decide +kernel
theorem d_LW_law_483 : decode code 483 = .ok (.invokevirtual 77, 3) := by decide +kernel
theorem d_LW_law_486 : decode code 486 = .ok (.aload_n 2, 1) := by decide +kernel
theorem d_LW_law_487 : decode code 487 = .ok (.invokevirtual 80, 3) := by decide +kernel
theorem d_LW_law_490 : decode code 490 = .ok (.goto 435, 3) := by decide +kernel
theorem d_LW_law_493 : decode code 493 = .ok (.aload_n 1, 1) := by decide +kernel
theorem d_LW_law_494 : decode code 494 = .ok (.aload_n 0, 1) := by decide +kernel
theorem d_LW_law_495 : decode code 495 = .ok (.iload 4, 2) := by decide +kernel
theorem d_LW_law_497 : decode code 497 = .ok (.iconst 1, 1) := by decide +kernel
theorem d_LW_law_498 : decode code 498 = .ok (.iadd, 1) := by decide +kernel
theorem d_LW_law_499 : decode code 499 = .ok (.iaload, 1) := by decide +kernel
theorem d_LW_law_500 : decode code 500 = .ok (.i2l, 1) := by decide +kernel
theorem d_LW_law_501 : decode code 501 = .ok (.bipush 32, 2) := by decide +kernel
theorem d_LW_law_503 : decode code 503 = .ok (.lshl, 1) := by decide +kernel
theorem d_LW_law_504 : decode code 504 = .ok (.aload_n 0, 1) := by decide +kernel
theorem d_LW_law_505 : decode code 505 = .ok (.iload 4, 2) := by decide +kernel
theorem d_LW_law_507 : decode code 507 = .ok (.iconst 2, 1) := by decide +kernel
theorem d_LW_law_508 : decode code 508 = .ok (.iadd, 1) := by decide +kernel
theorem d_LW_law_509 : decode code 509 = .ok (.iaload, 1) := by decide +kernel
theorem d_LW_law_510 : decode code 510 = .ok (.i2l, 1) := by decide +kernel
theorem d_LW_law_511 : decode code 511 = .ok (.ldc2_w 29, 3) := by decide +kernel
theorem d_LW_law_514 : decode code 514 = .ok (.land, 1) := by decide +kernel
theorem d_LW_law_515 : decode code 515 = .ok (.lor, 1) := by decide +kernel
theorem d_LW_law_516 : decode code 516 = .ok (.aload_n 0, 1) := by decide +kernel
theorem d_LW_law_517 : decode code 517 = .ok (.iload 4, 2) := by decide +kernel
theorem d_LW_law_519 : decode code 519 = .ok (.iconst 3, 1) := by decide +kernel
theorem d_LW_law_520 : decode code 520 = .ok (.iadd, 1) := by decide +kernel
theorem d_LW_law_521 : decode code 521 = .ok (.iaload, 1) := by decide +kernel
theorem d_LW_law_522 : decode code 522 = .ok (.invokevirtual 81, 3) := by decide +kernel
theorem d_LW_law_525 : decode code 525 = .ok (.aload_n 2, 1) := by decide +kernel
theorem d_LW_law_526 : decode code 526 = .ok (.aload_n 0, 1) := by decide +kernel
theorem d_LW_law_527 : decode code 527 = .ok (.iload 4, 2) := by decide +kernel
theorem d_LW_law_529 : decode code 529 = .ok (.iconst 1, 1) := by decide +kernel
theorem d_LW_law_530 : decode code 530 = .ok (.iadd, 1) := by decide +kernel
theorem d_LW_law_531 : decode code 531 = .ok (.iaload, 1) := by decide +kernel
theorem d_LW_law_532 : decode code 532 = .ok (.i2l, 1) := by decide +kernel
theorem d_LW_law_533 : decode code 533 = .ok (.bipush 32, 2) := by decide +kernel
theorem d_LW_law_535 : decode code 535 = .ok (.lshl, 1) := by decide +kernel
theorem d_LW_law_536 : decode code 536 = .ok (.aload_n 0, 1) := by decide +kernel
theorem d_LW_law_537 : decode code 537 = .ok (.iload 4, 2) := by decide +kernel
theorem d_LW_law_539 : decode code 539 = .ok (.iconst 2, 1) := by decide +kernel
theorem d_LW_law_540 : decode code 540 = .ok (.iadd, 1) := by decide +kernel
theorem d_LW_law_541 : decode code 541 = .ok (.iaload, 1) := by decide +kernel
theorem d_LW_law_542 : decode code 542 = .ok (.i2l, 1) := by decide +kernel
theorem d_LW_law_543 : decode code 543 = .ok (.ldc2_w 29, 3) := by decide +kernel
theorem d_LW_law_546 : decode code 546 = .ok (.land, 1) := by decide +kernel
theorem d_LW_law_547 : decode code 547 = .ok (.lor, 1) := by decide +kernel
theorem d_LW_law_548 : decode code 548 = .ok (.aload_n 0, 1) := by decide +kernel
theorem d_LW_law_549 : decode code 549 = .ok (.iload 4, 2) := by decide +kernel
theorem d_LW_law_551 : decode code 551 = .ok (.iconst 3, 1) := by decide +kernel
theorem d_LW_law_552 : decode code 552 = .ok (.iadd, 1) := by decide +kernel
theorem d_LW_law_553 : decode code 553 = .ok (.iaload, 1) := by decide +kernel
theorem d_LW_law_554 : decode code 554 = .ok (.invokevirtual 84, 3) := by decide +kernel
theorem d_LW_law_557 : decode code 557 = .ok (.if_icmp .eq 368, 3) := by decide +kernel
theorem d_LW_law_560 : decode code 560 = .ok (.iconst 0, 1) := by decide +kernel
theorem d_LW_law_561 : decode code 561 = .ok (.ireturn, 1) := by decide +kernel
theorem d_LW_law_562 : decode code 562 = .ok (.aload_n 1, 1) := by decide +kernel
theorem d_LW_law_563 : decode code 563 = .ok (.aload_n 0, 1) := by decide +kernel
theorem d_LW_law_564 : decode code 564 = .ok (.iload 4, 2) := by decide +kernel
theorem d_LW_law_566 : decode code 566 = .ok (.iconst 1, 1) := by decide +kernel
theorem d_LW_law_567 : decode code 567 = .ok (.iadd, 1) := by decide +kernel
theorem d_LW_law_568 : decode code 568 = .ok (.iaload, 1) := by decide +kernel
theorem d_LW_law_569 : decode code 569 = .ok (.invokevirtual 85, 3) := by decide +kernel
theorem d_LW_law_572 : decode code 572 = .ok (.aload_n 2, 1) := by decide +kernel
theorem d_LW_law_573 : decode code 573 = .ok (.aload_n 0, 1) := by decide +kernel
theorem d_LW_law_574 : decode code 574 = .ok (.iload 4, 2) := by decide +kernel
theorem d_LW_law_576 : decode code 576 = .ok (.iconst 1, 1) := by decide +kernel
theorem d_LW_law_577 : decode code 577 = .ok (.iadd, 1) := by decide +kernel
theorem d_LW_law_578 : decode code 578 = .ok (.iaload, 1) := by decide +kernel
theorem d_LW_law_579 : decode code 579 = .ok (.invokevirtual 88, 3) := by decide +kernel
theorem d_LW_law_582 : decode code 582 = .ok (.if_icmp .eq 343, 3) := by decide +kernel
theorem d_LW_law_585 : decode code 585 = .ok (.iconst 0, 1) := by decide +kernel
theorem d_LW_law_586 : decode code 586 = .ok (.ireturn, 1) := by decide +kernel
theorem d_LW_law_587 : decode code 587 = .ok (.aload_n 1, 1) := by decide +kernel
theorem d_LW_law_588 : decode code 588 = .ok (.invokevirtual 89, 3) := by decide +kernel
theorem d_LW_law_591 : decode code 591 = .ok (.aload_n 2, 1) := by decide +kernel
theorem d_LW_law_592 : decode code 592 = .ok (.invokevirtual 92, 3) := by decide +kernel
theorem d_LW_law_595 : decode code 595 = .ok (.goto 330, 3) := by decide +kernel
theorem d_LW_law_598 : decode code 598 = .ok (.aload_n 1, 1) := by decide +kernel
theorem d_LW_law_599 : decode code 599 = .ok (.invokevirtual 93, 3) := by decide +kernel
theorem d_LW_law_602 : decode code 602 = .ok (.aload_n 2, 1) := by decide +kernel
theorem d_LW_law_603 : decode code 603 = .ok (.invokevirtual 96, 3) := by decide +kernel
theorem d_LW_law_606 : decode code 606 = .ok (.if_icmp .eq 319, 3) := by decide +kernel
theorem d_LW_law_609 : decode code 609 = .ok (.iconst 0, 1) := by decide +kernel
theorem d_LW_law_610 : decode code 610 = .ok (.ireturn, 1) := by decide +kernel
theorem d_LW_law_611 : decode code 611 = .ok (.aload_n 1, 1) := by decide +kernel
theorem d_LW_law_612 : decode code 612 = .ok (.aload_n 0, 1) := by decide +kernel
theorem d_LW_law_613 : decode code 613 = .ok (.iload 4, 2) := by decide +kernel
theorem d_LW_law_615 : decode code 615 = .ok (.iconst 1, 1) := by decide +kernel
theorem d_LW_law_616 : decode code 616 = .ok (.iadd, 1) := by decide +kernel
theorem d_LW_law_617 : decode code 617 = .ok (.iaload, 1) := by decide +kernel
theorem d_LW_law_618 : decode code 618 = .ok (.aload_n 0, 1) := by decide +kernel
theorem d_LW_law_619 : decode code 619 = .ok (.iload 4, 2) := by decide +kernel
theorem d_LW_law_621 : decode code 621 = .ok (.iconst 2, 1) := by decide +kernel
theorem d_LW_law_622 : decode code 622 = .ok (.iadd, 1) := by decide +kernel
theorem d_LW_law_623 : decode code 623 = .ok (.iaload, 1) := by decide +kernel
theorem d_LW_law_624 : decode code 624 = .ok (.aload_n 0, 1) := by decide +kernel
theorem d_LW_law_625 : decode code 625 = .ok (.iload 4, 2) := by decide +kernel
theorem d_LW_law_627 : decode code 627 = .ok (.iconst 3, 1) := by decide +kernel
theorem d_LW_law_628 : decode code 628 = .ok (.iadd, 1) := by decide +kernel
theorem d_LW_law_629 : decode code 629 = .ok (.iaload, 1) := by decide +kernel
theorem d_LW_law_630 : decode code 630 = .ok (.aload_n 3, 1) := by decide +kernel
theorem d_LW_law_631 : decode code 631 = .ok (.invokestatic 97, 3) := by decide +kernel
theorem d_LW_law_634 : decode code 634 = .ok (.istore 5, 2) := by decide +kernel
theorem d_LW_law_636 : decode code 636 = .ok (.aload_n 2, 1) := by decide +kernel
theorem d_LW_law_637 : decode code 637 = .ok (.aload_n 0, 1) := by decide +kernel
theorem d_LW_law_638 : decode code 638 = .ok (.iload 4, 2) := by decide +kernel
theorem d_LW_law_640 : decode code 640 = .ok (.iconst 1, 1) := by decide +kernel
theorem d_LW_law_641 : decode code 641 = .ok (.iadd, 1) := by decide +kernel
theorem d_LW_law_642 : decode code 642 = .ok (.iaload, 1) := by decide +kernel
theorem d_LW_law_643 : decode code 643 = .ok (.aload_n 0, 1) := by decide +kernel
theorem d_LW_law_644 : decode code 644 = .ok (.iload 4, 2) := by decide +kernel
theorem d_LW_law_646 : decode code 646 = .ok (.iconst 2, 1) := by decide +kernel
theorem d_LW_law_647 : decode code 647 = .ok (.iadd, 1) := by decide +kernel
theorem d_LW_law_648 : decode code 648 = .ok (.iaload, 1) := by decide +kernel
theorem d_LW_law_649 : decode code 649 = .ok (.aload_n 0, 1) := by decide +kernel
theorem d_LW_law_650 : decode code 650 = .ok (.iload 4, 2) := by decide +kernel
theorem d_LW_law_652 : decode code 652 = .ok (.iconst 3, 1) := by decide +kernel
theorem d_LW_law_653 : decode code 653 = .ok (.iadd, 1) := by decide +kernel
theorem d_LW_law_654 : decode code 654 = .ok (.iaload, 1) := by decide +kernel
theorem d_LW_law_655 : decode code 655 = .ok (.invokevirtual 102, 3) := by decide +kernel
theorem d_LW_law_658 : decode code 658 = .ok (.istore 6, 2) := by decide +kernel
theorem d_LW_law_660 : decode code 660 = .ok (.aload_n 2, 1) := by decide +kernel
theorem d_LW_law_661 : decode code 661 = .ok (.invokevirtual 103, 3) := by decide +kernel
theorem d_LW_law_664 : decode code 664 = .ok (.iload 5, 2) := by decide +kernel
theorem d_LW_law_666 : decode code 666 = .ok (.if_icmp .eq 5, 3) := by decide +kernel
theorem d_LW_law_669 : decode code 669 = .ok (.iconst 0, 1) := by decide +kernel
theorem d_LW_law_670 : decode code 670 = .ok (.ireturn, 1) := by decide +kernel
theorem d_LW_law_671 : decode code 671 = .ok (.iload 5, 2) := by decide +kernel
theorem d_LW_law_673 : decode code 673 = .ok (.ifCond .ne 15, 3) := by decide +kernel
theorem d_LW_law_676 : decode code 676 = .ok (.aload_n 3, 1) := by decide +kernel
theorem d_LW_law_677 : decode code 677 = .ok (.iconst 0, 1) := by decide +kernel
theorem d_LW_law_678 : decode code 678 = .ok (.laload, 1) := by decide +kernel
theorem d_LW_law_679 : decode code 679 = .ok (.iload 6, 2) := by decide +kernel
theorem d_LW_law_681 : decode code 681 = .ok (.i2l, 1) := by decide +kernel
theorem d_LW_law_682 : decode code 682 = .ok (.lcmp, 1) := by decide +kernel
theorem d_LW_law_683 : decode code 683 = .ok (.ifCond .eq 5, 3) := by decide +kernel
theorem d_LW_law_686 : decode code 686 = .ok (.iconst 0, 1) := by decide +kernel
theorem d_LW_law_687 : decode code 687 = .ok (.ireturn, 1) := by decide +kernel
theorem d_LW_law_688 : decode code 688 = .ok (.goto 237, 3) := by decide +kernel
theorem d_LW_law_691 : decode code 691 = .ok (.aload_n 1, 1) := by decide +kernel
theorem d_LW_law_692 : decode code 692 = .ok (.aload_n 0, 1) := by decide +kernel
theorem d_LW_law_693 : decode code 693 = .ok (.iload 4, 2) := by decide +kernel
theorem d_LW_law_695 : decode code 695 = .ok (.iconst 1, 1) := by decide +kernel
theorem d_LW_law_696 : decode code 696 = .ok (.iadd, 1) := by decide +kernel
theorem d_LW_law_697 : decode code 697 = .ok (.iaload, 1) := by decide +kernel
theorem d_LW_law_698 : decode code 698 = .ok (.aload_n 0, 1) := by decide +kernel
theorem d_LW_law_699 : decode code 699 = .ok (.iload 4, 2) := by decide +kernel
theorem d_LW_law_701 : decode code 701 = .ok (.iconst 2, 1) := by decide +kernel
theorem d_LW_law_702 : decode code 702 = .ok (.iadd, 1) := by decide +kernel
theorem d_LW_law_703 : decode code 703 = .ok (.iaload, 1) := by decide +kernel
theorem d_LW_law_704 : decode code 704 = .ok (.aload_n 3, 1) := by decide +kernel
theorem d_LW_law_705 : decode code 705 = .ok (.invokestatic 106, 3) := by decide +kernel
theorem d_LW_law_708 : decode code 708 = .ok (.istore 5, 2) := by decide +kernel
theorem d_LW_law_710 : decode code 710 = .ok (.aload_n 2, 1) := by decide +kernel
theorem d_LW_law_711 : decode code 711 = .ok (.aload_n 0, 1) := by decide +kernel
theorem d_LW_law_712 : decode code 712 = .ok (.iload 4, 2) := by decide +kernel
theorem d_LW_law_714 : decode code 714 = .ok (.iconst 1, 1) := by decide +kernel
theorem d_LW_law_715 : decode code 715 = .ok (.iadd, 1) := by decide +kernel
theorem d_LW_law_716 : decode code 716 = .ok (.iaload, 1) := by decide +kernel
theorem d_LW_law_717 : decode code 717 = .ok (.aload_n 0, 1) := by decide +kernel
theorem d_LW_law_718 : decode code 718 = .ok (.iload 4, 2) := by decide +kernel
theorem d_LW_law_720 : decode code 720 = .ok (.iconst 2, 1) := by decide +kernel
theorem d_LW_law_721 : decode code 721 = .ok (.iadd, 1) := by decide +kernel
theorem d_LW_law_722 : decode code 722 = .ok (.iaload, 1) := by decide +kernel
theorem d_LW_law_723 : decode code 723 = .ok (.invokevirtual 109, 3) := by decide +kernel
theorem d_LW_law_726 : decode code 726 = .ok (.lstore 6, 2) := by decide +kernel
theorem d_LW_law_728 : decode code 728 = .ok (.aload_n 2, 1) := by decide +kernel
theorem d_LW_law_729 : decode code 729 = .ok (.invokevirtual 103, 3) := by decide +kernel
theorem d_LW_law_732 : decode code 732 = .ok (.iload 5, 2) := by decide +kernel
theorem d_LW_law_734 : decode code 734 = .ok (.if_icmp .eq 5, 3) := by decide +kernel
theorem d_LW_law_737 : decode code 737 = .ok (.iconst 0, 1) := by decide +kernel
theorem d_LW_law_738 : decode code 738 = .ok (.ireturn, 1) := by decide +kernel
theorem d_LW_law_739 : decode code 739 = .ok (.iload 5, 2) := by decide +kernel
theorem d_LW_law_741 : decode code 741 = .ok (.ifCond .ne 14, 3) := by decide +kernel
theorem d_LW_law_744 : decode code 744 = .ok (.aload_n 3, 1) := by decide +kernel
theorem d_LW_law_745 : decode code 745 = .ok (.iconst 0, 1) := by decide +kernel
theorem d_LW_law_746 : decode code 746 = .ok (.laload, 1) := by decide +kernel
theorem d_LW_law_747 : decode code 747 = .ok (.lload 6, 2) := by decide +kernel
theorem d_LW_law_749 : decode code 749 = .ok (.lcmp, 1) := by decide +kernel
theorem d_LW_law_750 : decode code 750 = .ok (.ifCond .eq 5, 3) := by decide +kernel
theorem d_LW_law_753 : decode code 753 = .ok (.iconst 0, 1) := by decide +kernel
theorem d_LW_law_754 : decode code 754 = .ok (.ireturn, 1) := by decide +kernel
theorem d_LW_law_755 : decode code 755 = .ok (.goto 170, 3) := by decide +kernel
theorem d_LW_law_758 : decode code 758 = .ok (.aload_n 1, 1) := by decide +kernel
theorem d_LW_law_759 : decode code 759 = .ok (.aload_n 0, 1) := by decide +kernel
theorem d_LW_law_760 : decode code 760 = .ok (.iload 4, 2) := by decide +kernel
theorem d_LW_law_762 : decode code 762 = .ok (.iconst 1, 1) := by decide +kernel
theorem d_LW_law_763 : decode code 763 = .ok (.iadd, 1) := by decide +kernel
theorem d_LW_law_764 : decode code 764 = .ok (.iaload, 1) := by decide +kernel
theorem d_LW_law_765 : decode code 765 = .ok (.aload_n 0, 1) := by decide +kernel
theorem d_LW_law_766 : decode code 766 = .ok (.iload 4, 2) := by decide +kernel
theorem d_LW_law_768 : decode code 768 = .ok (.iconst 2, 1) := by decide +kernel
theorem d_LW_law_769 : decode code 769 = .ok (.iadd, 1) := by decide +kernel
theorem d_LW_law_770 : decode code 770 = .ok (.iaload, 1) := by decide +kernel
theorem d_LW_law_771 : decode code 771 = .ok (.aload_n 0, 1) := by decide +kernel
theorem d_LW_law_772 : decode code 772 = .ok (.iload 4, 2) := by decide +kernel
theorem d_LW_law_774 : decode code 774 = .ok (.iconst 3, 1) := by decide +kernel
theorem d_LW_law_775 : decode code 775 = .ok (.iadd, 1) := by decide +kernel
theorem d_LW_law_776 : decode code 776 = .ok (.iaload, 1) := by decide +kernel
theorem d_LW_law_777 : decode code 777 = .ok (.invokevirtual 110, 3) := by decide +kernel
theorem d_LW_law_780 : decode code 780 = .ok (.aload_n 2, 1) := by decide +kernel
theorem d_LW_law_781 : decode code 781 = .ok (.aload_n 0, 1) := by decide +kernel
theorem d_LW_law_782 : decode code 782 = .ok (.iload 4, 2) := by decide +kernel
theorem d_LW_law_784 : decode code 784 = .ok (.iconst 1, 1) := by decide +kernel
theorem d_LW_law_785 : decode code 785 = .ok (.iadd, 1) := by decide +kernel
theorem d_LW_law_786 : decode code 786 = .ok (.iaload, 1) := by decide +kernel
theorem d_LW_law_787 : decode code 787 = .ok (.aload_n 0, 1) := by decide +kernel
theorem d_LW_law_788 : decode code 788 = .ok (.iload 4, 2) := by decide +kernel
theorem d_LW_law_790 : decode code 790 = .ok (.iconst 2, 1) := by decide +kernel
theorem d_LW_law_791 : decode code 791 = .ok (.iadd, 1) := by decide +kernel
theorem d_LW_law_792 : decode code 792 = .ok (.iaload, 1) := by decide +kernel
theorem d_LW_law_793 : decode code 793 = .ok (.aload_n 0, 1) := by decide +kernel
theorem d_LW_law_794 : decode code 794 = .ok (.iload 4, 2) := by decide +kernel
theorem d_LW_law_796 : decode code 796 = .ok (.iconst 3, 1) := by decide +kernel
theorem d_LW_law_797 : decode code 797 = .ok (.iadd, 1) := by decide +kernel
theorem d_LW_law_798 : decode code 798 = .ok (.iaload, 1) := by decide +kernel
theorem d_LW_law_799 : decode code 799 = .ok (.invokevirtual 113, 3) := by decide +kernel
theorem d_LW_law_802 : decode code 802 = .ok (.if_icmp .eq 123, 3) := by decide +kernel
theorem d_LW_law_805 : decode code 805 = .ok (.iconst 0, 1) := by decide +kernel
theorem d_LW_law_806 : decode code 806 = .ok (.ireturn, 1) := by decide +kernel
theorem d_LW_law_807 : decode code 807 = .ok (.aload_n 1, 1) := by decide +kernel
theorem d_LW_law_808 : decode code 808 = .ok (.aload_n 0, 1) := by decide +kernel
theorem d_LW_law_809 : decode code 809 = .ok (.iload 4, 2) := by decide +kernel
theorem d_LW_law_811 : decode code 811 = .ok (.iconst 1, 1) := by decide +kernel
theorem d_LW_law_812 : decode code 812 = .ok (.iadd, 1) := by decide +kernel
theorem d_LW_law_813 : decode code 813 = .ok (.iaload, 1) := by decide +kernel
theorem d_LW_law_814 : decode code 814 = .ok (.aload_n 0, 1) := by decide +kernel
theorem d_LW_law_815 : decode code 815 = .ok (.iload 4, 2) := by decide +kernel
theorem d_LW_law_817 : decode code 817 = .ok (.iconst 2, 1) := by decide +kernel
theorem d_LW_law_818 : decode code 818 = .ok (.iadd, 1) := by decide +kernel
theorem d_LW_law_819 : decode code 819 = .ok (.iaload, 1) := by decide +kernel
theorem d_LW_law_820 : decode code 820 = .ok (.aload_n 3, 1) := by decide +kernel
theorem d_LW_law_821 : decode code 821 = .ok (.invokestatic 114, 3) := by decide +kernel
theorem d_LW_law_824 : decode code 824 = .ok (.istore 5, 2) := by decide +kernel
theorem d_LW_law_826 : decode code 826 = .ok (.aload_n 2, 1) := by decide +kernel
theorem d_LW_law_827 : decode code 827 = .ok (.aload_n 0, 1) := by decide +kernel
theorem d_LW_law_828 : decode code 828 = .ok (.iload 4, 2) := by decide +kernel
theorem d_LW_law_830 : decode code 830 = .ok (.iconst 1, 1) := by decide +kernel
theorem d_LW_law_831 : decode code 831 = .ok (.iadd, 1) := by decide +kernel
theorem d_LW_law_832 : decode code 832 = .ok (.iaload, 1) := by decide +kernel
theorem d_LW_law_833 : decode code 833 = .ok (.aload_n 0, 1) := by decide +kernel
theorem d_LW_law_834 : decode code 834 = .ok (.iload 4, 2) := by decide +kernel
theorem d_LW_law_836 : decode code 836 = .ok (.iconst 2, 1) := by decide +kernel
theorem d_LW_law_837 : decode code 837 = .ok (.iadd, 1) := by decide +kernel
theorem d_LW_law_838 : decode code 838 = .ok (.iaload, 1) := by decide +kernel
theorem d_LW_law_839 : decode code 839 = .ok (.invokevirtual 116, 3) := by decide +kernel
theorem d_LW_law_842 : decode code 842 = .ok (.istore 6, 2) := by decide +kernel
theorem d_LW_law_844 : decode code 844 = .ok (.aload_n 2, 1) := by decide +kernel
theorem d_LW_law_845 : decode code 845 = .ok (.invokevirtual 103, 3) := by decide +kernel
theorem d_LW_law_848 : decode code 848 = .ok (.iload 5, 2) := by decide +kernel
theorem d_LW_law_850 : decode code 850 = .ok (.if_icmp .eq 5, 3) := by decide +kernel
theorem d_LW_law_853 : decode code 853 = .ok (.iconst 0, 1) := by decide +kernel
theorem d_LW_law_854 : decode code 854 = .ok (.ireturn, 1) := by decide +kernel
theorem d_LW_law_855 : decode code 855 = .ok (.iload 5, 2) := by decide +kernel
theorem d_LW_law_857 : decode code 857 = .ok (.ifCond .ne 15, 3) := by decide +kernel
theorem d_LW_law_860 : decode code 860 = .ok (.aload_n 3, 1) := by decide +kernel
theorem d_LW_law_861 : decode code 861 = .ok (.iconst 0, 1) := by decide +kernel
theorem d_LW_law_862 : decode code 862 = .ok (.laload, 1) := by decide +kernel
theorem d_LW_law_863 : decode code 863 = .ok (.iload 6, 2) := by decide +kernel
theorem d_LW_law_865 : decode code 865 = .ok (.i2l, 1) := by decide +kernel
theorem d_LW_law_866 : decode code 866 = .ok (.lcmp, 1) := by decide +kernel
theorem d_LW_law_867 : decode code 867 = .ok (.ifCond .eq 5, 3) := by decide +kernel
theorem d_LW_law_870 : decode code 870 = .ok (.iconst 0, 1) := by decide +kernel
theorem d_LW_law_871 : decode code 871 = .ok (.ireturn, 1) := by decide +kernel
theorem d_LW_law_872 : decode code 872 = .ok (.goto 53, 3) := by decide +kernel
theorem d_LW_law_875 : decode code 875 = .ok (.aload_n 1, 1) := by decide +kernel
theorem d_LW_law_876 : decode code 876 = .ok (.aload_n 0, 1) := by decide +kernel
theorem d_LW_law_877 : decode code 877 = .ok (.iload 4, 2) := by decide +kernel
theorem d_LW_law_879 : decode code 879 = .ok (.iconst 1, 1) := by decide +kernel
theorem d_LW_law_880 : decode code 880 = .ok (.iadd, 1) := by decide +kernel
theorem d_LW_law_881 : decode code 881 = .ok (.iaload, 1) := by decide +kernel
theorem d_LW_law_882 : decode code 882 = .ok (.invokevirtual 117, 3) := by decide +kernel
theorem d_LW_law_885 : decode code 885 = .ok (.aload_n 2, 1) := by decide +kernel
theorem d_LW_law_886 : decode code 886 = .ok (.aload_n 0, 1) := by decide +kernel
theorem d_LW_law_887 : decode code 887 = .ok (.iload 4, 2) := by decide +kernel
theorem d_LW_law_889 : decode code 889 = .ok (.iconst 1, 1) := by decide +kernel
theorem d_LW_law_890 : decode code 890 = .ok (.iadd, 1) := by decide +kernel
theorem d_LW_law_891 : decode code 891 = .ok (.iaload, 1) := by decide +kernel
theorem d_LW_law_892 : decode code 892 = .ok (.invokevirtual 121, 3) := by decide +kernel
theorem d_LW_law_895 : decode code 895 = .ok (.if_icmp .eq 30, 3) := by decide +kernel
theorem d_LW_law_898 : decode code 898 = .ok (.iconst 0, 1) := by decide +kernel
theorem d_LW_law_899 : decode code 899 = .ok (.ireturn, 1) := by decide +kernel
theorem d_LW_law_900 : decode code 900 = .ok (.aload_n 1, 1) := by decide +kernel
theorem d_LW_law_901 : decode code 901 = .ok (.aload_n 0, 1) := by decide +kernel
theorem d_LW_law_902 : decode code 902 = .ok (.iload 4, 2) := by decide +kernel
theorem d_LW_law_904 : decode code 904 = .ok (.iconst 1, 1) := by decide +kernel
theorem d_LW_law_905 : decode code 905 = .ok (.iadd, 1) := by decide +kernel
theorem d_LW_law_906 : decode code 906 = .ok (.iaload, 1) := by decide +kernel
theorem d_LW_law_907 : decode code 907 = .ok (.invokevirtual 122, 3) := by decide +kernel
theorem d_LW_law_910 : decode code 910 = .ok (.aload_n 2, 1) := by decide +kernel
theorem d_LW_law_911 : decode code 911 = .ok (.aload_n 0, 1) := by decide +kernel
theorem d_LW_law_912 : decode code 912 = .ok (.iload 4, 2) := by decide +kernel
theorem d_LW_law_914 : decode code 914 = .ok (.iconst 1, 1) := by decide +kernel
theorem d_LW_law_915 : decode code 915 = .ok (.iadd, 1) := by decide +kernel
theorem d_LW_law_916 : decode code 916 = .ok (.iaload, 1) := by decide +kernel
theorem d_LW_law_917 : decode code 917 = .ok (.invokevirtual 125, 3) := by decide +kernel
theorem d_LW_law_920 : decode code 920 = .ok (.if_icmp .eq 5, 3) := by decide +kernel
theorem d_LW_law_923 : decode code 923 = .ok (.iconst 0, 1) := by decide +kernel
theorem d_LW_law_924 : decode code 924 = .ok (.ireturn, 1) := by decide +kernel
theorem d_LW_law_925 : decode code 925 = .ok (.iinc 4 4, 3) := by decide +kernel
theorem d_LW_law_928 : decode code 928 = .ok (.goto (-905), 3) := by decide +kernel
theorem d_LW_law_931 : decode code 931 = .ok (.iconst 1, 1) := by decide +kernel
theorem d_LW_law_932 : decode code 932 = .ok (.ireturn, 1) := by decide +kernel
