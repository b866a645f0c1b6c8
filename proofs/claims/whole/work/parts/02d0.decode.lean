/-! decode rows (written by wip/whole/gen4.py) -/
theorem d0_0 : decode (ix_by 0) 0 = .ok (.new 8, 3) := by decide +kernel
theorem d0_3 : decode (ix_by 0) 3 = .ok (.dup, 1) := by decide +kernel
theorem d0_4 : decode (ix_by 0) 4 = .ok (.aload_n 0, 1) := by decide +kernel
theorem d0_5 : decode (ix_by 0) 5 = .ok (.iconst 0, 1) := by decide +kernel
theorem d0_6 : decode (ix_by 0) 6 = .ok (.invokestatic 33, 3) := by decide +kernel
theorem d0_9 : decode (ix_by 0) 9 = .ok (.invokespecial 39, 3) := by decide +kernel
theorem d0_12 : decode (ix_by 0) 12 = .ok (.astore_n 1, 1) := by decide +kernel
theorem d0_13 : decode (ix_by 0) 13 = .ok (.new 42, 3) := by decide +kernel
theorem d0_16 : decode (ix_by 0) 16 = .ok (.dup, 1) := by decide +kernel
theorem d0_17 : decode (ix_by 0) 17 = .ok (.aload_n 0, 1) := by decide +kernel
theorem d0_18 : decode (ix_by 0) 18 = .ok (.iconst 0, 1) := by decide +kernel
theorem d0_19 : decode (ix_by 0) 19 = .ok (.invokestatic 33, 3) := by decide +kernel
theorem d0_22 : decode (ix_by 0) 22 = .ok (.invokespecial 44, 3) := by decide +kernel
theorem d0_25 : decode (ix_by 0) 25 = .ok (.astore_n 2, 1) := by decide +kernel
theorem d0_26 : decode (ix_by 0) 26 = .ok (.iconst 1, 1) := by decide +kernel
theorem d0_27 : decode (ix_by 0) 27 = .ok (.newarray .long, 2) := by decide +kernel
theorem d0_29 : decode (ix_by 0) 29 = .ok (.astore_n 3, 1) := by decide +kernel
theorem d0_30 : decode (ix_by 0) 30 = .ok (.iconst 1, 1) := by decide +kernel
theorem d0_31 : decode (ix_by 0) 31 = .ok (.istore 4, 2) := by decide +kernel
theorem d0_33 : decode (ix_by 0) 33 = .ok (.iload 4, 2) := by decide +kernel
theorem d0_35 : decode (ix_by 0) 35 = .ok (.aload_n 0, 1) := by decide +kernel
theorem d0_36 : decode (ix_by 0) 36 = .ok (.arraylength, 1) := by decide +kernel
theorem d0_37 : decode (ix_by 0) 37 = .ok (.bipush 7, 2) := by decide +kernel
theorem d0_39 : decode (ix_by 0) 39 = .ok (.isub, 1) := by decide +kernel
theorem d0_40 : decode (ix_by 0) 40 = .ok (.if_icmp .gt 961, 3) := by decide +kernel
theorem d0_43 : decode (ix_by 0) 43 = .ok (.aload_n 0, 1) := by decide +kernel
theorem d0_44 : decode (ix_by 0) 44 = .ok (.iload 4, 2) := by decide +kernel
theorem d0_46 : decode (ix_by 0) 46 = .ok (.iaload, 1) := by decide +kernel
theorem d0_47 : decode (ix_by 0) 47 = .ok (.bipush 31, 2) := by decide +kernel
theorem d0_49 : decode (ix_by 0) 49 = .ok (.iand, 1) := by decide +kernel
theorem d0_50 : decode (ix_by 0) 50 = .ok (.tableswitch 945 0 17 #[86, 123, 247, 322, 359, 439, 557, 594, 659, 672, 697, 722, 747, 784, 797, 834, 871, 908], 86) := by decide +kernel
theorem d0_136 : decode (ix_by 0) 136 = .ok (.aload_n 1, 1) := by decide +kernel
theorem d0_137 : decode (ix_by 0) 137 = .ok (.aload_n 0, 1) := by decide +kernel
theorem d0_138 : decode (ix_by 0) 138 = .ok (.iload 4, 2) := by decide +kernel
theorem d0_140 : decode (ix_by 0) 140 = .ok (.iconst 1, 1) := by decide +kernel
theorem d0_141 : decode (ix_by 0) 141 = .ok (.iadd, 1) := by decide +kernel
theorem d0_142 : decode (ix_by 0) 142 = .ok (.iaload, 1) := by decide +kernel
theorem d0_143 : decode (ix_by 0) 143 = .ok (.aload_n 0, 1) := by decide +kernel
theorem d0_144 : decode (ix_by 0) 144 = .ok (.iload 4, 2) := by decide +kernel
theorem d0_146 : decode (ix_by 0) 146 = .ok (.iconst 2, 1) := by decide +kernel
theorem d0_147 : decode (ix_by 0) 147 = .ok (.iadd, 1) := by decide +kernel
theorem d0_148 : decode (ix_by 0) 148 = .ok (.iaload, 1) := by decide +kernel
theorem d0_149 : decode (ix_by 0) 149 = .ok (.invokevirtual 45, 3) := by decide +kernel
theorem d0_152 : decode (ix_by 0) 152 = .ok (.aload_n 2, 1) := by decide +kernel
theorem d0_153 : decode (ix_by 0) 153 = .ok (.aload_n 0, 1) := by decide +kernel
theorem d0_154 : decode (ix_by 0) 154 = .ok (.iload 4, 2) := by decide +kernel
theorem d0_156 : decode (ix_by 0) 156 = .ok (.iconst 1, 1) := by decide +kernel
theorem d0_157 : decode (ix_by 0) 157 = .ok (.iadd, 1) := by decide +kernel
theorem d0_158 : decode (ix_by 0) 158 = .ok (.iaload, 1) := by decide +kernel
theorem d0_159 : decode (ix_by 0) 159 = .ok (.aload_n 0, 1) := by decide +kernel
theorem d0_160 : decode (ix_by 0) 160 = .ok (.iload 4, 2) := by decide +kernel
theorem d0_162 : decode (ix_by 0) 162 = .ok (.iconst 2, 1) := by decide +kernel
theorem d0_163 : decode (ix_by 0) 163 = .ok (.iadd, 1) := by decide +kernel
theorem d0_164 : decode (ix_by 0) 164 = .ok (.iaload, 1) := by decide +kernel
theorem d0_165 : decode (ix_by 0) 165 = .ok (.invokevirtual 48, 3) := by decide +kernel
theorem d0_168 : decode (ix_by 0) 168 = .ok (.if_icmp .eq 827, 3) := by decide +kernel
theorem d0_171 : decode (ix_by 0) 171 = .ok (.iconst 0, 1) := by decide +kernel
theorem d0_172 : decode (ix_by 0) 172 = .ok (.ireturn, 1) := by decide +kernel
theorem d0_173 : decode (ix_by 0) 173 = .ok (.aload_n 1, 1) := by decide +kernel
theorem d0_174 : decode (ix_by 0) 174 = .ok (.aload_n 0, 1) := by decide +kernel
theorem d0_175 : decode (ix_by 0) 175 = .ok (.iload 4, 2) := by decide +kernel
theorem d0_177 : decode (ix_by 0) 177 = .ok (.iconst 1, 1) := by decide +kernel
theorem d0_178 : decode (ix_by 0) 178 = .ok (.iadd, 1) := by decide +kernel
theorem d0_179 : decode (ix_by 0) 179 = .ok (.iaload, 1) := by decide +kernel
theorem d0_180 : decode (ix_by 0) 180 = .ok (.aload_n 0, 1) := by decide +kernel
theorem d0_181 : decode (ix_by 0) 181 = .ok (.iload 4, 2) := by decide +kernel
theorem d0_183 : decode (ix_by 0) 183 = .ok (.iconst 2, 1) := by decide +kernel
theorem d0_184 : decode (ix_by 0) 184 = .ok (.iadd, 1) := by decide +kernel
theorem d0_185 : decode (ix_by 0) 185 = .ok (.iaload, 1) := by decide +kernel
theorem d0_186 : decode (ix_by 0) 186 = .ok (.aload_n 0, 1) := by decide +kernel
theorem d0_187 : decode (ix_by 0) 187 = .ok (.iload 4, 2) := by decide +kernel
theorem d0_189 : decode (ix_by 0) 189 = .ok (.iconst 3, 1) := by decide +kernel
theorem d0_190 : decode (ix_by 0) 190 = .ok (.iadd, 1) := by decide +kernel
theorem d0_191 : decode (ix_by 0) 191 = .ok (.iaload, 1) := by decide +kernel
theorem d0_192 : decode (ix_by 0) 192 = .ok (.aload_n 0, 1) := by decide +kernel
theorem d0_193 : decode (ix_by 0) 193 = .ok (.iload 4, 2) := by decide +kernel
theorem d0_195 : decode (ix_by 0) 195 = .ok (.iconst 4, 1) := by decide +kernel
theorem d0_196 : decode (ix_by 0) 196 = .ok (.iadd, 1) := by decide +kernel
theorem d0_197 : decode (ix_by 0) 197 = .ok (.iaload, 1) := by decide +kernel
theorem d0_198 : decode (ix_by 0) 198 = .ok (.i2l, 1) := by decide +kernel
theorem d0_199 : decode (ix_by 0) 199 = .ok (.bipush 32, 2) := by decide +kernel
theorem d0_201 : decode (ix_by 0) 201 = .ok (.lshl, 1) := by decide +kernel
theorem d0_202 : decode (ix_by 0) 202 = .ok (.aload_n 0, 1) := by decide +kernel
theorem d0_203 : decode (ix_by 0) 203 = .ok (.iload 4, 2) := by decide +kernel
theorem d0_205 : decode (ix_by 0) 205 = .ok (.iconst 5, 1) := by decide +kernel
theorem d0_206 : decode (ix_by 0) 206 = .ok (.iadd, 1) := by decide +kernel
theorem d0_207 : decode (ix_by 0) 207 = .ok (.iaload, 1) := by decide +kernel
theorem d0_208 : decode (ix_by 0) 208 = .ok (.i2l, 1) := by decide +kernel
theorem d0_209 : decode (ix_by 0) 209 = .ok (.ldc2_w 49, 3) := by decide +kernel
theorem d0_212 : decode (ix_by 0) 212 = .ok (.land, 1) := by decide +kernel
theorem d0_213 : decode (ix_by 0) 213 = .ok (.lor, 1) := by decide +kernel
theorem d0_214 : decode (ix_by 0) 214 = .ok (.aload_n 3, 1) := by decide +kernel
theorem d0_215 : decode (ix_by 0) 215 = .ok (.invokestatic 51, 3) := by decide +kernel
theorem d0_218 : decode (ix_by 0) 218 = .ok (.istore 5, 2) := by decide +kernel
theorem d0_220 : decode (ix_by 0) 220 = .ok (.aload_n 2, 1) := by decide +kernel
theorem d0_221 : decode (ix_by 0) 221 = .ok (.aload_n 0, 1) := by decide +kernel
theorem d0_222 : decode (ix_by 0) 222 = .ok (.iload 4, 2) := by decide +kernel
theorem d0_224 : decode (ix_by 0) 224 = .ok (.iconst 1, 1) := by decide +kernel
theorem d0_225 : decode (ix_by 0) 225 = .ok (.iadd, 1) := by decide +kernel
theorem d0_226 : decode (ix_by 0) 226 = .ok (.iaload, 1) := by decide +kernel
theorem d0_227 : decode (ix_by 0) 227 = .ok (.aload_n 0, 1) := by decide +kernel
theorem d0_228 : decode (ix_by 0) 228 = .ok (.iload 4, 2) := by decide +kernel
theorem d0_230 : decode (ix_by 0) 230 = .ok (.iconst 2, 1) := by decide +kernel
theorem d0_231 : decode (ix_by 0) 231 = .ok (.iadd, 1) := by decide +kernel
theorem d0_232 : decode (ix_by 0) 232 = .ok (.iaload, 1) := by decide +kernel
theorem d0_233 : decode (ix_by 0) 233 = .ok (.aload_n 0, 1) := by decide +kernel
theorem d0_234 : decode (ix_by 0) 234 = .ok (.iload 4, 2) := by decide +kernel
theorem d0_236 : decode (ix_by 0) 236 = .ok (.iconst 3, 1) := by decide +kernel
theorem d0_237 : decode (ix_by 0) 237 = .ok (.iadd, 1) := by decide +kernel
theorem d0_238 : decode (ix_by 0) 238 = .ok (.iaload, 1) := by decide +kernel
theorem d0_239 : decode (ix_by 0) 239 = .ok (.aload_n 0, 1) := by decide +kernel
theorem d0_240 : decode (ix_by 0) 240 = .ok (.iload 4, 2) := by decide +kernel
theorem d0_242 : decode (ix_by 0) 242 = .ok (.iconst 4, 1) := by decide +kernel
theorem d0_243 : decode (ix_by 0) 243 = .ok (.iadd, 1) := by decide +kernel
theorem d0_244 : decode (ix_by 0) 244 = .ok (.iaload, 1) := by decide +kernel
theorem d0_245 : decode (ix_by 0) 245 = .ok (.i2l, 1) := by decide +kernel
theorem d0_246 : decode (ix_by 0) 246 = .ok (.bipush 32, 2) := by decide +kernel
theorem d0_248 : decode (ix_by 0) 248 = .ok (.lshl, 1) := by decide +kernel
theorem d0_249 : decode (ix_by 0) 249 = .ok (.aload_n 0, 1) := by decide +kernel
theorem d0_250 : decode (ix_by 0) 250 = .ok (.iload 4, 2) := by decide +kernel
theorem d0_252 : decode (ix_by 0) 252 = .ok (.iconst 5, 1) := by decide +kernel
theorem d0_253 : decode (ix_by 0) 253 = .ok (.iadd, 1) := by decide +kernel
theorem d0_254 : decode (ix_by 0) 254 = .ok (.iaload, 1) := by decide +kernel
theorem d0_255 : decode (ix_by 0) 255 = .ok (.i2l, 1) := by decide +kernel
theorem d0_256 : decode (ix_by 0) 256 = .ok (.ldc2_w 49, 3) := by decide +kernel
theorem d0_259 : decode (ix_by 0) 259 = .ok (.land, 1) := by decide +kernel
theorem d0_260 : decode (ix_by 0) 260 = .ok (.lor, 1) := by decide +kernel
theorem d0_261 : decode (ix_by 0) 261 = .ok (.invokevirtual 54, 3) := by decide +kernel
theorem d0_264 : decode (ix_by 0) 264 = .ok (.istore 6, 2) := by decide +kernel
theorem d0_266 : decode (ix_by 0) 266 = .ok (.aload_n 2, 1) := by decide +kernel
theorem d0_267 : decode (ix_by 0) 267 = .ok (.invokevirtual 55, 3) := by decide +kernel
theorem d0_270 : decode (ix_by 0) 270 = .ok (.iload 5, 2) := by decide +kernel
theorem d0_272 : decode (ix_by 0) 272 = .ok (.if_icmp .eq 5, 3) := by decide +kernel
theorem d0_275 : decode (ix_by 0) 275 = .ok (.iconst 0, 1) := by decide +kernel
theorem d0_276 : decode (ix_by 0) 276 = .ok (.ireturn, 1) := by decide +kernel
theorem d0_277 : decode (ix_by 0) 277 = .ok (.iload 5, 2) := by decide +kernel
theorem d0_279 : decode (ix_by 0) 279 = .ok (.ifCond .ne 15, 3) := by decide +kernel
theorem d0_282 : decode (ix_by 0) 282 = .ok (.aload_n 3, 1) := by decide +kernel
theorem d0_283 : decode (ix_by 0) 283 = .ok (.iconst 0, 1) := by decide +kernel
theorem d0_284 : decode (ix_by 0) 284 = .ok (.laload, 1) := by decide +kernel
theorem d0_285 : decode (ix_by 0) 285 = .ok (.iload 6, 2) := by decide +kernel
theorem d0_287 : decode (ix_by 0) 287 = .ok (.i2l, 1) := by decide +kernel
theorem d0_288 : decode (ix_by 0) 288 = .ok (.lcmp, 1) := by decide +kernel
theorem d0_289 : decode (ix_by 0) 289 = .ok (.ifCond .eq 5, 3) := by decide +kernel
theorem d0_292 : decode (ix_by 0) 292 = .ok (.iconst 0, 1) := by decide +kernel
theorem d0_293 : decode (ix_by 0) 293 = .ok (.ireturn, 1) := by decide +kernel
theorem d0_294 : decode (ix_by 0) 294 = .ok (.goto 701, 3) := by decide +kernel
theorem d0_297 : decode (ix_by 0) 297 = .ok (.aload_n 1, 1) := by decide +kernel
theorem d0_298 : decode (ix_by 0) 298 = .ok (.aload_n 0, 1) := by decide +kernel
theorem d0_299 : decode (ix_by 0) 299 = .ok (.iload 4, 2) := by decide +kernel
theorem d0_301 : decode (ix_by 0) 301 = .ok (.iconst 1, 1) := by decide +kernel
theorem d0_302 : decode (ix_by 0) 302 = .ok (.iadd, 1) := by decide +kernel
theorem d0_303 : decode (ix_by 0) 303 = .ok (.iaload, 1) := by decide +kernel
theorem d0_304 : decode (ix_by 0) 304 = .ok (.aload_n 0, 1) := by decide +kernel
theorem d0_305 : decode (ix_by 0) 305 = .ok (.iload 4, 2) := by decide +kernel
theorem d0_307 : decode (ix_by 0) 307 = .ok (.iconst 2, 1) := by decide +kernel
theorem d0_308 : decode (ix_by 0) 308 = .ok (.iadd, 1) := by decide +kernel
theorem d0_309 : decode (ix_by 0) 309 = .ok (.iaload, 1) := by decide +kernel
theorem d0_310 : decode (ix_by 0) 310 = .ok (.aload_n 3, 1) := by decide +kernel
theorem d0_311 : decode (ix_by 0) 311 = .ok (.invokestatic 59, 3) := by decide +kernel
theorem d0_314 : decode (ix_by 0) 314 = .ok (.istore 5, 2) := by decide +kernel
theorem d0_316 : decode (ix_by 0) 316 = .ok (.aload_n 2, 1) := by decide +kernel
theorem d0_317 : decode (ix_by 0) 317 = .ok (.aload_n 0, 1) := by decide +kernel
theorem d0_318 : decode (ix_by 0) 318 = .ok (.iload 4, 2) := by decide +kernel
theorem d0_320 : decode (ix_by 0) 320 = .ok (.iconst 1, 1) := by decide +kernel
theorem d0_321 : decode (ix_by 0) 321 = .ok (.iadd, 1) := by decide +kernel
theorem d0_322 : decode (ix_by 0) 322 = .ok (.iaload, 1) := by decide +kernel
theorem d0_323 : decode (ix_by 0) 323 = .ok (.aload_n 0, 1) := by decide +kernel
theorem d0_324 : decode (ix_by 0) 324 = .ok (.iload 4, 2) := by decide +kernel
theorem d0_326 : decode (ix_by 0) 326 = .ok (.iconst 2, 1) := by decide +kernel
theorem d0_327 : decode (ix_by 0) 327 = .ok (.iadd, 1) := by decide +kernel
theorem d0_328 : decode (ix_by 0) 328 = .ok (.iaload, 1) := by decide +kernel
theorem d0_329 : decode (ix_by 0) 329 = .ok (.invokevirtual 62, 3) := by decide +kernel
theorem d0_332 : decode (ix_by 0) 332 = .ok (.istore 6, 2) := by decide +kernel
theorem d0_334 : decode (ix_by 0) 334 = .ok (.aload_n 2, 1) := by decide +kernel
theorem d0_335 : decode (ix_by 0) 335 = .ok (.invokevirtual 55, 3) := by decide +kernel
theorem d0_338 : decode (ix_by 0) 338 = .ok (.iload 5, 2) := by decide +kernel
theorem d0_340 : decode (ix_by 0) 340 = .ok (.if_icmp .eq 5, 3) := by decide +kernel
theorem d0_343 : decode (ix_by 0) 343 = .ok (.iconst 0, 1) := by decide +kernel
theorem d0_344 : decode (ix_by 0) 344 = .ok (.ireturn, 1) := by decide +kernel
theorem d0_345 : decode (ix_by 0) 345 = .ok (.iload 5, 2) := by decide +kernel
theorem d0_347 : decode (ix_by 0) 347 = .ok (.ifCond .ne 22, 3) := by decide +kernel
theorem d0_350 : decode (ix_by 0) 350 = .ok (.aload_n 3, 1) := by decide +kernel
theorem d0_351 : decode (ix_by 0) 351 = .ok (.iconst 0, 1) := by decide +kernel
theorem d0_352 : decode (ix_by 0) 352 = .ok (.laload, 1) := by decide +kernel
theorem d0_353 : decode (ix_by 0) 353 = .ok (.iload 6, 2) := by decide +kernel
theorem d0_355 : decode (ix_by 0) 355 = .ok (.ifCond .eq 7, 3) := by decide +kernel
theorem d0_358 : decode (ix_by 0) 358 = .ok (.lconst 1, 1) := by decide +kernel
theorem d0_359 : decode (ix_by 0) 359 = .ok (.goto 4, 3) := by decide +kernel
theorem d0_362 : decode (ix_by 0) 362 = .ok (.lconst 0, 1) := by decide +kernel
theorem d0_363 : decode (ix_by 0) 363 = .ok (.lcmp, 1) := by decide +kernel
theorem d0_364 : decode (ix_by 0) 364 = .ok (.ifCond .eq 5, 3) := by decide +kernel
theorem d0_367 : decode (ix_by 0) 367 = .ok (.iconst 0, 1) := by decide +kernel
theorem d0_368 : decode (ix_by 0) 368 = .ok (.ireturn, 1) := by decide +kernel
theorem d0_369 : decode (ix_by 0) 369 = .ok (.goto 626, 3) := by decide +kernel
theorem d0_372 : decode (ix_by 0) 372 = .ok (.aload_n 1, 1) := by decide +kernel
theorem d0_373 : decode (ix_by 0) 373 = .ok (.aload_n 0, 1) := by decide +kernel
theorem d0_374 : decode (ix_by 0) 374 = .ok (.iload 4, 2) := by decide +kernel
theorem d0_376 : decode (ix_by 0) 376 = .ok (.iconst 1, 1) := by decide +kernel
theorem d0_377 : decode (ix_by 0) 377 = .ok (.iadd, 1) := by decide +kernel
theorem d0_378 : decode (ix_by 0) 378 = .ok (.iaload, 1) := by decide +kernel
theorem d0_379 : decode (ix_by 0) 379 = .ok (.aload_n 0, 1) := by decide +kernel
theorem d0_380 : decode (ix_by 0) 380 = .ok (.iload 4, 2) := by decide +kernel
theorem d0_382 : decode (ix_by 0) 382 = .ok (.iconst 2, 1) := by decide +kernel
theorem d0_383 : decode (ix_by 0) 383 = .ok (.iadd, 1) := by decide +kernel
theorem d0_384 : decode (ix_by 0) 384 = .ok (.iaload, 1) := by decide +kernel
theorem d0_385 : decode (ix_by 0) 385 = .ok (.invokevirtual 63, 3) := by decide +kernel
theorem d0_388 : decode (ix_by 0) 388 = .ok (.aload_n 2, 1) := by decide +kernel
theorem d0_389 : decode (ix_by 0) 389 = .ok (.aload_n 0, 1) := by decide +kernel
theorem d0_390 : decode (ix_by 0) 390 = .ok (.iload 4, 2) := by decide +kernel
theorem d0_392 : decode (ix_by 0) 392 = .ok (.iconst 1, 1) := by decide +kernel
theorem d0_393 : decode (ix_by 0) 393 = .ok (.iadd, 1) := by decide +kernel
theorem d0_394 : decode (ix_by 0) 394 = .ok (.iaload, 1) := by decide +kernel
theorem d0_395 : decode (ix_by 0) 395 = .ok (.aload_n 0, 1) := by decide +kernel
theorem d0_396 : decode (ix_by 0) 396 = .ok (.iload 4, 2) := by decide +kernel
theorem d0_398 : decode (ix_by 0) 398 = .ok (.iconst 2, 1) := by decide +kernel
theorem d0_399 : decode (ix_by 0) 399 = .ok (.iadd, 1) := by decide +kernel
theorem d0_400 : decode (ix_by 0) 400 = .ok (.iaload, 1) := by decide +kernel
theorem d0_401 : decode (ix_by 0) 401 = .ok (.invokevirtual 67, 3) := by decide +kernel
theorem d0_404 : decode (ix_by 0) 404 = .ok (.if_icmp .eq 591, 3) := by decide +kernel
theorem d0_407 : decode (ix_by 0) 407 = .ok (.iconst 0, 1) := by decide +kernel
theorem d0_408 : decode (ix_by 0) 408 = .ok (.ireturn, 1) := by decide +kernel
theorem d0_409 : decode (ix_by 0) 409 = .ok (.aload_n 1, 1) := by decide +kernel
theorem d0_410 : decode (ix_by 0) 410 = .ok (.aload_n 0, 1) := by decide +kernel
theorem d0_411 : decode (ix_by 0) 411 = .ok (.iload 4, 2) := by decide +kernel
theorem d0_413 : decode (ix_by 0) 413 = .ok (.iconst 1, 1) := by decide +kernel
theorem d0_414 : decode (ix_by 0) 414 = .ok (.iadd, 1) := by decide +kernel
theorem d0_415 : decode (ix_by 0) 415 = .ok (.iaload, 1) := by decide +kernel
theorem d0_416 : decode (ix_by 0) 416 = .ok (.aload_n 0, 1) := by decide +kernel
theorem d0_417 : decode (ix_by 0) 417 = .ok (.iload 4, 2) := by decide +kernel
theorem d0_419 : decode (ix_by 0) 419 = .ok (.iconst 2, 1) := by decide +kernel
theorem d0_420 : decode (ix_by 0) 420 = .ok (.iadd, 1) := by decide +kernel
theorem d0_421 : decode (ix_by 0) 421 = .ok (.iaload, 1) := by decide +kernel
theorem d0_422 : decode (ix_by 0) 422 = .ok (.aload_n 0, 1) := by decide +kernel
theorem d0_423 : decode (ix_by 0) 423 = .ok (.iload 4, 2) := by decide +kernel
theorem d0_425 : decode (ix_by 0) 425 = .ok (.iconst 3, 1) := by decide +kernel
theorem d0_426 : decode (ix_by 0) 426 = .ok (.iadd, 1) := by decide +kernel
theorem d0_427 : decode (ix_by 0) 427 = .ok (.iaload, 1) := by decide +kernel
theorem d0_428 : decode (ix_by 0) 428 = .ok (.aload_n 3, 1) := by decide +kernel
theorem d0_429 : decode (ix_by 0) 429 = .ok (.invokestatic 68, 3) := by decide +kernel
theorem d0_432 : decode (ix_by 0) 432 = .ok (.istore 5, 2) := by decide +kernel
theorem d0_434 : decode (ix_by 0) 434 = .ok (.aload_n 2, 1) := by decide +kernel
theorem d0_435 : decode (ix_by 0) 435 = .ok (.aload_n 0, 1) := by decide +kernel
theorem d0_436 : decode (ix_by 0) 436 = .ok (.iload 4, 2) := by decide +kernel
theorem d0_438 : decode (ix_by 0) 438 = .ok (.iconst 1, 1) := by decide +kernel
theorem d0_439 : decode (ix_by 0) 439 = .ok (.iadd, 1) := by decide +kernel
theorem d0_440 : decode (ix_by 0) 440 = .ok (.iaload, 1) := by decide +kernel
theorem d0_441 : decode (ix_by 0) 441 = .ok (.aload_n 0, 1) := by decide +kernel
theorem d0_442 : decode (ix_by 0) 442 = .ok (.iload 4, 2) := by decide +kernel
theorem d0_444 : decode (ix_by 0) 444 = .ok (.iconst 2, 1) := by decide +kernel
theorem d0_445 : decode (ix_by 0) 445 = .ok (.iadd, 1) := by decide +kernel
theorem d0_446 : decode (ix_by 0) 446 = .ok (.iaload, 1) := by decide +kernel
theorem d0_447 : decode (ix_by 0) 447 = .ok (.aload_n 0, 1) := by decide +kernel
theorem d0_448 : decode (ix_by 0) 448 = .ok (.iload 4, 2) := by decide +kernel
theorem d0_450 : decode (ix_by 0) 450 = .ok (.iconst 3, 1) := by decide +kernel
theorem d0_451 : decode (ix_by 0) 451 = .ok (.iadd, 1) := by decide +kernel
theorem d0_452 : decode (ix_by 0) 452 = .ok (.iaload, 1) := by decide +kernel
theorem d0_453 : decode (ix_by 0) 453 = .ok (.invokevirtual 71, 3) := by decide +kernel
theorem d0_456 : decode (ix_by 0) 456 = .ok (.istore 6, 2) := by decide +kernel
theorem d0_458 : decode (ix_by 0) 458 = .ok (.aload_n 2, 1) := by decide +kernel
theorem d0_459 : decode (ix_by 0) 459 = .ok (.invokevirtual 55, 3) := by decide +kernel
theorem d0_462 : decode (ix_by 0) 462 = .ok (.iload 5, 2) := by decide +kernel
theorem d0_464 : decode (ix_by 0) 464 = .ok (.if_icmp .eq 5, 3) := by decide +kernel
theorem d0_467 : decode (ix_by 0) 467 = .ok (.iconst 0, 1) := by decide +kernel
theorem d0_468 : decode (ix_by 0) 468 = .ok (.ireturn, 1) := by decide +kernel
theorem d0_469 : decode (ix_by 0) 469 = .ok (.iload 5, 2) := by decide +kernel
theorem d0_471 : decode (ix_by 0) 471 = .ok (.ifCond .ne 15, 3) := by decide +kernel
theorem d0_474 : decode (ix_by 0) 474 = .ok (.aload_n 3, 1) := by decide +kernel
theorem d0_475 : decode (ix_by 0) 475 = .ok (.iconst 0, 1) := by decide +kernel
theorem d0_476 : decode (ix_by 0) 476 = .ok (.laload, 1) := by decide +kernel
theorem d0_477 : decode (ix_by 0) 477 = .ok (.iload 6, 2) := by decide +kernel
theorem d0_479 : decode (ix_by 0) 479 = .ok (.i2l, 1) := by decide +kernel
theorem d0_480 : decode (ix_by 0) 480 = .ok (.lcmp, 1) := by decide +kernel
theorem d0_481 : decode (ix_by 0) 481 = .ok (.ifCond .eq 5, 3) := by decide +kernel
theorem d0_484 : decode (ix_by 0) 484 = .ok (.iconst 0, 1) := by decide +kernel
theorem d0_485 : decode (ix_by 0) 485 = .ok (.ireturn, 1) := by decide +kernel
theorem d0_486 : decode (ix_by 0) 486 = .ok (.goto 509, 3) := by decide +kernel
theorem d0_489 : decode (ix_by 0) 489 = .ok (.aload_n 1, 1) := by decide +kernel
theorem d0_490 : decode (ix_by 0) 490 = .ok (.aload_n 0, 1) := by decide +kernel
theorem d0_491 : decode (ix_by 0) 491 = .ok (.iload 4, 2) := by decide +kernel
theorem d0_493 : decode (ix_by 0) 493 = .ok (.iconst 1, 1) := by decide +kernel
theorem d0_494 : decode (ix_by 0) 494 = .ok (.iadd, 1) := by decide +kernel
theorem d0_495 : decode (ix_by 0) 495 = .ok (.iaload, 1) := by decide +kernel
theorem d0_496 : decode (ix_by 0) 496 = .ok (.aload_n 0, 1) := by decide +kernel
theorem d0_497 : decode (ix_by 0) 497 = .ok (.iload 4, 2) := by decide +kernel
theorem d0_499 : decode (ix_by 0) 499 = .ok (.iconst 2, 1) := by decide +kernel
theorem d0_500 : decode (ix_by 0) 500 = .ok (.iadd, 1) := by decide +kernel
theorem d0_501 : decode (ix_by 0) 501 = .ok (.iaload, 1) := by decide +kernel
theorem d0_502 : decode (ix_by 0) 502 = .ok (.aload_n 0, 1) := by decide +kernel
theorem d0_503 : decode (ix_by 0) 503 = .ok (.iload 4, 2) := by decide +kernel
theorem d0_505 : decode (ix_by 0) 505 = .ok (.iconst 3, 1) := by decide +kernel
theorem d0_506 : decode (ix_by 0) 506 = .ok (.iadd, 1) := by decide +kernel
theorem d0_507 : decode (ix_by 0) 507 = .ok (.iaload, 1) := by decide +kernel
theorem d0_508 : decode (ix_by 0) 508 = .ok (.aload_n 0, 1) := by decide +kernel
theorem d0_509 : decode (ix_by 0) 509 = .ok (.iload 4, 2) := by decide +kernel
theorem d0_511 : decode (ix_by 0) 511 = .ok (.iconst 4, 1) := by decide +kernel
theorem d0_512 : decode (ix_by 0) 512 = .ok (.iadd, 1) := by decide +kernel
theorem d0_513 : decode (ix_by 0) 513 = .ok (.iaload, 1) := by decide +kernel
theorem d0_514 : decode (ix_by 0) 514 = .ok (.aload_n 0, 1) := by decide +kernel
theorem d0_515 : decode (ix_by 0) 515 = .ok (.iload 4, 2) := by decide +kernel
theorem d0_517 : decode (ix_by 0) 517 = .ok (.iconst 5, 1) := by decide +kernel
theorem d0_518 : decode (ix_by 0) 518 = .ok (.iadd, 1) := by decide +kernel
theorem d0_519 : decode (ix_by 0) 519 = .ok (.iaload, 1) := by decide +kernel
theorem d0_520 : decode (ix_by 0) 520 = .ok (.aload_n 0, 1) := by decide +kernel
theorem d0_521 : decode (ix_by 0) 521 = .ok (.iload 4, 2) := by decide +kernel
theorem d0_523 : decode (ix_by 0) 523 = .ok (.bipush 6, 2) := by decide +kernel
theorem d0_525 : decode (ix_by 0) 525 = .ok (.iadd, 1) := by decide +kernel
theorem d0_526 : decode (ix_by 0) 526 = .ok (.iaload, 1) := by decide +kernel
theorem d0_527 : decode (ix_by 0) 527 = .ok (.aload_n 3, 1) := by decide +kernel
theorem d0_528 : decode (ix_by 0) 528 = .ok (.invokestatic 72, 3) := by decide +kernel
theorem d0_531 : decode (ix_by 0) 531 = .ok (.istore 5, 2) := by decide +kernel
theorem d0_533 : decode (ix_by 0) 533 = .ok (.aload_n 2, 1) := by decide +kernel
theorem d0_534 : decode (ix_by 0) 534 = .ok (.aload_n 0, 1) := by decide +kernel
theorem d0_535 : decode (ix_by 0) 535 = .ok (.iload 4, 2) := by decide +kernel
theorem d0_537 : decode (ix_by 0) 537 = .ok (.iconst 1, 1) := by decide +kernel
theorem d0_538 : decode (ix_by 0) 538 = .ok (.iadd, 1) := by decide +kernel
theorem d0_539 : decode (ix_by 0) 539 = .ok (.iaload, 1) := by decide +kernel
theorem d0_540 : decode (ix_by 0) 540 = .ok (.aload_n 0, 1) := by decide +kernel
theorem d0_541 : decode (ix_by 0) 541 = .ok (.iload 4, 2) := by decide +kernel
theorem d0_543 : decode (ix_by 0) 543 = .ok (.iconst 2, 1) := by decide +kernel
theorem d0_544 : decode (ix_by 0) 544 = .ok (.iadd, 1) := by decide +kernel
theorem d0_545 : decode (ix_by 0) 545 = .ok (.iaload, 1) := by decide +kernel
theorem d0_546 : decode (ix_by 0) 546 = .ok (.aload_n 0, 1) := by decide +kernel
theorem d0_547 : decode (ix_by 0) 547 = .ok (.iload 4, 2) := by decide +kernel
theorem d0_549 : decode (ix_by 0) 549 = .ok (.iconst 3, 1) := by decide +kernel
theorem d0_550 : decode (ix_by 0) 550 = .ok (.iadd, 1) := by decide +kernel
theorem d0_551 : decode (ix_by 0) 551 = .ok (.iaload, 1) := by decide +kernel
theorem d0_552 : decode (ix_by 0) 552 = .ok (.aload_n 0, 1) := by decide +kernel
theorem d0_553 : decode (ix_by 0) 553 = .ok (.iload 4, 2) := by decide +kernel
theorem d0_555 : decode (ix_by 0) 555 = .ok (.iconst 4, 1) := by decide +kernel
theorem d0_556 : decode (ix_by 0) 556 = .ok (.iadd, 1) := by decide +kernel
theorem d0_557 : decode (ix_by 0) 557 = .ok (.iaload, 1) := by decide +kernel
theorem d0_558 : decode (ix_by 0) 558 = .ok (.aload_n 0, 1) := by decide +kernel
theorem d0_559 : decode (ix_by 0) 559 = .ok (.iload 4, 2) := by decide +kernel
theorem d0_561 : decode (ix_by 0) 561 = .ok (.iconst 5, 1) := by decide +kernel
theorem d0_562 : decode (ix_by 0) 562 = .ok (.iadd, 1) := by decide +kernel
theorem d0_563 : decode (ix_by 0) 563 = .ok (.iaload, 1) := by decide +kernel
theorem d0_564 : decode (ix_by 0) 564 = .ok (.aload_n 0, 1) := by decide +kernel
theorem d0_565 : decode (ix_by 0) 565 = .ok (.iload 4, 2) := by decide +kernel
theorem d0_567 : decode (ix_by 0) 567 = .ok (.bipush 6, 2) := by decide +kernel
theorem d0_569 : decode (ix_by 0) 569 = .ok (.iadd, 1) := by decide +kernel
theorem d0_570 : decode (ix_by 0) 570 = .ok (.iaload, 1) := by decide +kernel
theorem d0_571 : decode (ix_by 0) 571 = .ok (.invokevirtual 75, 3) := by decide +kernel
theorem d0_574 : decode (ix_by 0) 574 = .ok (.istore 6, 2) := by decide +kernel
theorem d0_576 : decode (ix_by 0) 576 = .ok (.aload_n 2, 1) := by decide +kernel
theorem d0_577 : decode (ix_by 0) 577 = .ok (.invokevirtual 55, 3) := by decide +kernel
theorem d0_580 : decode (ix_by 0) 580 = .ok (.iload 5, 2) := by decide +kernel
theorem d0_582 : decode (ix_by 0) 582 = .ok (.if_icmp .eq 5, 3) := by decide +kernel
theorem d0_585 : decode (ix_by 0) 585 = .ok (.iconst 0, 1) := by decide +kernel
theorem d0_586 : decode (ix_by 0) 586 = .ok (.ireturn, 1) := by decide +kernel
theorem d0_587 : decode (ix_by 0) 587 = .ok (.iload 5, 2) := by decide +kernel
theorem d0_589 : decode (ix_by 0) 589 = .ok (.ifCond .ne 15, 3) := by decide +kernel
theorem d0_592 : decode (ix_by 0) 592 = .ok (.aload_n 3, 1) := by decide +kernel
theorem d0_593 : decode (ix_by 0) 593 = .ok (.iconst 0, 1) := by decide +kernel
theorem d0_594 : decode (ix_by 0) 594 = .ok (.laload, 1) := by decide +kernel
theorem d0_595 : decode (ix_by 0) 595 = .ok (.iload 6, 2) := by decide +kernel
theorem d0_597 : decode (ix_by 0) 597 = .ok (.i2l, 1) := by decide +kernel
theorem d0_598 : decode (ix_by 0) 598 = .ok (.lcmp, 1) := by decide +kernel
theorem d0_599 : decode (ix_by 0) 599 = .ok (.ifCond .eq 5, 3) := by decide +kernel
theorem d0_602 : decode (ix_by 0) 602 = .ok (.iconst 0, 1) := by decide +kernel
theorem d0_603 : decode (ix_by 0) 603 = .ok (.ireturn, 1) := by decide +kernel
theorem d0_604 : decode (ix_by 0) 604 = .ok (.goto 391, 3) := by decide +kernel
theorem d0_607 : decode (ix_by 0) 607 = .ok (.aload_n 1, 1) := by decide +kernel
theorem d0_608 : decode (ix_by 0) 608 = .ok (.aload_n 0, 1) := by decide +kernel
theorem d0_609 : decode (ix_by 0) 609 = .ok (.iload 4, 2) := by decide +kernel
theorem d0_611 : decode (ix_by 0) 611 = .ok (.iconst 1, 1) := by decide +kernel
theorem d0_612 : decode (ix_by 0) 612 = .ok (.iadd, 1) := by decide +kernel
theorem d0_613 : decode (ix_by 0) 613 = .ok (.iaload, 1) := by decide +kernel
theorem d0_614 : decode (ix_by 0) 614 = .ok (.aload_n 0, 1) := by decide +kernel
theorem d0_615 : decode (ix_by 0) 615 = .ok (.iload 4, 2) := by decide +kernel
theorem d0_617 : decode (ix_by 0) 617 = .ok (.iconst 2, 1) := by decide +kernel
theorem d0_618 : decode (ix_by 0) 618 = .ok (.iadd, 1) := by decide +kernel
theorem d0_619 : decode (ix_by 0) 619 = .ok (.iaload, 1) := by decide +kernel
theorem d0_620 : decode (ix_by 0) 620 = .ok (.invokevirtual 76, 3) := by decide +kernel
theorem d0_623 : decode (ix_by 0) 623 = .ok (.aload_n 2, 1) := by decide +kernel
theorem d0_624 : decode (ix_by 0) 624 = .ok (.aload_n 0, 1) := by decide +kernel
theorem d0_625 : decode (ix_by 0) 625 = .ok (.iload 4, 2) := by decide +kernel
theorem d0_627 : decode (ix_by 0) 627 = .ok (.iconst 1, 1) := by decide +kernel
theorem d0_628 : decode (ix_by 0) 628 = .ok (.iadd, 1) := by decide +kernel
theorem d0_629 : decode (ix_by 0) 629 = .ok (.iaload, 1) := by decide +kernel
theorem d0_630 : decode (ix_by 0) 630 = .ok (.aload_n 0, 1) := by decide +kernel
theorem d0_631 : decode (ix_by 0) 631 = .ok (.iload 4, 2) := by decide +kernel
theorem d0_633 : decode (ix_by 0) 633 = .ok (.iconst 2, 1) := by decide +kernel
theorem d0_634 : decode (ix_by 0) 634 = .ok (.iadd, 1) := by decide +kernel
theorem d0_635 : decode (ix_by 0) 635 = .ok (.iaload, 1) := by decide +kernel
theorem d0_636 : decode (ix_by 0) 636 = .ok (.invokevirtual 79, 3) := by decide +kernel
theorem d0_639 : decode (ix_by 0) 639 = .ok (.if_icmp .eq 356, 3) := by decide +kernel
theorem d0_642 : decode (ix_by 0) 642 = .ok (.iconst 0, 1) := by decide +kernel
theorem d0_643 : decode (ix_by 0) 643 = .ok (.ireturn, 1) := by decide +kernel
theorem d0_644 : decode (ix_by 0) 644 = .ok (.aload_n 1, 1) := by decide +kernel
theorem d0_645 : decode (ix_by 0) 645 = .ok (.aload_n 0, 1) := by decide +kernel
theorem d0_646 : decode (ix_by 0) 646 = .ok (.iload 4, 2) := by decide +kernel
theorem d0_648 : decode (ix_by 0) 648 = .ok (.iconst 1, 1) := by decide +kernel
theorem d0_649 : decode (ix_by 0) 649 = .ok (.iadd, 1) := by decide +kernel
theorem d0_650 : decode (ix_by 0) 650 = .ok (.iaload, 1) := by decide +kernel
theorem d0_651 : decode (ix_by 0) 651 = .ok (.aload_n 0, 1) := by decide +kernel
theorem d0_652 : decode (ix_by 0) 652 = .ok (.iload 4, 2) := by decide +kernel
theorem d0_654 : decode (ix_by 0) 654 = .ok (.iconst 2, 1) := by decide +kernel
theorem d0_655 : decode (ix_by 0) 655 = .ok (.iadd, 1) := by decide +kernel
theorem d0_656 : decode (ix_by 0) 656 = .ok (.iaload, 1) := by decide +kernel
theorem d0_657 : decode (ix_by 0) 657 = .ok (.aload_n 0, 1) := by decide +kernel
theorem d0_658 : decode (ix_by 0) 658 = .ok (.iload 4, 2) := by decide +kernel
theorem d0_660 : decode (ix_by 0) 660 = .ok (.iconst 3, 1) := by decide +kernel
theorem d0_661 : decode (ix_by 0) 661 = .ok (.iadd, 1) := by decide +kernel
theorem d0_662 : decode (ix_by 0) 662 = .ok (.iaload, 1) := by decide +kernel
theorem d0_663 : decode (ix_by 0) 663 = .ok (.ifCond .eq 7, 3) := by decide +kernel
theorem d0_666 : decode (ix_by 0) 666 = .ok (.iconst 1, 1) := by decide +kernel
theorem d0_667 : decode (ix_by 0) 667 = .ok (.goto 4, 3) := by decide +kernel
theorem d0_670 : decode (ix_by 0) 670 = .ok (.iconst 0, 1) := by decide +kernel
theorem d0_671 : decode (ix_by 0) 671 = .ok (.invokevirtual 80, 3) := by decide +kernel
theorem d0_674 : decode (ix_by 0) 674 = .ok (.aload_n 2, 1) := by decide +kernel
theorem d0_675 : decode (ix_by 0) 675 = .ok (.aload_n 0, 1) := by decide +kernel
theorem d0_676 : decode (ix_by 0) 676 = .ok (.iload 4, 2) := by decide +kernel
theorem d0_678 : decode (ix_by 0) 678 = .ok (.iconst 1, 1) := by decide +kernel
theorem d0_679 : decode (ix_by 0) 679 = .ok (.iadd, 1) := by decide +kernel
theorem d0_680 : decode (ix_by 0) 680 = .ok (.iaload, 1) := by decide +kernel
theorem d0_681 : decode (ix_by 0) 681 = .ok (.aload_n 0, 1) := by decide +kernel
theorem d0_682 : decode (ix_by 0) 682 = .ok (.iload 4, 2) := by decide +kernel
theorem d0_684 : decode (ix_by 0) 684 = .ok (.iconst 2, 1) := by decide +kernel
theorem d0_685 : decode (ix_by 0) 685 = .ok (.iadd, 1) := by decide +kernel
theorem d0_686 : decode (ix_by 0) 686 = .ok (.iaload, 1) := by decide +kernel
theorem d0_687 : decode (ix_by 0) 687 = .ok (.aload_n 0, 1) := by decide +kernel
theorem d0_688 : decode (ix_by 0) 688 = .ok (.iload 4, 2) := by decide +kernel
theorem d0_690 : decode (ix_by 0) 690 = .ok (.iconst 3, 1) := by decide +kernel
theorem d0_691 : decode (ix_by 0) 691 = .ok (.iadd, 1) := by decide +kernel
theorem d0_692 : decode (ix_by 0) 692 = .ok (.iaload, 1) := by decide +kernel
theorem d0_693 : decode (ix_by 0) 693 = .ok (.ifCond .eq 7, 3) := by decide +kernel
theorem d0_696 : decode (ix_by 0) 696 = .ok (.iconst 1, 1) := by decide +kernel
theorem d0_697 : decode (ix_by 0) 697 = .ok (.goto 4, 3) := by decide +kernel
theorem d0_700 : decode (ix_by 0) 700 = .ok (.iconst 0, 1) := by decide +kernel
theorem d0_701 : decode (ix_by 0) 701 = .ok (.invokevirtual 84, 3) := by decide +kernel
theorem d0_704 : decode (ix_by 0) 704 = .ok (.if_icmp .eq 291, 3) := by decide +kernel
theorem d0_707 : decode (ix_by 0) 707 = .ok (.iconst 0, 1) := by decide +kernel
theorem d0_708 : decode (ix_by 0) 708 = .ok (.ireturn, 1) := by decide +kernel
theorem d0_709 : decode (ix_by 0) 709 = .ok (.aload_n 1, 1) := by decide +kernel
theorem d0_710 : decode (ix_by 0) 710 = .ok (.invokevirtual 85, 3) := by decide +kernel
theorem d0_713 : decode (ix_by 0) 713 = .ok (.aload_n 2, 1) := by decide +kernel
theorem d0_714 : decode (ix_by 0) 714 = .ok (.invokevirtual 88, 3) := by decide +kernel
theorem d0_717 : decode (ix_by 0) 717 = .ok (.if_icmp .eq 278, 3) := by decide +kernel
theorem d0_720 : decode (ix_by 0) 720 = .ok (.iconst 0, 1) := by decide +kernel
theorem d0_721 : decode (ix_by 0) 721 = .ok (.ireturn, 1) := by decide +kernel
theorem d0_722 : decode (ix_by 0) 722 = .ok (.aload_n 1, 1) := by decide +kernel
theorem d0_723 : decode (ix_by 0) 723 = .ok (.aload_n 0, 1) := by decide +kernel
theorem d0_724 : decode (ix_by 0) 724 = .ok (.iload 4, 2) := by decide +kernel
theorem d0_726 : decode (ix_by 0) 726 = .ok (.iconst 1, 1) := by decide +kernel
theorem d0_727 : decode (ix_by 0) 727 = .ok (.iadd, 1) := by decide +kernel
theorem d0_728 : decode (ix_by 0) 728 = .ok (.iaload, 1) := by decide +kernel
theorem d0_729 : decode (ix_by 0) 729 = .ok (.invokevirtual 89, 3) := by decide +kernel
theorem d0_732 : decode (ix_by 0) 732 = .ok (.aload_n 2, 1) := by decide +kernel
theorem d0_733 : decode (ix_by 0) 733 = .ok (.aload_n 0, 1) := by decide +kernel
theorem d0_734 : decode (ix_by 0) 734 = .ok (.iload 4, 2) := by decide +kernel
theorem d0_736 : decode (ix_by 0) 736 = .ok (.iconst 1, 1) := by decide +kernel
theorem d0_737 : decode (ix_by 0) 737 = .ok (.iadd, 1) := by decide +kernel
theorem d0_738 : decode (ix_by 0) 738 = .ok (.iaload, 1) := by decide +kernel
theorem d0_739 : decode (ix_by 0) 739 = .ok (.invokevirtual 93, 3) := by decide +kernel
theorem d0_742 : decode (ix_by 0) 742 = .ok (.if_icmp .eq 253, 3) := by decide +kernel
theorem d0_745 : decode (ix_by 0) 745 = .ok (.iconst 0, 1) := by decide +kernel
theorem d0_746 : decode (ix_by 0) 746 = .ok (.ireturn, 1) := by decide +kernel
theorem d0_747 : decode (ix_by 0) 747 = .ok (.aload_n 1, 1) := by decide +kernel
theorem d0_748 : decode (ix_by 0) 748 = .ok (.aload_n 0, 1) := by decide +kernel
theorem d0_749 : decode (ix_by 0) 749 = .ok (.iload 4, 2) := by decide +kernel
theorem d0_751 : decode (ix_by 0) 751 = .ok (.iconst 1, 1) := by decide +kernel
theorem d0_752 : decode (ix_by 0) 752 = .ok (.iadd, 1) := by decide +kernel
theorem d0_753 : decode (ix_by 0) 753 = .ok (.iaload, 1) := by decide +kernel
theorem d0_754 : decode (ix_by 0) 754 = .ok (.invokevirtual 94, 3) := by decide +kernel
theorem d0_757 : decode (ix_by 0) 757 = .ok (.aload_n 2, 1) := by decide +kernel
theorem d0_758 : decode (ix_by 0) 758 = .ok (.aload_n 0, 1) := by decide +kernel
theorem d0_759 : decode (ix_by 0) 759 = .ok (.iload 4, 2) := by decide +kernel
theorem d0_761 : decode (ix_by 0) 761 = .ok (.iconst 1, 1) := by decide +kernel
theorem d0_762 : decode (ix_by 0) 762 = .ok (.iadd, 1) := by decide +kernel
theorem d0_763 : decode (ix_by 0) 763 = .ok (.iaload, 1) := by decide +kernel
theorem d0_764 : decode (ix_by 0) 764 = .ok (.invokevirtual 97, 3) := by decide +kernel
theorem d0_767 : decode (ix_by 0) 767 = .ok (.if_icmp .eq 228, 3) := by decide +kernel
theorem d0_770 : decode (ix_by 0) 770 = .ok (.iconst 0, 1) := by decide +kernel
theorem d0_771 : decode (ix_by 0) 771 = .ok (.ireturn, 1) := by decide +kernel
theorem d0_772 : decode (ix_by 0) 772 = .ok (.aload_n 1, 1) := by decide +kernel
theorem d0_773 : decode (ix_by 0) 773 = .ok (.aload_n 0, 1) := by decide +kernel
theorem d0_774 : decode (ix_by 0) 774 = .ok (.iload 4, 2) := by decide +kernel
theorem d0_776 : decode (ix_by 0) 776 = .ok (.iconst 1, 1) := by decide +kernel
theorem d0_777 : decode (ix_by 0) 777 = .ok (.iadd, 1) := by decide +kernel
theorem d0_778 : decode (ix_by 0) 778 = .ok (.iaload, 1) := by decide +kernel
theorem d0_779 : decode (ix_by 0) 779 = .ok (.invokevirtual 98, 3) := by decide +kernel
theorem d0_782 : decode (ix_by 0) 782 = .ok (.aload_n 2, 1) := by decide +kernel
theorem d0_783 : decode (ix_by 0) 783 = .ok (.aload_n 0, 1) := by decide +kernel
theorem d0_784 : decode (ix_by 0) 784 = .ok (.iload 4, 2) := by decide +kernel
theorem d0_786 : decode (ix_by 0) 786 = .ok (.iconst 1, 1) := by decide +kernel
theorem d0_787 : decode (ix_by 0) 787 = .ok (.iadd, 1) := by decide +kernel
theorem d0_788 : decode (ix_by 0) 788 = .ok (.iaload, 1) := by decide +kernel
theorem d0_789 : decode (ix_by 0) 789 = .ok (.invokevirtual 101, 3) := by decide +kernel
theorem d0_792 : decode (ix_by 0) 792 = .ok (.if_icmp .eq 203, 3) := by decide +kernel
theorem d0_795 : decode (ix_by 0) 795 = .ok (.iconst 0, 1) := by decide +kernel
theorem d0_796 : decode (ix_by 0) 796 = .ok (.ireturn, 1) := by decide +kernel
theorem d0_797 : decode (ix_by 0) 797 = .ok (.aload_n 1, 1) := by decide +kernel
theorem d0_798 : decode (ix_by 0) 798 = .ok (.aload_n 0, 1) := by decide +kernel
theorem d0_799 : decode (ix_by 0) 799 = .ok (.iload 4, 2) := by decide +kernel
theorem d0_801 : decode (ix_by 0) 801 = .ok (.iconst 1, 1) := by decide +kernel
theorem d0_802 : decode (ix_by 0) 802 = .ok (.iadd, 1) := by decide +kernel
theorem d0_803 : decode (ix_by 0) 803 = .ok (.iaload, 1) := by decide +kernel
theorem d0_804 : decode (ix_by 0) 804 = .ok (.aload_n 0, 1) := by decide +kernel
theorem d0_805 : decode (ix_by 0) 805 = .ok (.iload 4, 2) := by decide +kernel
theorem d0_807 : decode (ix_by 0) 807 = .ok (.iconst 2, 1) := by decide +kernel
theorem d0_808 : decode (ix_by 0) 808 = .ok (.iadd, 1) := by decide +kernel
theorem d0_809 : decode (ix_by 0) 809 = .ok (.iaload, 1) := by decide +kernel
theorem d0_810 : decode (ix_by 0) 810 = .ok (.invokevirtual 102, 3) := by decide +kernel
theorem d0_813 : decode (ix_by 0) 813 = .ok (.aload_n 2, 1) := by decide +kernel
theorem d0_814 : decode (ix_by 0) 814 = .ok (.aload_n 0, 1) := by decide +kernel
theorem d0_815 : decode (ix_by 0) 815 = .ok (.iload 4, 2) := by decide +kernel
theorem d0_817 : decode (ix_by 0) 817 = .ok (.iconst 1, 1) := by decide +kernel
theorem d0_818 : decode (ix_by 0) 818 = .ok (.iadd, 1) := by decide +kernel
theorem d0_819 : decode (ix_by 0) 819 = .ok (.iaload, 1) := by decide +kernel
theorem d0_820 : decode (ix_by 0) 820 = .ok (.aload_n 0, 1) := by decide +kernel
theorem d0_821 : decode (ix_by 0) 821 = .ok (.iload 4, 2) := by decide +kernel
theorem d0_823 : decode (ix_by 0) 823 = .ok (.iconst 2, 1) := by decide +kernel
theorem d0_824 : decode (ix_by 0) 824 = .ok (.iadd, 1) := by decide +kernel
theorem d0_825 : decode (ix_by 0) 825 = .ok (.iaload, 1) := by decide +kernel
theorem d0_826 : decode (ix_by 0) 826 = .ok (.invokevirtual 105, 3) := by decide +kernel
theorem d0_829 : decode (ix_by 0) 829 = .ok (.if_icmp .eq 166, 3) := by decide +kernel
theorem d0_832 : decode (ix_by 0) 832 = .ok (.iconst 0, 1) := by decide +kernel
theorem d0_833 : decode (ix_by 0) 833 = .ok (.ireturn, 1) := by decide +kernel
theorem d0_834 : decode (ix_by 0) 834 = .ok (.aload_n 1, 1) := by decide +kernel
theorem d0_835 : decode (ix_by 0) 835 = .ok (.invokevirtual 106, 3) := by decide +kernel
theorem d0_838 : decode (ix_by 0) 838 = .ok (.aload_n 2, 1) := by decide +kernel
theorem d0_839 : decode (ix_by 0) 839 = .ok (.invokevirtual 109, 3) := by decide +kernel
theorem d0_842 : decode (ix_by 0) 842 = .ok (.if_icmp .eq 153, 3) := by decide +kernel
theorem d0_845 : decode (ix_by 0) 845 = .ok (.iconst 0, 1) := by decide +kernel
theorem d0_846 : decode (ix_by 0) 846 = .ok (.ireturn, 1) := by decide +kernel
theorem d0_847 : decode (ix_by 0) 847 = .ok (.aload_n 1, 1) := by decide +kernel
theorem d0_848 : decode (ix_by 0) 848 = .ok (.aload_n 0, 1) := by decide +kernel
theorem d0_849 : decode (ix_by 0) 849 = .ok (.iload 4, 2) := by decide +kernel
theorem d0_851 : decode (ix_by 0) 851 = .ok (.iconst 1, 1) := by decide +kernel
theorem d0_852 : decode (ix_by 0) 852 = .ok (.iadd, 1) := by decide +kernel
theorem d0_853 : decode (ix_by 0) 853 = .ok (.iaload, 1) := by decide +kernel
theorem d0_854 : decode (ix_by 0) 854 = .ok (.aload_n 0, 1) := by decide +kernel
theorem d0_855 : decode (ix_by 0) 855 = .ok (.iload 4, 2) := by decide +kernel
theorem d0_857 : decode (ix_by 0) 857 = .ok (.iconst 2, 1) := by decide +kernel
theorem d0_858 : decode (ix_by 0) 858 = .ok (.iadd, 1) := by decide +kernel
theorem d0_859 : decode (ix_by 0) 859 = .ok (.iaload, 1) := by decide +kernel
theorem d0_860 : decode (ix_by 0) 860 = .ok (.invokevirtual 110, 3) := by decide +kernel
theorem d0_863 : decode (ix_by 0) 863 = .ok (.aload_n 2, 1) := by decide +kernel
theorem d0_864 : decode (ix_by 0) 864 = .ok (.aload_n 0, 1) := by decide +kernel
theorem d0_865 : decode (ix_by 0) 865 = .ok (.iload 4, 2) := by decide +kernel
theorem d0_867 : decode (ix_by 0) 867 = .ok (.iconst 1, 1) := by decide +kernel
theorem d0_868 : decode (ix_by 0) 868 = .ok (.iadd, 1) := by decide +kernel
theorem d0_869 : decode (ix_by 0) 869 = .ok (.iaload, 1) := by decide +kernel
theorem d0_870 : decode (ix_by 0) 870 = .ok (.aload_n 0, 1) := by decide +kernel
theorem d0_871 : decode (ix_by 0) 871 = .ok (.iload 4, 2) := by decide +kernel
theorem d0_873 : decode (ix_by 0) 873 = .ok (.iconst 2, 1) := by decide +kernel
theorem d0_874 : decode (ix_by 0) 874 = .ok (.iadd, 1) := by decide +kernel
theorem d0_875 : decode (ix_by 0) 875 = .ok (.iaload, 1) := by decide +kernel
theorem d0_876 : decode (ix_by 0) 876 = .ok (.invokevirtual 113, 3) := by decide +kernel
theorem d0_879 : decode (ix_by 0) 879 = .ok (.if_icmp .eq 116, 3) := by decide +kernel
theorem d0_882 : decode (ix_by 0) 882 = .ok (.iconst 0, 1) := by decide +kernel
theorem d0_883 : decode (ix_by 0) 883 = .ok (.ireturn, 1) := by decide +kernel
theorem d0_884 : decode (ix_by 0) 884 = .ok (.aload_n 1, 1) := by decide +kernel
theorem d0_885 : decode (ix_by 0) 885 = .ok (.aload_n 0, 1) := by decide +kernel
theorem d0_886 : decode (ix_by 0) 886 = .ok (.iload 4, 2) := by decide +kernel
theorem d0_888 : decode (ix_by 0) 888 = .ok (.iconst 1, 1) := by decide +kernel
theorem d0_889 : decode (ix_by 0) 889 = .ok (.iadd, 1) := by decide +kernel
theorem d0_890 : decode (ix_by 0) 890 = .ok (.iaload, 1) := by decide +kernel
theorem d0_891 : decode (ix_by 0) 891 = .ok (.aload_n 0, 1) := by decide +kernel
theorem d0_892 : decode (ix_by 0) 892 = .ok (.iload 4, 2) := by decide +kernel
theorem d0_894 : decode (ix_by 0) 894 = .ok (.iconst 2, 1) := by decide +kernel
theorem d0_895 : decode (ix_by 0) 895 = .ok (.iadd, 1) := by decide +kernel
theorem d0_896 : decode (ix_by 0) 896 = .ok (.iaload, 1) := by decide +kernel
theorem d0_897 : decode (ix_by 0) 897 = .ok (.invokevirtual 114, 3) := by decide +kernel
theorem d0_900 : decode (ix_by 0) 900 = .ok (.aload_n 2, 1) := by decide +kernel
theorem d0_901 : decode (ix_by 0) 901 = .ok (.aload_n 0, 1) := by decide +kernel
theorem d0_902 : decode (ix_by 0) 902 = .ok (.iload 4, 2) := by decide +kernel
theorem d0_904 : decode (ix_by 0) 904 = .ok (.iconst 1, 1) := by decide +kernel
theorem d0_905 : decode (ix_by 0) 905 = .ok (.iadd, 1) := by decide +kernel
theorem d0_906 : decode (ix_by 0) 906 = .ok (.iaload, 1) := by decide +kernel
theorem d0_907 : decode (ix_by 0) 907 = .ok (.aload_n 0, 1) := by decide +kernel
theorem d0_908 : decode (ix_by 0) 908 = .ok (.iload 4, 2) := by decide +kernel
theorem d0_910 : decode (ix_by 0) 910 = .ok (.iconst 2, 1) := by decide +kernel
theorem d0_911 : decode (ix_by 0) 911 = .ok (.iadd, 1) := by decide +kernel
theorem d0_912 : decode (ix_by 0) 912 = .ok (.iaload, 1) := by decide +kernel
theorem d0_913 : decode (ix_by 0) 913 = .ok (.invokevirtual 117, 3) := by decide +kernel
theorem d0_916 : decode (ix_by 0) 916 = .ok (.if_icmp .eq 79, 3) := by decide +kernel
theorem d0_919 : decode (ix_by 0) 919 = .ok (.iconst 0, 1) := by decide +kernel
theorem d0_920 : decode (ix_by 0) 920 = .ok (.ireturn, 1) := by decide +kernel
theorem d0_921 : decode (ix_by 0) 921 = .ok (.aload_n 1, 1) := by decide +kernel
theorem d0_922 : decode (ix_by 0) 922 = .ok (.aload_n 0, 1) := by decide +kernel
theorem d0_923 : decode (ix_by 0) 923 = .ok (.iload 4, 2) := by decide +kernel
theorem d0_925 : decode (ix_by 0) 925 = .ok (.iconst 1, 1) := by decide +kernel
theorem d0_926 : decode (ix_by 0) 926 = .ok (.iadd, 1) := by decide +kernel
theorem d0_927 : decode (ix_by 0) 927 = .ok (.iaload, 1) := by decide +kernel
theorem d0_928 : decode (ix_by 0) 928 = .ok (.aload_n 0, 1) := by decide +kernel
theorem d0_929 : decode (ix_by 0) 929 = .ok (.iload 4, 2) := by decide +kernel
theorem d0_931 : decode (ix_by 0) 931 = .ok (.iconst 2, 1) := by decide +kernel
theorem d0_932 : decode (ix_by 0) 932 = .ok (.iadd, 1) := by decide +kernel
theorem d0_933 : decode (ix_by 0) 933 = .ok (.iaload, 1) := by decide +kernel
theorem d0_934 : decode (ix_by 0) 934 = .ok (.invokevirtual 118, 3) := by decide +kernel
theorem d0_937 : decode (ix_by 0) 937 = .ok (.aload_n 2, 1) := by decide +kernel
theorem d0_938 : decode (ix_by 0) 938 = .ok (.aload_n 0, 1) := by decide +kernel
theorem d0_939 : decode (ix_by 0) 939 = .ok (.iload 4, 2) := by decide +kernel
theorem d0_941 : decode (ix_by 0) 941 = .ok (.iconst 1, 1) := by decide +kernel
theorem d0_942 : decode (ix_by 0) 942 = .ok (.iadd, 1) := by decide +kernel
theorem d0_943 : decode (ix_by 0) 943 = .ok (.iaload, 1) := by decide +kernel
theorem d0_944 : decode (ix_by 0) 944 = .ok (.aload_n 0, 1) := by decide +kernel
theorem d0_945 : decode (ix_by 0) 945 = .ok (.iload 4, 2) := by decide +kernel
theorem d0_947 : decode (ix_by 0) 947 = .ok (.iconst 2, 1) := by decide +kernel
theorem d0_948 : decode (ix_by 0) 948 = .ok (.iadd, 1) := by decide +kernel
theorem d0_949 : decode (ix_by 0) 949 = .ok (.iaload, 1) := by decide +kernel
theorem d0_950 : decode (ix_by 0) 950 = .ok (.invokevirtual 121, 3) := by decide +kernel
theorem d0_953 : decode (ix_by 0) 953 = .ok (.if_icmp .eq 42, 3) := by decide +kernel
theorem d0_956 : decode (ix_by 0) 956 = .ok (.iconst 0, 1) := by decide +kernel
theorem d0_957 : decode (ix_by 0) 957 = .ok (.ireturn, 1) := by decide +kernel
theorem d0_958 : decode (ix_by 0) 958 = .ok (.aload_n 1, 1) := by decide +kernel
theorem d0_959 : decode (ix_by 0) 959 = .ok (.aload_n 0, 1) := by decide +kernel
theorem d0_960 : decode (ix_by 0) 960 = .ok (.iload 4, 2) := by decide +kernel
theorem d0_962 : decode (ix_by 0) 962 = .ok (.iconst 1, 1) := by decide +kernel
theorem d0_963 : decode (ix_by 0) 963 = .ok (.iadd, 1) := by decide +kernel
theorem d0_964 : decode (ix_by 0) 964 = .ok (.iaload, 1) := by decide +kernel
theorem d0_965 : decode (ix_by 0) 965 = .ok (.aload_n 0, 1) := by decide +kernel
theorem d0_966 : decode (ix_by 0) 966 = .ok (.iload 4, 2) := by decide +kernel
theorem d0_968 : decode (ix_by 0) 968 = .ok (.iconst 2, 1) := by decide +kernel
theorem d0_969 : decode (ix_by 0) 969 = .ok (.iadd, 1) := by decide +kernel
theorem d0_970 : decode (ix_by 0) 970 = .ok (.iaload, 1) := by decide +kernel
theorem d0_971 : decode (ix_by 0) 971 = .ok (.invokevirtual 122, 3) := by decide +kernel
theorem d0_974 : decode (ix_by 0) 974 = .ok (.aload_n 2, 1) := by decide +kernel
theorem d0_975 : decode (ix_by 0) 975 = .ok (.aload_n 0, 1) := by decide +kernel
theorem d0_976 : decode (ix_by 0) 976 = .ok (.iload 4, 2) := by decide +kernel
theorem d0_978 : decode (ix_by 0) 978 = .ok (.iconst 1, 1) := by decide +kernel
theorem d0_979 : decode (ix_by 0) 979 = .ok (.iadd, 1) := by decide +kernel
theorem d0_980 : decode (ix_by 0) 980 = .ok (.iaload, 1) := by decide +kernel
theorem d0_981 : decode (ix_by 0) 981 = .ok (.aload_n 0, 1) := by decide +kernel
theorem d0_982 : decode (ix_by 0) 982 = .ok (.iload 4, 2) := by decide +kernel
theorem d0_984 : decode (ix_by 0) 984 = .ok (.iconst 2, 1) := by decide +kernel
theorem d0_985 : decode (ix_by 0) 985 = .ok (.iadd, 1) := by decide +kernel
theorem d0_986 : decode (ix_by 0) 986 = .ok (.iaload, 1) := by decide +kernel
theorem d0_987 : decode (ix_by 0) 987 = .ok (.invokevirtual 125, 3) := by decide +kernel
theorem d0_990 : decode (ix_by 0) 990 = .ok (.if_icmp .eq 5, 3) := by decide +kernel
theorem d0_993 : decode (ix_by 0) 993 = .ok (.iconst 0, 1) := by decide +kernel
theorem d0_994 : decode (ix_by 0) 994 = .ok (.ireturn, 1) := by decide +kernel
theorem d0_995 : decode (ix_by 0) 995 = .ok (.iinc 4 7, 3) := by decide +kernel
theorem d0_998 : decode (ix_by 0) 998 = .ok (.goto (-965), 3) := by decide +kernel
theorem d0_1001 : decode (ix_by 0) 1001 = .ok (.iconst 1, 1) := by decide +kernel
theorem d0_1002 : decode (ix_by 0) 1002 = .ok (.ireturn, 1) := by decide +kernel
theorem d1_0 : decode (ix_by 1) 0 = .ok (.aload_n 0, 1) := by decide +kernel
theorem d1_1 : decode (ix_by 1) 1 = .ok (.invokespecial 1, 3) := by decide +kernel
theorem d1_4 : decode (ix_by 1) 4 = .ok (.aload_n 0, 1) := by decide +kernel
theorem d1_5 : decode (ix_by 1) 5 = .ok (.iconst 4, 1) := by decide +kernel
theorem d1_6 : decode (ix_by 1) 6 = .ok (.iload_n 1, 1) := by decide +kernel
theorem d1_7 : decode (ix_by 1) 7 = .ok (.bipush 7, 2) := by decide +kernel
theorem d1_9 : decode (ix_by 1) 9 = .ok (.iand, 1) := by decide +kernel
theorem d1_10 : decode (ix_by 1) 10 = .ok (.iadd, 1) := by decide +kernel
theorem d1_11 : decode (ix_by 1) 11 = .ok (.putfield 7, 3) := by decide +kernel
theorem d1_14 : decode (ix_by 1) 14 = .ok (.aload_n 0, 1) := by decide +kernel
theorem d1_15 : decode (ix_by 1) 15 = .ok (.iconst 2, 1) := by decide +kernel
theorem d1_16 : decode (ix_by 1) 16 = .ok (.anewarray 13, 3) := by decide +kernel
theorem d1_19 : decode (ix_by 1) 19 = .ok (.dup, 1) := by decide +kernel
theorem d1_20 : decode (ix_by 1) 20 = .ok (.iconst 0, 1) := by decide +kernel
theorem d1_21 : decode (ix_by 1) 21 = .ok (.new 13, 3) := by decide +kernel
theorem d1_24 : decode (ix_by 1) 24 = .ok (.dup, 1) := by decide +kernel
theorem d1_25 : decode (ix_by 1) 25 = .ok (.invokespecial 15, 3) := by decide +kernel
theorem d1_28 : decode (ix_by 1) 28 = .ok (.aastore, 1) := by decide +kernel
theorem d1_29 : decode (ix_by 1) 29 = .ok (.dup, 1) := by decide +kernel
theorem d1_30 : decode (ix_by 1) 30 = .ok (.iconst 1, 1) := by decide +kernel
theorem d1_31 : decode (ix_by 1) 31 = .ok (.new 13, 3) := by decide +kernel
theorem d1_34 : decode (ix_by 1) 34 = .ok (.dup, 1) := by decide +kernel
theorem d1_35 : decode (ix_by 1) 35 = .ok (.invokespecial 15, 3) := by decide +kernel
theorem d1_38 : decode (ix_by 1) 38 = .ok (.aastore, 1) := by decide +kernel
theorem d1_39 : decode (ix_by 1) 39 = .ok (.putfield 16, 3) := by decide +kernel
theorem d1_42 : decode (ix_by 1) 42 = .ok (.aload_n 0, 1) := by decide +kernel
theorem d1_43 : decode (ix_by 1) 43 = .ok (.new 20, 3) := by decide +kernel
theorem d1_46 : decode (ix_by 1) 46 = .ok (.dup, 1) := by decide +kernel
theorem d1_47 : decode (ix_by 1) 47 = .ok (.invokespecial 22, 3) := by decide +kernel
theorem d1_50 : decode (ix_by 1) 50 = .ok (.putfield 23, 3) := by decide +kernel
theorem d1_53 : decode (ix_by 1) 53 = .ok (.aload_n 0, 1) := by decide +kernel
theorem d1_54 : decode (ix_by 1) 54 = .ok (.iconst 0, 1) := by decide +kernel
theorem d1_55 : decode (ix_by 1) 55 = .ok (.putfield 27, 3) := by decide +kernel
theorem d1_58 : decode (ix_by 1) 58 = .ok (.return_, 1) := by decide +kernel
theorem d2_0 : decode (ix_by 2) 0 = .ok (.aload_n 0, 1) := by decide +kernel
theorem d2_1 : decode (ix_by 2) 1 = .ok (.invokespecial 1, 3) := by decide +kernel
theorem d2_4 : decode (ix_by 2) 4 = .ok (.aload_n 0, 1) := by decide +kernel
theorem d2_5 : decode (ix_by 2) 5 = .ok (.new 7, 3) := by decide +kernel
theorem d2_8 : decode (ix_by 2) 8 = .ok (.dup, 1) := by decide +kernel
theorem d2_9 : decode (ix_by 2) 9 = .ok (.invokespecial 9, 3) := by decide +kernel
theorem d2_12 : decode (ix_by 2) 12 = .ok (.putfield 10, 3) := by decide +kernel
theorem d2_15 : decode (ix_by 2) 15 = .ok (.aload_n 0, 1) := by decide +kernel
theorem d2_16 : decode (ix_by 2) 16 = .ok (.new 16, 3) := by decide +kernel
theorem d2_19 : decode (ix_by 2) 19 = .ok (.dup, 1) := by decide +kernel
theorem d2_20 : decode (ix_by 2) 20 = .ok (.invokespecial 18, 3) := by decide +kernel
theorem d2_23 : decode (ix_by 2) 23 = .ok (.putfield 19, 3) := by decide +kernel
theorem d2_26 : decode (ix_by 2) 26 = .ok (.aload_n 0, 1) := by decide +kernel
theorem d2_27 : decode (ix_by 2) 27 = .ok (.new 16, 3) := by decide +kernel
theorem d2_30 : decode (ix_by 2) 30 = .ok (.dup, 1) := by decide +kernel
theorem d2_31 : decode (ix_by 2) 31 = .ok (.invokespecial 18, 3) := by decide +kernel
theorem d2_34 : decode (ix_by 2) 34 = .ok (.putfield 23, 3) := by decide +kernel
theorem d2_37 : decode (ix_by 2) 37 = .ok (.aload_n 0, 1) := by decide +kernel
theorem d2_38 : decode (ix_by 2) 38 = .ok (.new 16, 3) := by decide +kernel
theorem d2_41 : decode (ix_by 2) 41 = .ok (.dup, 1) := by decide +kernel
theorem d2_42 : decode (ix_by 2) 42 = .ok (.invokespecial 18, 3) := by decide +kernel
theorem d2_45 : decode (ix_by 2) 45 = .ok (.putfield 26, 3) := by decide +kernel
theorem d2_48 : decode (ix_by 2) 48 = .ok (.return_, 1) := by decide +kernel
theorem d3_0 : decode (ix_by 3) 0 = .ok (.aload_n 0, 1) := by decide +kernel
theorem d3_1 : decode (ix_by 3) 1 = .ok (.invokespecial 3, 3) := by decide +kernel
theorem d3_4 : decode (ix_by 3) 4 = .ok (.aload_n 0, 1) := by decide +kernel
theorem d3_5 : decode (ix_by 3) 5 = .ok (.bipush 6, 2) := by decide +kernel
theorem d3_7 : decode (ix_by 3) 7 = .ok (.bipush 64, 2) := by decide +kernel
theorem d3_9 : decode (ix_by 3) 9 = .ok (.multianewarray 9 2, 4) := by decide +kernel
theorem d3_13 : decode (ix_by 3) 13 = .ok (.putfield 11, 3) := by decide +kernel
theorem d3_16 : decode (ix_by 3) 16 = .ok (.aload_n 0, 1) := by decide +kernel
theorem d3_17 : decode (ix_by 3) 17 = .ok (.bipush 6, 2) := by decide +kernel
theorem d3_19 : decode (ix_by 3) 19 = .ok (.newarray .int, 2) := by decide +kernel
theorem d3_21 : decode (ix_by 3) 21 = .ok (.putfield 16, 3) := by decide +kernel
theorem d3_24 : decode (ix_by 3) 24 = .ok (.iconst 0, 1) := by decide +kernel
theorem d3_25 : decode (ix_by 3) 25 = .ok (.istore_n 1, 1) := by decide +kernel
theorem d3_26 : decode (ix_by 3) 26 = .ok (.iload_n 1, 1) := by decide +kernel
theorem d3_27 : decode (ix_by 3) 27 = .ok (.bipush 6, 2) := by decide +kernel
theorem d3_29 : decode (ix_by 3) 29 = .ok (.if_icmp .ge 16, 3) := by decide +kernel
theorem d3_32 : decode (ix_by 3) 32 = .ok (.aload_n 0, 1) := by decide +kernel
theorem d3_33 : decode (ix_by 3) 33 = .ok (.getfield 16, 3) := by decide +kernel
theorem d3_36 : decode (ix_by 3) 36 = .ok (.iload_n 1, 1) := by decide +kernel
theorem d3_37 : decode (ix_by 3) 37 = .ok (.iconst (-1), 1) := by decide +kernel
theorem d3_38 : decode (ix_by 3) 38 = .ok (.iastore, 1) := by decide +kernel
theorem d3_39 : decode (ix_by 3) 39 = .ok (.iinc 1 1, 3) := by decide +kernel
theorem d3_42 : decode (ix_by 3) 42 = .ok (.goto (-16), 3) := by decide +kernel
theorem d3_45 : decode (ix_by 3) 45 = .ok (.return_, 1) := by decide +kernel
