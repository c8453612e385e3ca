/-! the law: its instructions -/
abbrev M_law : MI := (x, code, 9, ret, [])
theorem d_law_0 : decode M_law.2.1 0 = .ok (.new 8, 3) := by decide +kernel
theorem d_law_3 : decode M_law.2.1 3 = .ok (.dup, 1) := by decide +kernel
theorem d_law_4 : decode M_law.2.1 4 = .ok (.invokespecial 77, 3) := by decide +kernel
theorem d_law_7 : decode M_law.2.1 7 = .ok (.astore_n 1, 1) := by decide +kernel
theorem d_law_8 : decode M_law.2.1 8 = .ok (.new 78, 3) := by decide +kernel
theorem d_law_11 : decode M_law.2.1 11 = .ok (.dup, 1) := by decide +kernel
theorem d_law_12 : decode M_law.2.1 12 = .ok (.invokespecial 80, 3) := by decide +kernel
theorem d_law_15 : decode M_law.2.1 15 = .ok (.astore_n 2, 1) := by decide +kernel
theorem d_law_16 : decode M_law.2.1 16 = .ok (.iconst 1, 1) := by decide +kernel
theorem d_law_17 : decode M_law.2.1 17 = .ok (.newarray .long, 2) := by decide +kernel
theorem d_law_19 : decode M_law.2.1 19 = .ok (.astore_n 3, 1) := by decide +kernel
theorem d_law_20 : decode M_law.2.1 20 = .ok (.iconst 0, 1) := by decide +kernel
theorem d_law_21 : decode M_law.2.1 21 = .ok (.istore 4, 2) := by decide +kernel
theorem d_law_23 : decode M_law.2.1 23 = .ok (.iload 4, 2) := by decide +kernel
theorem d_law_25 : decode M_law.2.1 25 = .ok (.aload_n 0, 1) := by decide +kernel
theorem d_law_26 : decode M_law.2.1 26 = .ok (.arraylength, 1) := by decide +kernel
theorem d_law_27 : decode M_law.2.1 27 = .ok (.bipush 6, 2) := by decide +kernel
theorem d_law_29 : decode M_law.2.1 29 = .ok (.isub, 1) := by decide +kernel
theorem d_law_30 : decode M_law.2.1 30 = .ok (.if_icmp .gt 1524, 3) := by decide +kernel
theorem d_law_33 : decode M_law.2.1 33 = .ok (.aload_n 0, 1) := by decide +kernel
theorem d_law_34 : decode M_law.2.1 34 = .ok (.iload 4, 2) := by decide +kernel
theorem d_law_36 : decode M_law.2.1 36 = .ok (.iaload, 1) := by decide +kernel
theorem d_law_37 : decode M_law.2.1 37 = .ok (.bipush 31, 2) := by decide +kernel
theorem d_law_39 : decode M_law.2.1 39 = .ok (.iand, 1) := by decide +kernel
theorem d_law_40 : decode M_law.2.1 40 = .ok (.tableswitch 1508 0 22 #[108, 212, 268, 281, 294, 350, 418, 486, 554, 622, 690, 774, 842, 910, 978, 1046, 1102, 1170, 1226, 1294, 1385, 1453, 1494], 108) := by decide +kernel
theorem d_law_148 : decode M_law.2.1 148 = .ok (.aload_n 1, 1) := by decide +kernel
theorem d_law_149 : decode M_law.2.1 149 = .ok (.aload_n 0, 1) := by decide +kernel
theorem d_law_150 : decode M_law.2.1 150 = .ok (.iload 4, 2) := by decide +kernel
theorem d_law_152 : decode M_law.2.1 152 = .ok (.iconst 1, 1) := by decide +kernel
theorem d_law_153 : decode M_law.2.1 153 = .ok (.iadd, 1) := by decide +kernel
theorem d_law_154 : decode M_law.2.1 154 = .ok (.iaload, 1) := by decide +kernel
theorem d_law_155 : decode M_law.2.1 155 = .ok (.aload_n 0, 1) := by decide +kernel
theorem d_law_156 : decode M_law.2.1 156 = .ok (.iload 4, 2) := by decide +kernel
theorem d_law_158 : decode M_law.2.1 158 = .ok (.iconst 2, 1) := by decide +kernel
theorem d_law_159 : decode M_law.2.1 159 = .ok (.iadd, 1) := by decide +kernel
theorem d_law_160 : decode M_law.2.1 160 = .ok (.iaload, 1) := by decide +kernel
theorem d_law_161 : decode M_law.2.1 161 = .ok (.aload_n 0, 1) := by decide +kernel
theorem d_law_162 : decode M_law.2.1 162 = .ok (.iload 4, 2) := by decide +kernel
theorem d_law_164 : decode M_law.2.1 164 = .ok (.iconst 3, 1) := by decide +kernel
theorem d_law_165 : decode M_law.2.1 165 = .ok (.iadd, 1) := by decide +kernel
theorem d_law_166 : decode M_law.2.1 166 = .ok (.iaload, 1) := by decide +kernel
theorem d_law_167 : decode M_law.2.1 167 = .ok (.aload_n 0, 1) := by decide +kernel
theorem d_law_168 : decode M_law.2.1 168 = .ok (.iload 4, 2) := by decide +kernel
theorem d_law_170 : decode M_law.2.1 170 = .ok (.iconst 4, 1) := by decide +kernel
theorem d_law_171 : decode M_law.2.1 171 = .ok (.iadd, 1) := by decide +kernel
theorem d_law_172 : decode M_law.2.1 172 = .ok (.iaload, 1) := by decide +kernel
theorem d_law_173 : decode M_law.2.1 173 = .ok (.aload_n 0, 1) := by decide +kernel
theorem d_law_174 : decode M_law.2.1 174 = .ok (.iload 4, 2) := by decide +kernel
theorem d_law_176 : decode M_law.2.1 176 = .ok (.iconst 5, 1) := by decide +kernel
theorem d_law_177 : decode M_law.2.1 177 = .ok (.iadd, 1) := by decide +kernel
theorem d_law_178 : decode M_law.2.1 178 = .ok (.iaload, 1) := by decide +kernel
theorem d_law_179 : decode M_law.2.1 179 = .ok (.aload_n 3, 1) := by decide +kernel
theorem d_law_180 : decode M_law.2.1 180 = .ok (.invokestatic 81, 3) := by decide +kernel
theorem d_law_183 : decode M_law.2.1 183 = .ok (.istore 5, 2) := by decide +kernel
theorem d_law_185 : decode M_law.2.1 185 = .ok (.aload_n 2, 1) := by decide +kernel
theorem d_law_186 : decode M_law.2.1 186 = .ok (.aload_n 0, 1) := by decide +kernel
theorem d_law_187 : decode M_law.2.1 187 = .ok (.iload 4, 2) := by decide +kernel
theorem d_law_189 : decode M_law.2.1 189 = .ok (.iconst 1, 1) := by decide +kernel
theorem d_law_190 : decode M_law.2.1 190 = .ok (.iadd, 1) := by decide +kernel
theorem d_law_191 : decode M_law.2.1 191 = .ok (.iaload, 1) := by decide +kernel
theorem d_law_192 : decode M_law.2.1 192 = .ok (.aload_n 0, 1) := by decide +kernel
theorem d_law_193 : decode M_law.2.1 193 = .ok (.iload 4, 2) := by decide +kernel
theorem d_law_195 : decode M_law.2.1 195 = .ok (.iconst 2, 1) := by decide +kernel
theorem d_law_196 : decode M_law.2.1 196 = .ok (.iadd, 1) := by decide +kernel
theorem d_law_197 : decode M_law.2.1 197 = .ok (.iaload, 1) := by decide +kernel
theorem d_law_198 : decode M_law.2.1 198 = .ok (.aload_n 0, 1) := by decide +kernel
theorem d_law_199 : decode M_law.2.1 199 = .ok (.iload 4, 2) := by decide +kernel
theorem d_law_201 : decode M_law.2.1 201 = .ok (.iconst 3, 1) := by decide +kernel
theorem d_law_202 : decode M_law.2.1 202 = .ok (.iadd, 1) := by decide +kernel
theorem d_law_203 : decode M_law.2.1 203 = .ok (.iaload, 1) := by decide +kernel
theorem d_law_204 : decode M_law.2.1 204 = .ok (.aload_n 0, 1) := by decide +kernel
theorem d_law_205 : decode M_law.2.1 205 = .ok (.iload 4, 2) := by decide +kernel
theorem d_law_207 : decode M_law.2.1 207 = .ok (.iconst 4, 1) := by decide +kernel
theorem d_law_208 : decode M_law.2.1 208 = .ok (.iadd, 1) := by decide +kernel
theorem d_law_209 : decode M_law.2.1 209 = .ok (.iaload, 1) := by decide +kernel
theorem d_law_210 : decode M_law.2.1 210 = .ok (.aload_n 0, 1) := by decide +kernel
theorem d_law_211 : decode M_law.2.1 211 = .ok (.iload 4, 2) := by decide +kernel
theorem d_law_213 : decode M_law.2.1 213 = .ok (.iconst 5, 1) := by decide +kernel
theorem d_law_214 : decode M_law.2.1 214 = .ok (.iadd, 1) := by decide +kernel
theorem d_law_215 : decode M_law.2.1 215 = .ok (.iaload, 1) := by decide +kernel
theorem d_law_216 : decode M_law.2.1 216 = .ok (.invokevirtual 86, 3) := by decide +kernel
theorem d_law_219 : decode M_law.2.1 219 = .ok (.istore 6, 2) := by decide +kernel
theorem d_law_221 : decode M_law.2.1 221 = .ok (.aload_n 2, 1) := by decide +kernel
theorem d_law_222 : decode M_law.2.1 222 = .ok (.invokevirtual 87, 3) := by decide +kernel
theorem d_law_225 : decode M_law.2.1 225 = .ok (.iload 5, 2) := by decide +kernel
theorem d_law_227 : decode M_law.2.1 227 = .ok (.if_icmp .eq 5, 3) := by decide +kernel
theorem d_law_230 : decode M_law.2.1 230 = .ok (.iconst 0, 1) := by decide +kernel
theorem d_law_231 : decode M_law.2.1 231 = .ok (.ireturn, 1) := by decide +kernel
theorem d_law_232 : decode M_law.2.1 232 = .ok (.iload 5, 2) := by decide +kernel
theorem d_law_234 : decode M_law.2.1 234 = .ok (.ifCond .ne 15, 3) := by decide +kernel
theorem d_law_237 : decode M_law.2.1 237 = .ok (.aload_n 3, 1) := by decide +kernel
theorem d_law_238 : decode M_law.2.1 238 = .ok (.iconst 0, 1) := by decide +kernel
theorem d_law_239 : decode M_law.2.1 239 = .ok (.laload, 1) := by decide +kernel
theorem d_law_240 : decode M_law.2.1 240 = .ok (.iload 6, 2) := by decide +kernel
theorem d_law_242 : decode M_law.2.1 242 = .ok (.i2l, 1) := by decide +kernel
theorem d_law_243 : decode M_law.2.1 243 = .ok (.lcmp, 1) := by decide +kernel
theorem d_law_244 : decode M_law.2.1 244 = .ok (.ifCond .eq 5, 3) := by decide +kernel
theorem d_law_247 : decode M_law.2.1 247 = .ok (.iconst 0, 1) := by decide +kernel
theorem d_law_248 : decode M_law.2.1 248 = .ok (.ireturn, 1) := by decide +kernel
theorem d_law_249 : decode M_law.2.1 249 = .ok (.goto 1299, 3) := by decide +kernel
theorem d_law_252 : decode M_law.2.1 252 = .ok (.aload_n 1, 1) := by decide +kernel
theorem d_law_253 : decode M_law.2.1 253 = .ok (.aload_n 0, 1) := by decide +kernel
theorem d_law_254 : decode M_law.2.1 254 = .ok (.iload 4, 2) := by decide +kernel
theorem d_law_256 : decode M_law.2.1 256 = .ok (.iconst 1, 1) := by decide +kernel
theorem d_law_257 : decode M_law.2.1 257 = .ok (.iadd, 1) := by decide +kernel
theorem d_law_258 : decode M_law.2.1 258 = .ok (.iaload, 1) := by decide +kernel
theorem d_law_259 : decode M_law.2.1 259 = .ok (.aload_n 3, 1) := by decide +kernel
theorem d_law_260 : decode M_law.2.1 260 = .ok (.invokestatic 91, 3) := by decide +kernel
theorem d_law_263 : decode M_law.2.1 263 = .ok (.istore 5, 2) := by decide +kernel
theorem d_law_265 : decode M_law.2.1 265 = .ok (.aload_n 2, 1) := by decide +kernel
theorem d_law_266 : decode M_law.2.1 266 = .ok (.aload_n 0, 1) := by decide +kernel
theorem d_law_267 : decode M_law.2.1 267 = .ok (.iload 4, 2) := by decide +kernel
theorem d_law_269 : decode M_law.2.1 269 = .ok (.iconst 1, 1) := by decide +kernel
theorem d_law_270 : decode M_law.2.1 270 = .ok (.iadd, 1) := by decide +kernel
theorem d_law_271 : decode M_law.2.1 271 = .ok (.iaload, 1) := by decide +kernel
theorem d_law_272 : decode M_law.2.1 272 = .ok (.invokevirtual 94, 3) := by decide +kernel
theorem d_law_275 : decode M_law.2.1 275 = .ok (.istore 6, 2) := by decide +kernel
theorem d_law_277 : decode M_law.2.1 277 = .ok (.aload_n 2, 1) := by decide +kernel
theorem d_law_278 : decode M_law.2.1 278 = .ok (.invokevirtual 87, 3) := by decide +kernel
theorem d_law_281 : decode M_law.2.1 281 = .ok (.iload 5, 2) := by decide +kernel
theorem d_law_283 : decode M_law.2.1 283 = .ok (.if_icmp .eq 5, 3) := by decide +kernel
theorem d_law_286 : decode M_law.2.1 286 = .ok (.iconst 0, 1) := by decide +kernel
theorem d_law_287 : decode M_law.2.1 287 = .ok (.ireturn, 1) := by decide +kernel
theorem d_law_288 : decode M_law.2.1 288 = .ok (.iload 5, 2) := by decide +kernel
theorem d_law_290 : decode M_law.2.1 290 = .ok (.ifCond .ne 15, 3) := by decide +kernel
theorem d_law_293 : decode M_law.2.1 293 = .ok (.aload_n 3, 1) := by decide +kernel
theorem d_law_294 : decode M_law.2.1 294 = .ok (.iconst 0, 1) := by decide +kernel
theorem d_law_295 : decode M_law.2.1 295 = .ok (.laload, 1) := by decide +kernel
theorem d_law_296 : decode M_law.2.1 296 = .ok (.iload 6, 2) := by decide +kernel
theorem d_law_298 : decode M_law.2.1 298 = .ok (.i2l, 1) := by decide +kernel
theorem d_law_299 : decode M_law.2.1 299 = .ok (.lcmp, 1) := by decide +kernel
theorem d_law_300 : decode M_law.2.1 300 = .ok (.ifCond .eq 5, 3) := by decide +kernel
theorem d_law_303 : decode M_law.2.1 303 = .ok (.iconst 0, 1) := by decide +kernel
theorem d_law_304 : decode M_law.2.1 304 = .ok (.ireturn, 1) := by decide +kernel
theorem d_law_305 : decode M_law.2.1 305 = .ok (.goto 1243, 3) := by decide +kernel
theorem d_law_308 : decode M_law.2.1 308 = .ok (.aload_n 1, 1) := by decide +kernel
theorem d_law_309 : decode M_law.2.1 309 = .ok (.invokevirtual 95, 3) := by decide +kernel
theorem d_law_312 : decode M_law.2.1 312 = .ok (.aload_n 2, 1) := by decide +kernel
theorem d_law_313 : decode M_law.2.1 313 = .ok (.invokevirtual 98, 3) := by decide +kernel
theorem d_law_316 : decode M_law.2.1 316 = .ok (.if_icmp .eq 1232, 3) := by decide +kernel
theorem d_law_319 : decode M_law.2.1 319 = .ok (.iconst 0, 1) := by decide +kernel
theorem d_law_320 : decode M_law.2.1 320 = .ok (.ireturn, 1) := by decide +kernel
theorem d_law_321 : decode M_law.2.1 321 = .ok (.aload_n 1, 1) := by decide +kernel
theorem d_law_322 : decode M_law.2.1 322 = .ok (.invokevirtual 99, 3) := by decide +kernel
theorem d_law_325 : decode M_law.2.1 325 = .ok (.aload_n 2, 1) := by decide +kernel
theorem d_law_326 : decode M_law.2.1 326 = .ok (.invokevirtual 102, 3) := by decide +kernel
theorem d_law_329 : decode M_law.2.1 329 = .ok (.if_icmp .eq 1219, 3) := by decide +kernel
theorem d_law_332 : decode M_law.2.1 332 = .ok (.iconst 0, 1) := by decide +kernel
theorem d_law_333 : decode M_law.2.1 333 = .ok (.ireturn, 1) := by decide +kernel
theorem d_law_334 : decode M_law.2.1 334 = .ok (.aload_n 1, 1) := by decide +kernel
theorem d_law_335 : decode M_law.2.1 335 = .ok (.aload_n 0, 1) := by decide +kernel
theorem d_law_336 : decode M_law.2.1 336 = .ok (.iload 4, 2) := by decide +kernel
theorem d_law_338 : decode M_law.2.1 338 = .ok (.iconst 1, 1) := by decide +kernel
theorem d_law_339 : decode M_law.2.1 339 = .ok (.iadd, 1) := by decide +kernel
theorem d_law_340 : decode M_law.2.1 340 = .ok (.iaload, 1) := by decide +kernel
theorem d_law_341 : decode M_law.2.1 341 = .ok (.aload_n 3, 1) := by decide +kernel
theorem d_law_342 : decode M_law.2.1 342 = .ok (.invokestatic 103, 3) := by decide +kernel
theorem d_law_345 : decode M_law.2.1 345 = .ok (.istore 5, 2) := by decide +kernel
theorem d_law_347 : decode M_law.2.1 347 = .ok (.aload_n 2, 1) := by decide +kernel
theorem d_law_348 : decode M_law.2.1 348 = .ok (.aload_n 0, 1) := by decide +kernel
theorem d_law_349 : decode M_law.2.1 349 = .ok (.iload 4, 2) := by decide +kernel
theorem d_law_351 : decode M_law.2.1 351 = .ok (.iconst 1, 1) := by decide +kernel
theorem d_law_352 : decode M_law.2.1 352 = .ok (.iadd, 1) := by decide +kernel
theorem d_law_353 : decode M_law.2.1 353 = .ok (.iaload, 1) := by decide +kernel
theorem d_law_354 : decode M_law.2.1 354 = .ok (.invokevirtual 105, 3) := by decide +kernel
theorem d_law_357 : decode M_law.2.1 357 = .ok (.istore 6, 2) := by decide +kernel
theorem d_law_359 : decode M_law.2.1 359 = .ok (.aload_n 2, 1) := by decide +kernel
theorem d_law_360 : decode M_law.2.1 360 = .ok (.invokevirtual 87, 3) := by decide +kernel
theorem d_law_363 : decode M_law.2.1 363 = .ok (.iload 5, 2) := by decide +kernel
theorem d_law_365 : decode M_law.2.1 365 = .ok (.if_icmp .eq 5, 3) := by decide +kernel
theorem d_law_368 : decode M_law.2.1 368 = .ok (.iconst 0, 1) := by decide +kernel
theorem d_law_369 : decode M_law.2.1 369 = .ok (.ireturn, 1) := by decide +kernel
theorem d_law_370 : decode M_law.2.1 370 = .ok (.iload 5, 2) := by decide +kernel
theorem d_law_372 : decode M_law.2.1 372 = .ok (.ifCond .ne 15, 3) := by decide +kernel
theorem d_law_375 : decode M_law.2.1 375 = .ok (.aload_n 3, 1) := by decide +kernel
theorem d_law_376 : decode M_law.2.1 376 = .ok (.iconst 0, 1) := by decide +kernel
theorem d_law_377 : decode M_law.2.1 377 = .ok (.laload, 1) := by decide +kernel
theorem d_law_378 : decode M_law.2.1 378 = .ok (.iload 6, 2) := by decide +kernel
theorem d_law_380 : decode M_law.2.1 380 = .ok (.i2l, 1) := by decide +kernel
theorem d_law_381 : decode M_law.2.1 381 = .ok (.lcmp, 1) := by decide +kernel
theorem d_law_382 : decode M_law.2.1 382 = .ok (.ifCond .eq 5, 3) := by decide +kernel
theorem d_law_385 : decode M_law.2.1 385 = .ok (.iconst 0, 1) := by decide +kernel
theorem d_law_386 : decode M_law.2.1 386 = .ok (.ireturn, 1) := by decide +kernel
theorem d_law_387 : decode M_law.2.1 387 = .ok (.goto 1161, 3) := by decide +kernel
theorem d_law_390 : decode M_law.2.1 390 = .ok (.aload_n 1, 1) := by decide +kernel
theorem d_law_391 : decode M_law.2.1 391 = .ok (.aload_n 0, 1) := by decide +kernel
theorem d_law_392 : decode M_law.2.1 392 = .ok (.iload 4, 2) := by decide +kernel
theorem d_law_394 : decode M_law.2.1 394 = .ok (.iconst 1, 1) := by decide +kernel
theorem d_law_395 : decode M_law.2.1 395 = .ok (.iadd, 1) := by decide +kernel
theorem d_law_396 : decode M_law.2.1 396 = .ok (.iaload, 1) := by decide +kernel
theorem d_law_397 : decode M_law.2.1 397 = .ok (.aload_n 0, 1) := by decide +kernel
theorem d_law_398 : decode M_law.2.1 398 = .ok (.iload 4, 2) := by decide +kernel
theorem d_law_400 : decode M_law.2.1 400 = .ok (.iconst 2, 1) := by decide +kernel
theorem d_law_401 : decode M_law.2.1 401 = .ok (.iadd, 1) := by decide +kernel
theorem d_law_402 : decode M_law.2.1 402 = .ok (.iaload, 1) := by decide +kernel
theorem d_law_403 : decode M_law.2.1 403 = .ok (.aload_n 3, 1) := by decide +kernel
theorem d_law_404 : decode M_law.2.1 404 = .ok (.invokestatic 106, 3) := by decide +kernel
theorem d_law_407 : decode M_law.2.1 407 = .ok (.istore 5, 2) := by decide +kernel
theorem d_law_409 : decode M_law.2.1 409 = .ok (.aload_n 2, 1) := by decide +kernel
theorem d_law_410 : decode M_law.2.1 410 = .ok (.aload_n 0, 1) := by decide +kernel
theorem d_law_411 : decode M_law.2.1 411 = .ok (.iload 4, 2) := by decide +kernel
theorem d_law_413 : decode M_law.2.1 413 = .ok (.iconst 1, 1) := by decide +kernel
theorem d_law_414 : decode M_law.2.1 414 = .ok (.iadd, 1) := by decide +kernel
theorem d_law_415 : decode M_law.2.1 415 = .ok (.iaload, 1) := by decide +kernel
theorem d_law_416 : decode M_law.2.1 416 = .ok (.aload_n 0, 1) := by decide +kernel
theorem d_law_417 : decode M_law.2.1 417 = .ok (.iload 4, 2) := by decide +kernel
theorem d_law_419 : decode M_law.2.1 419 = .ok (.iconst 2, 1) := by decide +kernel
theorem d_law_420 : decode M_law.2.1 420 = .ok (.iadd, 1) := by decide +kernel
theorem d_law_421 : decode M_law.2.1 421 = .ok (.iaload, 1) := by decide +kernel
theorem d_law_422 : decode M_law.2.1 422 = .ok (.invokevirtual 109, 3) := by decide +kernel
theorem d_law_425 : decode M_law.2.1 425 = .ok (.istore 6, 2) := by decide +kernel
theorem d_law_427 : decode M_law.2.1 427 = .ok (.aload_n 2, 1) := by decide +kernel
theorem d_law_428 : decode M_law.2.1 428 = .ok (.invokevirtual 87, 3) := by decide +kernel
theorem d_law_431 : decode M_law.2.1 431 = .ok (.iload 5, 2) := by decide +kernel
theorem d_law_433 : decode M_law.2.1 433 = .ok (.if_icmp .eq 5, 3) := by decide +kernel
theorem d_law_436 : decode M_law.2.1 436 = .ok (.iconst 0, 1) := by decide +kernel
theorem d_law_437 : decode M_law.2.1 437 = .ok (.ireturn, 1) := by decide +kernel
theorem d_law_438 : decode M_law.2.1 438 = .ok (.iload 5, 2) := by decide +kernel
theorem d_law_440 : decode M_law.2.1 440 = .ok (.ifCond .ne 15, 3) := by decide +kernel
theorem d_law_443 : decode M_law.2.1 443 = .ok (.aload_n 3, 1) := by decide +kernel
theorem d_law_444 : decode M_law.2.1 444 = .ok (.iconst 0, 1) := by decide +kernel
theorem d_law_445 : decode M_law.2.1 445 = .ok (.laload, 1) := by decide +kernel
theorem d_law_446 : decode M_law.2.1 446 = .ok (.iload 6, 2) := by decide +kernel
theorem d_law_448 : decode M_law.2.1 448 = .ok (.i2l, 1) := by decide +kernel
theorem d_law_449 : decode M_law.2.1 449 = .ok (.lcmp, 1) := by decide +kernel
theorem d_law_450 : decode M_law.2.1 450 = .ok (.ifCond .eq 5, 3) := by decide +kernel
theorem d_law_453 : decode M_law.2.1 453 = .ok (.iconst 0, 1) := by decide +kernel
theorem d_law_454 : decode M_law.2.1 454 = .ok (.ireturn, 1) := by decide +kernel
theorem d_law_455 : decode M_law.2.1 455 = .ok (.goto 1093, 3) := by decide +kernel
theorem d_law_458 : decode M_law.2.1 458 = .ok (.aload_n 1, 1) := by decide +kernel
theorem d_law_459 : decode M_law.2.1 459 = .ok (.aload_n 0, 1) := by decide +kernel
theorem d_law_460 : decode M_law.2.1 460 = .ok (.iload 4, 2) := by decide +kernel
theorem d_law_462 : decode M_law.2.1 462 = .ok (.iconst 1, 1) := by decide +kernel
theorem d_law_463 : decode M_law.2.1 463 = .ok (.iadd, 1) := by decide +kernel
theorem d_law_464 : decode M_law.2.1 464 = .ok (.iaload, 1) := by decide +kernel
theorem d_law_465 : decode M_law.2.1 465 = .ok (.aload_n 0, 1) := by decide +kernel
theorem d_law_466 : decode M_law.2.1 466 = .ok (.iload 4, 2) := by decide +kernel
theorem d_law_468 : decode M_law.2.1 468 = .ok (.iconst 2, 1) := by decide +kernel
theorem d_law_469 : decode M_law.2.1 469 = .ok (.iadd, 1) := by decide +kernel
theorem d_law_470 : decode M_law.2.1 470 = .ok (.iaload, 1) := by decide +kernel
theorem d_law_471 : decode M_law.2.1 471 = .ok (.aload_n 3, 1) := by decide +kernel
theorem d_law_472 : decode M_law.2.1 472 = .ok (.invokestatic 110, 3) := by decide +kernel
theorem d_law_475 : decode M_law.2.1 475 = .ok (.istore 5, 2) := by decide +kernel
theorem d_law_477 : decode M_law.2.1 477 = .ok (.aload_n 2, 1) := by decide +kernel
theorem d_law_478 : decode M_law.2.1 478 = .ok (.aload_n 0, 1) := by decide +kernel
theorem d_law_479 : decode M_law.2.1 479 = .ok (.iload 4, 2) := by decide +kernel
theorem d_law_481 : decode M_law.2.1 481 = .ok (.iconst 1, 1) := by decide +kernel
theorem d_law_482 : decode M_law.2.1 482 = .ok (.iadd, 1) := by decide +kernel
theorem d_law_483 : decode M_law.2.1 483 = .ok (.iaload, 1) := by decide +kernel
theorem d_law_484 : decode M_law.2.1 484 = .ok (.aload_n 0, 1) := by decide +kernel
theorem d_law_485 : decode M_law.2.1 485 = .ok (.iload 4, 2) := by decide +kernel
theorem d_law_487 : decode M_law.2.1 487 = .ok (.iconst 2, 1) := by decide +kernel
theorem d_law_488 : decode M_law.2.1 488 = .ok (.iadd, 1) := by decide +kernel
theorem d_law_489 : decode M_law.2.1 489 = .ok (.iaload, 1) := by decide +kernel
theorem d_law_490 : decode M_law.2.1 490 = .ok (.invokevirtual 112, 3) := by decide +kernel
theorem d_law_493 : decode M_law.2.1 493 = .ok (.istore 6, 2) := by decide +kernel
theorem d_law_495 : decode M_law.2.1 495 = .ok (.aload_n 2, 1) := by decide +kernel
theorem d_law_496 : decode M_law.2.1 496 = .ok (.invokevirtual 87, 3) := by decide +kernel
theorem d_law_499 : decode M_law.2.1 499 = .ok (.iload 5, 2) := by decide +kernel
theorem d_law_501 : decode M_law.2.1 501 = .ok (.if_icmp .eq 5, 3) := by decide +kernel
theorem d_law_504 : decode M_law.2.1 504 = .ok (.iconst 0, 1) := by decide +kernel
theorem d_law_505 : decode M_law.2.1 505 = .ok (.ireturn, 1) := by decide +kernel
theorem d_law_506 : decode M_law.2.1 506 = .ok (.iload 5, 2) := by decide +kernel
theorem d_law_508 : decode M_law.2.1 508 = .ok (.ifCond .ne 15, 3) := by decide +kernel
theorem d_law_511 : decode M_law.2.1 511 = .ok (.aload_n 3, 1) := by decide +kernel
theorem d_law_512 : decode M_law.2.1 512 = .ok (.iconst 0, 1) := by decide +kernel
theorem d_law_513 : decode M_law.2.1 513 = .ok (.laload, 1) := by decide +kernel
theorem d_law_514 : decode M_law.2.1 514 = .ok (.iload 6, 2) := by decide +kernel
theorem d_law_516 : decode M_law.2.1 516 = .ok (.i2l, 1) := by decide +kernel
theorem d_law_517 : decode M_law.2.1 517 = .ok (.lcmp, 1) := by decide +kernel
theorem d_law_518 : decode M_law.2.1 518 = .ok (.ifCond .eq 5, 3) := by decide +kernel
theorem d_law_521 : decode M_law.2.1 521 = .ok (.iconst 0, 1) := by decide +kernel
theorem d_law_522 : decode M_law.2.1 522 = .ok (.ireturn, 1) := by decide +kernel
theorem d_law_523 : decode M_law.2.1 523 = .ok (.goto 1025, 3) := by decide +kernel
theorem d_law_526 : decode M_law.2.1 526 = .ok (.aload_n 1, 1) := by decide +kernel
theorem d_law_527 : decode M_law.2.1 527 = .ok (.aload_n 0, 1) := by decide +kernel
theorem d_law_528 : decode M_law.2.1 528 = .ok (.iload 4, 2) := by decide +kernel
theorem d_law_530 : decode M_law.2.1 530 = .ok (.iconst 1, 1) := by decide +kernel
theorem d_law_531 : decode M_law.2.1 531 = .ok (.iadd, 1) := by decide +kernel
theorem d_law_532 : decode M_law.2.1 532 = .ok (.iaload, 1) := by decide +kernel
theorem d_law_533 : decode M_law.2.1 533 = .ok (.aload_n 0, 1) := by decide +kernel
theorem d_law_534 : decode M_law.2.1 534 = .ok (.iload 4, 2) := by decide +kernel
theorem d_law_536 : decode M_law.2.1 536 = .ok (.iconst 2, 1) := by decide +kernel
theorem d_law_537 : decode M_law.2.1 537 = .ok (.iadd, 1) := by decide +kernel
theorem d_law_538 : decode M_law.2.1 538 = .ok (.iaload, 1) := by decide +kernel
theorem d_law_539 : decode M_law.2.1 539 = .ok (.aload_n 3, 1) := by decide +kernel
theorem d_law_540 : decode M_law.2.1 540 = .ok (.invokestatic 113, 3) := by decide +kernel
theorem d_law_543 : decode M_law.2.1 543 = .ok (.istore 5, 2) := by decide +kernel
theorem d_law_545 : decode M_law.2.1 545 = .ok (.aload_n 2, 1) := by decide +kernel
theorem d_law_546 : decode M_law.2.1 546 = .ok (.aload_n 0, 1) := by decide +kernel
theorem d_law_547 : decode M_law.2.1 547 = .ok (.iload 4, 2) := by decide +kernel
theorem d_law_549 : decode M_law.2.1 549 = .ok (.iconst 1, 1) := by decide +kernel
theorem d_law_550 : decode M_law.2.1 550 = .ok (.iadd, 1) := by decide +kernel
theorem d_law_551 : decode M_law.2.1 551 = .ok (.iaload, 1) := by decide +kernel
theorem d_law_552 : decode M_law.2.1 552 = .ok (.aload_n 0, 1) := by decide +kernel
theorem d_law_553 : decode M_law.2.1 553 = .ok (.iload 4, 2) := by decide +kernel
theorem d_law_555 : decode M_law.2.1 555 = .ok (.iconst 2, 1) := by decide +kernel
theorem d_law_556 : decode M_law.2.1 556 = .ok (.iadd, 1) := by decide +kernel
theorem d_law_557 : decode M_law.2.1 557 = .ok (.iaload, 1) := by decide +kernel
theorem d_law_558 : decode M_law.2.1 558 = .ok (.invokevirtual 115, 3) := by decide +kernel
theorem d_law_561 : decode M_law.2.1 561 = .ok (.istore 6, 2) := by decide +kernel
theorem d_law_563 : decode M_law.2.1 563 = .ok (.aload_n 2, 1) := by decide +kernel
theorem d_law_564 : decode M_law.2.1 564 = .ok (.invokevirtual 87, 3) := by decide +kernel
theorem d_law_567 : decode M_law.2.1 567 = .ok (.iload 5, 2) := by decide +kernel
theorem d_law_569 : decode M_law.2.1 569 = .ok (.if_icmp .eq 5, 3) := by decide +kernel
theorem d_law_572 : decode M_law.2.1 572 = .ok (.iconst 0, 1) := by decide +kernel
theorem d_law_573 : decode M_law.2.1 573 = .ok (.ireturn, 1) := by decide +kernel
theorem d_law_574 : decode M_law.2.1 574 = .ok (.iload 5, 2) := by decide +kernel
theorem d_law_576 : decode M_law.2.1 576 = .ok (.ifCond .ne 15, 3) := by decide +kernel
theorem d_law_579 : decode M_law.2.1 579 = .ok (.aload_n 3, 1) := by decide +kernel
theorem d_law_580 : decode M_law.2.1 580 = .ok (.iconst 0, 1) := by decide +kernel
theorem d_law_581 : decode M_law.2.1 581 = .ok (.laload, 1) := by decide +kernel
theorem d_law_582 : decode M_law.2.1 582 = .ok (.iload 6, 2) := by decide +kernel
theorem d_law_584 : decode M_law.2.1 584 = .ok (.i2l, 1) := by decide +kernel
theorem d_law_585 : decode M_law.2.1 585 = .ok (.lcmp, 1) := by decide +kernel
theorem d_law_586 : decode M_law.2.1 586 = .ok (.ifCond .eq 5, 3) := by decide +kernel
theorem d_law_589 : decode M_law.2.1 589 = .ok (.iconst 0, 1) := by decide +kernel
theorem d_law_590 : decode M_law.2.1 590 = .ok (.ireturn, 1) := by decide +kernel
theorem d_law_591 : decode M_law.2.1 591 = .ok (.goto 957, 3) := by decide +kernel
theorem d_law_594 : decode M_law.2.1 594 = .ok (.aload_n 1, 1) := by decide +kernel
theorem d_law_595 : decode M_law.2.1 595 = .ok (.aload_n 0, 1) := by decide +kernel
theorem d_law_596 : decode M_law.2.1 596 = .ok (.iload 4, 2) := by decide +kernel
theorem d_law_598 : decode M_law.2.1 598 = .ok (.iconst 1, 1) := by decide +kernel
theorem d_law_599 : decode M_law.2.1 599 = .ok (.iadd, 1) := by decide +kernel
theorem d_law_600 : decode M_law.2.1 600 = .ok (.iaload, 1) := by decide +kernel
theorem d_law_601 : decode M_law.2.1 601 = .ok (.aload_n 0, 1) := by decide +kernel
theorem d_law_602 : decode M_law.2.1 602 = .ok (.iload 4, 2) := by decide +kernel
theorem d_law_604 : decode M_law.2.1 604 = .ok (.iconst 2, 1) := by decide +kernel
theorem d_law_605 : decode M_law.2.1 605 = .ok (.iadd, 1) := by decide +kernel
theorem d_law_606 : decode M_law.2.1 606 = .ok (.iaload, 1) := by decide +kernel
theorem d_law_607 : decode M_law.2.1 607 = .ok (.aload_n 3, 1) := by decide +kernel
theorem d_law_608 : decode M_law.2.1 608 = .ok (.invokestatic 116, 3) := by decide +kernel
theorem d_law_611 : decode M_law.2.1 611 = .ok (.istore 5, 2) := by decide +kernel
theorem d_law_613 : decode M_law.2.1 613 = .ok (.aload_n 2, 1) := by decide +kernel
theorem d_law_614 : decode M_law.2.1 614 = .ok (.aload_n 0, 1) := by decide +kernel
theorem d_law_615 : decode M_law.2.1 615 = .ok (.iload 4, 2) := by decide +kernel
theorem d_law_617 : decode M_law.2.1 617 = .ok (.iconst 1, 1) := by decide +kernel
theorem d_law_618 : decode M_law.2.1 618 = .ok (.iadd, 1) := by decide +kernel
theorem d_law_619 : decode M_law.2.1 619 = .ok (.iaload, 1) := by decide +kernel
theorem d_law_620 : decode M_law.2.1 620 = .ok (.aload_n 0, 1) := by decide +kernel
theorem d_law_621 : decode M_law.2.1 621 = .ok (.iload 4, 2) := by decide +kernel
theorem d_law_623 : decode M_law.2.1 623 = .ok (.iconst 2, 1) := by decide +kernel
theorem d_law_624 : decode M_law.2.1 624 = .ok (.iadd, 1) := by decide +kernel
theorem d_law_625 : decode M_law.2.1 625 = .ok (.iaload, 1) := by decide +kernel
theorem d_law_626 : decode M_law.2.1 626 = .ok (.invokevirtual 118, 3) := by decide +kernel
theorem d_law_629 : decode M_law.2.1 629 = .ok (.istore 6, 2) := by decide +kernel
theorem d_law_631 : decode M_law.2.1 631 = .ok (.aload_n 2, 1) := by decide +kernel
theorem d_law_632 : decode M_law.2.1 632 = .ok (.invokevirtual 87, 3) := by decide +kernel
theorem d_law_635 : decode M_law.2.1 635 = .ok (.iload 5, 2) := by decide +kernel
theorem d_law_637 : decode M_law.2.1 637 = .ok (.if_icmp .eq 5, 3) := by decide +kernel
theorem d_law_640 : decode M_law.2.1 640 = .ok (.iconst 0, 1) := by decide +kernel
theorem d_law_641 : decode M_law.2.1 641 = .ok (.ireturn, 1) := by decide +kernel
theorem d_law_642 : decode M_law.2.1 642 = .ok (.iload 5, 2) := by decide +kernel
theorem d_law_644 : decode M_law.2.1 644 = .ok (.ifCond .ne 15, 3) := by decide +kernel
theorem d_law_647 : decode M_law.2.1 647 = .ok (.aload_n 3, 1) := by decide +kernel
theorem d_law_648 : decode M_law.2.1 648 = .ok (.iconst 0, 1) := by decide +kernel
theorem d_law_649 : decode M_law.2.1 649 = .ok (.laload, 1) := by decide +kernel
theorem d_law_650 : decode M_law.2.1 650 = .ok (.iload 6, 2) := by decide +kernel
theorem d_law_652 : decode M_law.2.1 652 = .ok (.i2l, 1) := by decide +kernel
theorem d_law_653 : decode M_law.2.1 653 = .ok (.lcmp, 1) := by decide +kernel
theorem d_law_654 : decode M_law.2.1 654 = .ok (.ifCond .eq 5, 3) := by decide +kernel
theorem d_law_657 : decode M_law.2.1 657 = .ok (.iconst 0, 1) := by decide +kernel
theorem d_law_658 : decode M_law.2.1 658 = .ok (.ireturn, 1) := by decide +kernel
theorem d_law_659 : decode M_law.2.1 659 = .ok (.goto 889, 3) := by decide +kernel
theorem d_law_662 : decode M_law.2.1 662 = .ok (.aload_n 1, 1) := by decide +kernel
theorem d_law_663 : decode M_law.2.1 663 = .ok (.aload_n 0, 1) := by decide +kernel
theorem d_law_664 : decode M_law.2.1 664 = .ok (.iload 4, 2) := by decide +kernel
theorem d_law_666 : decode M_law.2.1 666 = .ok (.iconst 1, 1) := by decide +kernel
theorem d_law_667 : decode M_law.2.1 667 = .ok (.iadd, 1) := by decide +kernel
theorem d_law_668 : decode M_law.2.1 668 = .ok (.iaload, 1) := by decide +kernel
theorem d_law_669 : decode M_law.2.1 669 = .ok (.aload_n 0, 1) := by decide +kernel
theorem d_law_670 : decode M_law.2.1 670 = .ok (.iload 4, 2) := by decide +kernel
theorem d_law_672 : decode M_law.2.1 672 = .ok (.iconst 2, 1) := by decide +kernel
theorem d_law_673 : decode M_law.2.1 673 = .ok (.iadd, 1) := by decide +kernel
theorem d_law_674 : decode M_law.2.1 674 = .ok (.iaload, 1) := by decide +kernel
theorem d_law_675 : decode M_law.2.1 675 = .ok (.aload_n 3, 1) := by decide +kernel
theorem d_law_676 : decode M_law.2.1 676 = .ok (.invokestatic 119, 3) := by decide +kernel
theorem d_law_679 : decode M_law.2.1 679 = .ok (.istore 5, 2) := by decide +kernel
theorem d_law_681 : decode M_law.2.1 681 = .ok (.aload_n 2, 1) := by decide +kernel
theorem d_law_682 : decode M_law.2.1 682 = .ok (.aload_n 0, 1) := by decide +kernel
theorem d_law_683 : decode M_law.2.1 683 = .ok (.iload 4, 2) := by decide +kernel
theorem d_law_685 : decode M_law.2.1 685 = .ok (.iconst 1, 1) := by decide +kernel
theorem d_law_686 : decode M_law.2.1 686 = .ok (.iadd, 1) := by decide +kernel
theorem d_law_687 : decode M_law.2.1 687 = .ok (.iaload, 1) := by decide +kernel
theorem d_law_688 : decode M_law.2.1 688 = .ok (.aload_n 0, 1) := by decide +kernel
theorem d_law_689 : decode M_law.2.1 689 = .ok (.iload 4, 2) := by decide +kernel
theorem d_law_691 : decode M_law.2.1 691 = .ok (.iconst 2, 1) := by decide +kernel
theorem d_law_692 : decode M_law.2.1 692 = .ok (.iadd, 1) := by decide +kernel
theorem d_law_693 : decode M_law.2.1 693 = .ok (.iaload, 1) := by decide +kernel
theorem d_law_694 : decode M_law.2.1 694 = .ok (.invokevirtual 121, 3) := by decide +kernel
theorem d_law_697 : decode M_law.2.1 697 = .ok (.istore 6, 2) := by decide +kernel
theorem d_law_699 : decode M_law.2.1 699 = .ok (.aload_n 2, 1) := by decide +kernel
theorem d_law_700 : decode M_law.2.1 700 = .ok (.invokevirtual 87, 3) := by decide +kernel
theorem d_law_703 : decode M_law.2.1 703 = .ok (.iload 5, 2) := by decide +kernel
theorem d_law_705 : decode M_law.2.1 705 = .ok (.if_icmp .eq 5, 3) := by decide +kernel
theorem d_law_708 : decode M_law.2.1 708 = .ok (.iconst 0, 1) := by decide +kernel
theorem d_law_709 : decode M_law.2.1 709 = .ok (.ireturn, 1) := by decide +kernel
theorem d_law_710 : decode M_law.2.1 710 = .ok (.iload 5, 2) := by decide +kernel
theorem d_law_712 : decode M_law.2.1 712 = .ok (.ifCond .ne 15, 3) := by decide +kernel
theorem d_law_715 : decode M_law.2.1 715 = .ok (.aload_n 3, 1) := by decide +kernel
theorem d_law_716 : decode M_law.2.1 716 = .ok (.iconst 0, 1) := by decide +kernel
theorem d_law_717 : decode M_law.2.1 717 = .ok (.laload, 1) := by decide +kernel
theorem d_law_718 : decode M_law.2.1 718 = .ok (.iload 6, 2) := by decide +kernel
theorem d_law_720 : decode M_law.2.1 720 = .ok (.i2l, 1) := by decide +kernel
theorem d_law_721 : decode M_law.2.1 721 = .ok (.lcmp, 1) := by decide +kernel
theorem d_law_722 : decode M_law.2.1 722 = .ok (.ifCond .eq 5, 3) := by decide +kernel
theorem d_law_725 : decode M_law.2.1 725 = .ok (.iconst 0, 1) := by decide +kernel
theorem d_law_726 : decode M_law.2.1 726 = .ok (.ireturn, 1) := by decide +kernel
theorem d_law_727 : decode M_law.2.1 727 = .ok (.goto 821, 3) := by decide +kernel
theorem d_law_730 : decode M_law.2.1 730 = .ok (.aload_n 1, 1) := by decide +kernel
theorem d_law_731 : decode M_law.2.1 731 = .ok (.aload_n 0, 1) := by decide +kernel
theorem d_law_732 : decode M_law.2.1 732 = .ok (.iload 4, 2) := by decide +kernel
theorem d_law_734 : decode M_law.2.1 734 = .ok (.iconst 1, 1) := by decide +kernel
theorem d_law_735 : decode M_law.2.1 735 = .ok (.iadd, 1) := by decide +kernel
theorem d_law_736 : decode M_law.2.1 736 = .ok (.iaload, 1) := by decide +kernel
theorem d_law_737 : decode M_law.2.1 737 = .ok (.aload_n 0, 1) := by decide +kernel
theorem d_law_738 : decode M_law.2.1 738 = .ok (.iload 4, 2) := by decide +kernel
theorem d_law_740 : decode M_law.2.1 740 = .ok (.iconst 2, 1) := by decide +kernel
theorem d_law_741 : decode M_law.2.1 741 = .ok (.iadd, 1) := by decide +kernel
theorem d_law_742 : decode M_law.2.1 742 = .ok (.iaload, 1) := by decide +kernel
theorem d_law_743 : decode M_law.2.1 743 = .ok (.ifCond .eq 7, 3) := by decide +kernel
theorem d_law_746 : decode M_law.2.1 746 = .ok (.iconst 1, 1) := by decide +kernel
theorem d_law_747 : decode M_law.2.1 747 = .ok (.goto 4, 3) := by decide +kernel
theorem d_law_750 : decode M_law.2.1 750 = .ok (.iconst 0, 1) := by decide +kernel
theorem d_law_751 : decode M_law.2.1 751 = .ok (.aload_n 3, 1) := by decide +kernel
theorem d_law_752 : decode M_law.2.1 752 = .ok (.invokestatic 122, 3) := by decide +kernel
theorem d_law_755 : decode M_law.2.1 755 = .ok (.istore 5, 2) := by decide +kernel
theorem d_law_757 : decode M_law.2.1 757 = .ok (.aload_n 2, 1) := by decide +kernel
theorem d_law_758 : decode M_law.2.1 758 = .ok (.aload_n 0, 1) := by decide +kernel
theorem d_law_759 : decode M_law.2.1 759 = .ok (.iload 4, 2) := by decide +kernel
theorem d_law_761 : decode M_law.2.1 761 = .ok (.iconst 1, 1) := by decide +kernel
theorem d_law_762 : decode M_law.2.1 762 = .ok (.iadd, 1) := by decide +kernel
theorem d_law_763 : decode M_law.2.1 763 = .ok (.iaload, 1) := by decide +kernel
theorem d_law_764 : decode M_law.2.1 764 = .ok (.aload_n 0, 1) := by decide +kernel
theorem d_law_765 : decode M_law.2.1 765 = .ok (.iload 4, 2) := by decide +kernel
theorem d_law_767 : decode M_law.2.1 767 = .ok (.iconst 2, 1) := by decide +kernel
theorem d_law_768 : decode M_law.2.1 768 = .ok (.iadd, 1) := by decide +kernel
theorem d_law_769 : decode M_law.2.1 769 = .ok (.iaload, 1) := by decide +kernel
theorem d_law_770 : decode M_law.2.1 770 = .ok (.ifCond .eq 7, 3) := by decide +kernel
theorem d_law_773 : decode M_law.2.1 773 = .ok (.iconst 1, 1) := by decide +kernel
theorem d_law_774 : decode M_law.2.1 774 = .ok (.goto 4, 3) := by decide +kernel
theorem d_law_777 : decode M_law.2.1 777 = .ok (.iconst 0, 1) := by decide +kernel
theorem d_law_778 : decode M_law.2.1 778 = .ok (.invokevirtual 125, 3) := by decide +kernel
theorem d_law_781 : decode M_law.2.1 781 = .ok (.istore 6, 2) := by decide +kernel
theorem d_law_783 : decode M_law.2.1 783 = .ok (.aload_n 2, 1) := by decide +kernel
theorem d_law_784 : decode M_law.2.1 784 = .ok (.invokevirtual 87, 3) := by decide +kernel
theorem d_law_787 : decode M_law.2.1 787 = .ok (.iload 5, 2) := by decide +kernel
theorem d_law_789 : decode M_law.2.1 789 = .ok (.if_icmp .eq 5, 3) := by decide +kernel
theorem d_law_792 : decode M_law.2.1 792 = .ok (.iconst 0, 1) := by decide +kernel
theorem d_law_793 : decode M_law.2.1 793 = .ok (.ireturn, 1) := by decide +kernel
theorem d_law_794 : decode M_law.2.1 794 = .ok (.iload 5, 2) := by decide +kernel
theorem d_law_796 : decode M_law.2.1 796 = .ok (.ifCond .ne 15, 3) := by decide +kernel
theorem d_law_799 : decode M_law.2.1 799 = .ok (.aload_n 3, 1) := by decide +kernel
theorem d_law_800 : decode M_law.2.1 800 = .ok (.iconst 0, 1) := by decide +kernel
theorem d_law_801 : decode M_law.2.1 801 = .ok (.laload, 1) := by decide +kernel
theorem d_law_802 : decode M_law.2.1 802 = .ok (.iload 6, 2) := by decide +kernel
theorem d_law_804 : decode M_law.2.1 804 = .ok (.i2l, 1) := by decide +kernel
theorem d_law_805 : decode M_law.2.1 805 = .ok (.lcmp, 1) := by decide +kernel
theorem d_law_806 : decode M_law.2.1 806 = .ok (.ifCond .eq 5, 3) := by decide +kernel
theorem d_law_809 : decode M_law.2.1 809 = .ok (.iconst 0, 1) := by decide +kernel
theorem d_law_810 : decode M_law.2.1 810 = .ok (.ireturn, 1) := by decide +kernel
theorem d_law_811 : decode M_law.2.1 811 = .ok (.goto 737, 3) := by decide +kernel
theorem d_law_814 : decode M_law.2.1 814 = .ok (.aload_n 1, 1) := by decide +kernel
theorem d_law_815 : decode M_law.2.1 815 = .ok (.aload_n 0, 1) := by decide +kernel
theorem d_law_816 : decode M_law.2.1 816 = .ok (.iload 4, 2) := by decide +kernel
theorem d_law_818 : decode M_law.2.1 818 = .ok (.iconst 1, 1) := by decide +kernel
theorem d_law_819 : decode M_law.2.1 819 = .ok (.iadd, 1) := by decide +kernel
theorem d_law_820 : decode M_law.2.1 820 = .ok (.iaload, 1) := by decide +kernel
theorem d_law_821 : decode M_law.2.1 821 = .ok (.aload_n 0, 1) := by decide +kernel
theorem d_law_822 : decode M_law.2.1 822 = .ok (.iload 4, 2) := by decide +kernel
theorem d_law_824 : decode M_law.2.1 824 = .ok (.iconst 2, 1) := by decide +kernel
theorem d_law_825 : decode M_law.2.1 825 = .ok (.iadd, 1) := by decide +kernel
theorem d_law_826 : decode M_law.2.1 826 = .ok (.iaload, 1) := by decide +kernel
theorem d_law_827 : decode M_law.2.1 827 = .ok (.aload_n 3, 1) := by decide +kernel
theorem d_law_828 : decode M_law.2.1 828 = .ok (.invokestatic 126, 3) := by decide +kernel
theorem d_law_831 : decode M_law.2.1 831 = .ok (.istore 5, 2) := by decide +kernel
theorem d_law_833 : decode M_law.2.1 833 = .ok (.aload_n 2, 1) := by decide +kernel
theorem d_law_834 : decode M_law.2.1 834 = .ok (.aload_n 0, 1) := by decide +kernel
theorem d_law_835 : decode M_law.2.1 835 = .ok (.iload 4, 2) := by decide +kernel
theorem d_law_837 : decode M_law.2.1 837 = .ok (.iconst 1, 1) := by decide +kernel
theorem d_law_838 : decode M_law.2.1 838 = .ok (.iadd, 1) := by decide +kernel
theorem d_law_839 : decode M_law.2.1 839 = .ok (.iaload, 1) := by decide +kernel
theorem d_law_840 : decode M_law.2.1 840 = .ok (.aload_n 0, 1) := by decide +kernel
theorem d_law_841 : decode M_law.2.1 841 = .ok (.iload 4, 2) := by decide +kernel
theorem d_law_843 : decode M_law.2.1 843 = .ok (.iconst 2, 1) := by decide +kernel
theorem d_law_844 : decode M_law.2.1 844 = .ok (.iadd, 1) := by decide +kernel
theorem d_law_845 : decode M_law.2.1 845 = .ok (.iaload, 1) := by decide +kernel
theorem d_law_846 : decode M_law.2.1 846 = .ok (.invokevirtual 128, 3) := by decide +kernel
theorem d_law_849 : decode M_law.2.1 849 = .ok (.istore 6, 2) := by decide +kernel
theorem d_law_851 : decode M_law.2.1 851 = .ok (.aload_n 2, 1) := by decide +kernel
theorem d_law_852 : decode M_law.2.1 852 = .ok (.invokevirtual 87, 3) := by decide +kernel
theorem d_law_855 : decode M_law.2.1 855 = .ok (.iload 5, 2) := by decide +kernel
theorem d_law_857 : decode M_law.2.1 857 = .ok (.if_icmp .eq 5, 3) := by decide +kernel
theorem d_law_860 : decode M_law.2.1 860 = .ok (.iconst 0, 1) := by decide +kernel
theorem d_law_861 : decode M_law.2.1 861 = .ok (.ireturn, 1) := by decide +kernel
theorem d_law_862 : decode M_law.2.1 862 = .ok (.iload 5, 2) := by decide +kernel
theorem d_law_864 : decode M_law.2.1 864 = .ok (.ifCond .ne 15, 3) := by decide +kernel
theorem d_law_867 : decode M_law.2.1 867 = .ok (.aload_n 3, 1) := by decide +kernel
theorem d_law_868 : decode M_law.2.1 868 = .ok (.iconst 0, 1) := by decide +kernel
theorem d_law_869 : decode M_law.2.1 869 = .ok (.laload, 1) := by decide +kernel
theorem d_law_870 : decode M_law.2.1 870 = .ok (.iload 6, 2) := by decide +kernel
theorem d_law_872 : decode M_law.2.1 872 = .ok (.i2l, 1) := by decide +kernel
theorem d_law_873 : decode M_law.2.1 873 = .ok (.lcmp, 1) := by decide +kernel
theorem d_law_874 : decode M_law.2.1 874 = .ok (.ifCond .eq 5, 3) := by decide +kernel
theorem d_law_877 : decode M_law.2.1 877 = .ok (.iconst 0, 1) := by decide +kernel
theorem d_law_878 : decode M_law.2.1 878 = .ok (.ireturn, 1) := by decide +kernel
theorem d_law_879 : decode M_law.2.1 879 = .ok (.goto 669, 3) := by decide +kernel
theorem d_law_882 : decode M_law.2.1 882 = .ok (.aload_n 1, 1) := by decide +kernel
theorem d_law_883 : decode M_law.2.1 883 = .ok (.aload_n 0, 1) := by decide +kernel
theorem d_law_884 : decode M_law.2.1 884 = .ok (.iload 4, 2) := by decide +kernel
theorem d_law_886 : decode M_law.2.1 886 = .ok (.iconst 1, 1) := by decide +kernel
theorem d_law_887 : decode M_law.2.1 887 = .ok (.iadd, 1) := by decide +kernel
theorem d_law_888 : decode M_law.2.1 888 = .ok (.iaload, 1) := by decide +kernel
theorem d_law_889 : decode M_law.2.1 889 = .ok (.aload_n 0, 1) := by decide +kernel
theorem d_law_890 : decode M_law.2.1 890 = .ok (.iload 4, 2) := by decide +kernel
theorem d_law_892 : decode M_law.2.1 892 = .ok (.iconst 2, 1) := by decide +kernel
theorem d_law_893 : decode M_law.2.1 893 = .ok (.iadd, 1) := by decide +kernel
theorem d_law_894 : decode M_law.2.1 894 = .ok (.iaload, 1) := by decide +kernel
theorem d_law_895 : decode M_law.2.1 895 = .ok (.aload_n 3, 1) := by decide +kernel
theorem d_law_896 : decode M_law.2.1 896 = .ok (.invokestatic 129, 3) := by decide +kernel
theorem d_law_899 : decode M_law.2.1 899 = .ok (.istore 5, 2) := by decide +kernel
theorem d_law_901 : decode M_law.2.1 901 = .ok (.aload_n 2, 1) := by decide +kernel
theorem d_law_902 : decode M_law.2.1 902 = .ok (.aload_n 0, 1) := by decide +kernel
theorem d_law_903 : decode M_law.2.1 903 = .ok (.iload 4, 2) := by decide +kernel
theorem d_law_905 : decode M_law.2.1 905 = .ok (.iconst 1, 1) := by decide +kernel
theorem d_law_906 : decode M_law.2.1 906 = .ok (.iadd, 1) := by decide +kernel
theorem d_law_907 : decode M_law.2.1 907 = .ok (.iaload, 1) := by decide +kernel
theorem d_law_908 : decode M_law.2.1 908 = .ok (.aload_n 0, 1) := by decide +kernel
theorem d_law_909 : decode M_law.2.1 909 = .ok (.iload 4, 2) := by decide +kernel
theorem d_law_911 : decode M_law.2.1 911 = .ok (.iconst 2, 1) := by decide +kernel
theorem d_law_912 : decode M_law.2.1 912 = .ok (.iadd, 1) := by decide +kernel
theorem d_law_913 : decode M_law.2.1 913 = .ok (.iaload, 1) := by decide +kernel
theorem d_law_914 : decode M_law.2.1 914 = .ok (.invokevirtual 131, 3) := by decide +kernel
theorem d_law_917 : decode M_law.2.1 917 = .ok (.istore 6, 2) := by decide +kernel
theorem d_law_919 : decode M_law.2.1 919 = .ok (.aload_n 2, 1) := by decide +kernel
theorem d_law_920 : decode M_law.2.1 920 = .ok (.invokevirtual 87, 3) := by decide +kernel
theorem d_law_923 : decode M_law.2.1 923 = .ok (.iload 5, 2) := by decide +kernel
theorem d_law_925 : decode M_law.2.1 925 = .ok (.if_icmp .eq 5, 3) := by decide +kernel
theorem d_law_928 : decode M_law.2.1 928 = .ok (.iconst 0, 1) := by decide +kernel
theorem d_law_929 : decode M_law.2.1 929 = .ok (.ireturn, 1) := by decide +kernel
theorem d_law_930 : decode M_law.2.1 930 = .ok (.iload 5, 2) := by decide +kernel
theorem d_law_932 : decode M_law.2.1 932 = .ok (.ifCond .ne 15, 3) := by decide +kernel
theorem d_law_935 : decode M_law.2.1 935 = .ok (.aload_n 3, 1) := by decide +kernel
theorem d_law_936 : decode M_law.2.1 936 = .ok (.iconst 0, 1) := by decide +kernel
theorem d_law_937 : decode M_law.2.1 937 = .ok (.laload, 1) := by decide +kernel
theorem d_law_938 : decode M_law.2.1 938 = .ok (.iload 6, 2) := by decide +kernel
theorem d_law_940 : decode M_law.2.1 940 = .ok (.i2l, 1) := by decide +kernel
theorem d_law_941 : decode M_law.2.1 941 = .ok (.lcmp, 1) := by decide +kernel
theorem d_law_942 : decode M_law.2.1 942 = .ok (.ifCond .eq 5, 3) := by decide +kernel
theorem d_law_945 : decode M_law.2.1 945 = .ok (.iconst 0, 1) := by decide +kernel
theorem d_law_946 : decode M_law.2.1 946 = .ok (.ireturn, 1) := by decide +kernel
theorem d_law_947 : decode M_law.2.1 947 = .ok (.goto 601, 3) := by decide +kernel
theorem d_law_950 : decode M_law.2.1 950 = .ok (.aload_n 1, 1) := by decide +kernel
theorem d_law_951 : decode M_law.2.1 951 = .ok (.aload_n 0, 1) := by decide +kernel
theorem d_law_952 : decode M_law.2.1 952 = .ok (.iload 4, 2) := by decide +kernel
theorem d_law_954 : decode M_law.2.1 954 = .ok (.iconst 1, 1) := by decide +kernel
theorem d_law_955 : decode M_law.2.1 955 = .ok (.iadd, 1) := by decide +kernel
theorem d_law_956 : decode M_law.2.1 956 = .ok (.iaload, 1) := by decide +kernel
theorem d_law_957 : decode M_law.2.1 957 = .ok (.aload_n 0, 1) := by decide +kernel
theorem d_law_958 : decode M_law.2.1 958 = .ok (.iload 4, 2) := by decide +kernel
theorem d_law_960 : decode M_law.2.1 960 = .ok (.iconst 2, 1) := by decide +kernel
theorem d_law_961 : decode M_law.2.1 961 = .ok (.iadd, 1) := by decide +kernel
theorem d_law_962 : decode M_law.2.1 962 = .ok (.iaload, 1) := by decide +kernel
theorem d_law_963 : decode M_law.2.1 963 = .ok (.aload_n 3, 1) := by decide +kernel
theorem d_law_964 : decode M_law.2.1 964 = .ok (.invokestatic 132, 3) := by decide +kernel
theorem d_law_967 : decode M_law.2.1 967 = .ok (.istore 5, 2) := by decide +kernel
theorem d_law_969 : decode M_law.2.1 969 = .ok (.aload_n 2, 1) := by decide +kernel
theorem d_law_970 : decode M_law.2.1 970 = .ok (.aload_n 0, 1) := by decide +kernel
theorem d_law_971 : decode M_law.2.1 971 = .ok (.iload 4, 2) := by decide +kernel
theorem d_law_973 : decode M_law.2.1 973 = .ok (.iconst 1, 1) := by decide +kernel
theorem d_law_974 : decode M_law.2.1 974 = .ok (.iadd, 1) := by decide +kernel
theorem d_law_975 : decode M_law.2.1 975 = .ok (.iaload, 1) := by decide +kernel
theorem d_law_976 : decode M_law.2.1 976 = .ok (.aload_n 0, 1) := by decide +kernel
theorem d_law_977 : decode M_law.2.1 977 = .ok (.iload 4, 2) := by decide +kernel
theorem d_law_979 : decode M_law.2.1 979 = .ok (.iconst 2, 1) := by decide +kernel
theorem d_law_980 : decode M_law.2.1 980 = .ok (.iadd, 1) := by decide +kernel
theorem d_law_981 : decode M_law.2.1 981 = .ok (.iaload, 1) := by decide +kernel
theorem d_law_982 : decode M_law.2.1 982 = .ok (.invokevirtual 134, 3) := by decide +kernel
theorem d_law_985 : decode M_law.2.1 985 = .ok (.istore 6, 2) := by decide +kernel
theorem d_law_987 : decode M_law.2.1 987 = .ok (.aload_n 2, 1) := by decide +kernel
theorem d_law_988 : decode M_law.2.1 988 = .ok (.invokevirtual 87, 3) := by decide +kernel
theorem d_law_991 : decode M_law.2.1 991 = .ok (.iload 5, 2) := by decide +kernel
theorem d_law_993 : decode M_law.2.1 993 = .ok (.if_icmp .eq 5, 3) := by decide +kernel
theorem d_law_996 : decode M_law.2.1 996 = .ok (.iconst 0, 1) := by decide +kernel
theorem d_law_997 : decode M_law.2.1 997 = .ok (.ireturn, 1) := by decide +kernel
theorem d_law_998 : decode M_law.2.1 998 = .ok (.iload 5, 2) := by decide +kernel
theorem d_law_1000 : decode M_law.2.1 1000 = .ok (.ifCond .ne 15, 3) := by decide +kernel
theorem d_law_1003 : decode M_law.2.1 1003 = .ok (.aload_n 3, 1) := by decide +kernel
theorem d_law_1004 : decode M_law.2.1 1004 = .ok (.iconst 0, 1) := by decide +kernel
theorem d_law_1005 : decode M_law.2.1 1005 = .ok (.laload, 1) := by decide +kernel
theorem d_law_1006 : decode M_law.2.1 1006 = .ok (.iload 6, 2) := by decide +kernel
theorem d_law_1008 : decode M_law.2.1 1008 = .ok (.i2l, 1) := by decide +kernel
theorem d_law_1009 : decode M_law.2.1 1009 = .ok (.lcmp, 1) := by decide +kernel
theorem d_law_1010 : decode M_law.2.1 1010 = .ok (.ifCond .eq 5, 3) := by decide +kernel
theorem d_law_1013 : decode M_law.2.1 1013 = .ok (.iconst 0, 1) := by decide +kernel
theorem d_law_1014 : decode M_law.2.1 1014 = .ok (.ireturn, 1) := by decide +kernel
theorem d_law_1015 : decode M_law.2.1 1015 = .ok (.goto 533, 3) := by decide +kernel
theorem d_law_1018 : decode M_law.2.1 1018 = .ok (.aload_n 1, 1) := by decide +kernel
theorem d_law_1019 : decode M_law.2.1 1019 = .ok (.aload_n 0, 1) := by decide +kernel
theorem d_law_1020 : decode M_law.2.1 1020 = .ok (.iload 4, 2) := by decide +kernel
theorem d_law_1022 : decode M_law.2.1 1022 = .ok (.iconst 1, 1) := by decide +kernel
theorem d_law_1023 : decode M_law.2.1 1023 = .ok (.iadd, 1) := by decide +kernel
theorem d_law_1024 : decode M_law.2.1 1024 = .ok (.iaload, 1) := by decide +kernel
theorem d_law_1025 : decode M_law.2.1 1025 = .ok (.aload_n 0, 1) := by decide +kernel
theorem d_law_1026 : decode M_law.2.1 1026 = .ok (.iload 4, 2) := by decide +kernel
theorem d_law_1028 : decode M_law.2.1 1028 = .ok (.iconst 2, 1) := by decide +kernel
theorem d_law_1029 : decode M_law.2.1 1029 = .ok (.iadd, 1) := by decide +kernel
theorem d_law_1030 : decode M_law.2.1 1030 = .ok (.iaload, 1) := by decide +kernel
theorem d_law_1031 : decode M_law.2.1 1031 = .ok (.aload_n 3, 1) := by decide +kernel
theorem d_law_1032 : decode M_law.2.1 1032 = .ok (.invokestatic 135, 3) := by decide +kernel
theorem d_law_1035 : decode M_law.2.1 1035 = .ok (.istore 5, 2) := by decide +kernel
theorem d_law_1037 : decode M_law.2.1 1037 = .ok (.aload_n 2, 1) := by decide +kernel
theorem d_law_1038 : decode M_law.2.1 1038 = .ok (.aload_n 0, 1) := by decide +kernel
theorem d_law_1039 : decode M_law.2.1 1039 = .ok (.iload 4, 2) := by decide +kernel
theorem d_law_1041 : decode M_law.2.1 1041 = .ok (.iconst 1, 1) := by decide +kernel
theorem d_law_1042 : decode M_law.2.1 1042 = .ok (.iadd, 1) := by decide +kernel
theorem d_law_1043 : decode M_law.2.1 1043 = .ok (.iaload, 1) := by decide +kernel
theorem d_law_1044 : decode M_law.2.1 1044 = .ok (.aload_n 0, 1) := by decide +kernel
theorem d_law_1045 : decode M_law.2.1 1045 = .ok (.iload 4, 2) := by decide +kernel
theorem d_law_1047 : decode M_law.2.1 1047 = .ok (.iconst 2, 1) := by decide +kernel
theorem d_law_1048 : decode M_law.2.1 1048 = .ok (.iadd, 1) := by decide +kernel
theorem d_law_1049 : decode M_law.2.1 1049 = .ok (.iaload, 1) := by decide +kernel
theorem d_law_1050 : decode M_law.2.1 1050 = .ok (.invokevirtual 137, 3) := by decide +kernel
theorem d_law_1053 : decode M_law.2.1 1053 = .ok (.istore 6, 2) := by decide +kernel
theorem d_law_1055 : decode M_law.2.1 1055 = .ok (.aload_n 2, 1) := by decide +kernel
theorem d_law_1056 : decode M_law.2.1 1056 = .ok (.invokevirtual 87, 3) := by decide +kernel
theorem d_law_1059 : decode M_law.2.1 1059 = .ok (.iload 5, 2) := by decide +kernel
theorem d_law_1061 : decode M_law.2.1 1061 = .ok (.if_icmp .eq 5, 3) := by decide +kernel
theorem d_law_1064 : decode M_law.2.1 1064 = .ok (.iconst 0, 1) := by decide +kernel
theorem d_law_1065 : decode M_law.2.1 1065 = .ok (.ireturn, 1) := by decide +kernel
theorem d_law_1066 : decode M_law.2.1 1066 = .ok (.iload 5, 2) := by decide +kernel
theorem d_law_1068 : decode M_law.2.1 1068 = .ok (.ifCond .ne 15, 3) := by decide +kernel
theorem d_law_1071 : decode M_law.2.1 1071 = .ok (.aload_n 3, 1) := by decide +kernel
theorem d_law_1072 : decode M_law.2.1 1072 = .ok (.iconst 0, 1) := by decide +kernel
theorem d_law_1073 : decode M_law.2.1 1073 = .ok (.laload, 1) := by decide +kernel
theorem d_law_1074 : decode M_law.2.1 1074 = .ok (.iload 6, 2) := by decide +kernel
theorem d_law_1076 : decode M_law.2.1 1076 = .ok (.i2l, 1) := by decide +kernel
theorem d_law_1077 : decode M_law.2.1 1077 = .ok (.lcmp, 1) := by decide +kernel
theorem d_law_1078 : decode M_law.2.1 1078 = .ok (.ifCond .eq 5, 3) := by decide +kernel
theorem d_law_1081 : decode M_law.2.1 1081 = .ok (.iconst 0, 1) := by decide +kernel
theorem d_law_1082 : decode M_law.2.1 1082 = .ok (.ireturn, 1) := by decide +kernel
theorem d_law_1083 : decode M_law.2.1 1083 = .ok (.goto 465, 3) := by decide +kernel
theorem d_law_1086 : decode M_law.2.1 1086 = .ok (.aload_n 1, 1) := by decide +kernel
theorem d_law_1087 : decode M_law.2.1 1087 = .ok (.aload_n 0, 1) := by decide +kernel
theorem d_law_1088 : decode M_law.2.1 1088 = .ok (.iload 4, 2) := by decide +kernel
theorem d_law_1090 : decode M_law.2.1 1090 = .ok (.iconst 1, 1) := by decide +kernel
theorem d_law_1091 : decode M_law.2.1 1091 = .ok (.iadd, 1) := by decide +kernel
theorem d_law_1092 : decode M_law.2.1 1092 = .ok (.iaload, 1) := by decide +kernel
theorem d_law_1093 : decode M_law.2.1 1093 = .ok (.aload_n 3, 1) := by decide +kernel
theorem d_law_1094 : decode M_law.2.1 1094 = .ok (.invokestatic 138, 3) := by decide +kernel
theorem d_law_1097 : decode M_law.2.1 1097 = .ok (.istore 5, 2) := by decide +kernel
theorem d_law_1099 : decode M_law.2.1 1099 = .ok (.aload_n 2, 1) := by decide +kernel
theorem d_law_1100 : decode M_law.2.1 1100 = .ok (.aload_n 0, 1) := by decide +kernel
theorem d_law_1101 : decode M_law.2.1 1101 = .ok (.iload 4, 2) := by decide +kernel
theorem d_law_1103 : decode M_law.2.1 1103 = .ok (.iconst 1, 1) := by decide +kernel
theorem d_law_1104 : decode M_law.2.1 1104 = .ok (.iadd, 1) := by decide +kernel
theorem d_law_1105 : decode M_law.2.1 1105 = .ok (.iaload, 1) := by decide +kernel
theorem d_law_1106 : decode M_law.2.1 1106 = .ok (.invokevirtual 140, 3) := by decide +kernel
theorem d_law_1109 : decode M_law.2.1 1109 = .ok (.istore 6, 2) := by decide +kernel
theorem d_law_1111 : decode M_law.2.1 1111 = .ok (.aload_n 2, 1) := by decide +kernel
theorem d_law_1112 : decode M_law.2.1 1112 = .ok (.invokevirtual 87, 3) := by decide +kernel
theorem d_law_1115 : decode M_law.2.1 1115 = .ok (.iload 5, 2) := by decide +kernel
theorem d_law_1117 : decode M_law.2.1 1117 = .ok (.if_icmp .eq 5, 3) := by decide +kernel
theorem d_law_1120 : decode M_law.2.1 1120 = .ok (.iconst 0, 1) := by decide +kernel
theorem d_law_1121 : decode M_law.2.1 1121 = .ok (.ireturn, 1) := by decide +kernel
theorem d_law_1122 : decode M_law.2.1 1122 = .ok (.iload 5, 2) := by decide +kernel
theorem d_law_1124 : decode M_law.2.1 1124 = .ok (.ifCond .ne 15, 3) := by decide +kernel
theorem d_law_1127 : decode M_law.2.1 1127 = .ok (.aload_n 3, 1) := by decide +kernel
theorem d_law_1128 : decode M_law.2.1 1128 = .ok (.iconst 0, 1) := by decide +kernel
theorem d_law_1129 : decode M_law.2.1 1129 = .ok (.laload, 1) := by decide +kernel
theorem d_law_1130 : decode M_law.2.1 1130 = .ok (.iload 6, 2) := by decide +kernel
theorem d_law_1132 : decode M_law.2.1 1132 = .ok (.i2l, 1) := by decide +kernel
theorem d_law_1133 : decode M_law.2.1 1133 = .ok (.lcmp, 1) := by decide +kernel
theorem d_law_1134 : decode M_law.2.1 1134 = .ok (.ifCond .eq 5, 3) := by decide +kernel
theorem d_law_1137 : decode M_law.2.1 1137 = .ok (.iconst 0, 1) := by decide +kernel
theorem d_law_1138 : decode M_law.2.1 1138 = .ok (.ireturn, 1) := by decide +kernel
theorem d_law_1139 : decode M_law.2.1 1139 = .ok (.goto 409, 3) := by decide +kernel
theorem d_law_1142 : decode M_law.2.1 1142 = .ok (.aload_n 1, 1) := by decide +kernel
theorem d_law_1143 : decode M_law.2.1 1143 = .ok (.aload_n 0, 1) := by decide +kernel
theorem d_law_1144 : decode M_law.2.1 1144 = .ok (.iload 4, 2) := by decide +kernel
theorem d_law_1146 : decode M_law.2.1 1146 = .ok (.iconst 1, 1) := by decide +kernel
theorem d_law_1147 : decode M_law.2.1 1147 = .ok (.iadd, 1) := by decide +kernel
theorem d_law_1148 : decode M_law.2.1 1148 = .ok (.iaload, 1) := by decide +kernel
theorem d_law_1149 : decode M_law.2.1 1149 = .ok (.aload_n 0, 1) := by decide +kernel
theorem d_law_1150 : decode M_law.2.1 1150 = .ok (.iload 4, 2) := by decide +kernel
theorem d_law_1152 : decode M_law.2.1 1152 = .ok (.iconst 2, 1) := by decide +kernel
theorem d_law_1153 : decode M_law.2.1 1153 = .ok (.iadd, 1) := by decide +kernel
theorem d_law_1154 : decode M_law.2.1 1154 = .ok (.iaload, 1) := by decide +kernel
theorem d_law_1155 : decode M_law.2.1 1155 = .ok (.aload_n 3, 1) := by decide +kernel
theorem d_law_1156 : decode M_law.2.1 1156 = .ok (.invokestatic 141, 3) := by decide +kernel
theorem d_law_1159 : decode M_law.2.1 1159 = .ok (.istore 5, 2) := by decide +kernel
theorem d_law_1161 : decode M_law.2.1 1161 = .ok (.aload_n 2, 1) := by decide +kernel
theorem d_law_1162 : decode M_law.2.1 1162 = .ok (.aload_n 0, 1) := by decide +kernel
theorem d_law_1163 : decode M_law.2.1 1163 = .ok (.iload 4, 2) := by decide +kernel
theorem d_law_1165 : decode M_law.2.1 1165 = .ok (.iconst 1, 1) := by decide +kernel
theorem d_law_1166 : decode M_law.2.1 1166 = .ok (.iadd, 1) := by decide +kernel
theorem d_law_1167 : decode M_law.2.1 1167 = .ok (.iaload, 1) := by decide +kernel
theorem d_law_1168 : decode M_law.2.1 1168 = .ok (.aload_n 0, 1) := by decide +kernel
theorem d_law_1169 : decode M_law.2.1 1169 = .ok (.iload 4, 2) := by decide +kernel
theorem d_law_1171 : decode M_law.2.1 1171 = .ok (.iconst 2, 1) := by decide +kernel
theorem d_law_1172 : decode M_law.2.1 1172 = .ok (.iadd, 1) := by decide +kernel
theorem d_law_1173 : decode M_law.2.1 1173 = .ok (.iaload, 1) := by decide +kernel
theorem d_law_1174 : decode M_law.2.1 1174 = .ok (.invokevirtual 143, 3) := by decide +kernel
theorem d_law_1177 : decode M_law.2.1 1177 = .ok (.istore 6, 2) := by decide +kernel
theorem d_law_1179 : decode M_law.2.1 1179 = .ok (.aload_n 2, 1) := by decide +kernel
theorem d_law_1180 : decode M_law.2.1 1180 = .ok (.invokevirtual 87, 3) := by decide +kernel
theorem d_law_1183 : decode M_law.2.1 1183 = .ok (.iload 5, 2) := by decide +kernel
theorem d_law_1185 : decode M_law.2.1 1185 = .ok (.if_icmp .eq 5, 3) := by decide +kernel
theorem d_law_1188 : decode M_law.2.1 1188 = .ok (.iconst 0, 1) := by decide +kernel
theorem d_law_1189 : decode M_law.2.1 1189 = .ok (.ireturn, 1) := by decide +kernel
theorem d_law_1190 : decode M_law.2.1 1190 = .ok (.iload 5, 2) := by decide +kernel
theorem d_law_1192 : decode M_law.2.1 1192 = .ok (.ifCond .ne 15, 3) := by decide +kernel
theorem d_law_1195 : decode M_law.2.1 1195 = .ok (.aload_n 3, 1) := by decide +kernel
theorem d_law_1196 : decode M_law.2.1 1196 = .ok (.iconst 0, 1) := by decide +kernel
theorem d_law_1197 : decode M_law.2.1 1197 = .ok (.laload, 1) := by decide +kernel
theorem d_law_1198 : decode M_law.2.1 1198 = .ok (.iload 6, 2) := by decide +kernel
theorem d_law_1200 : decode M_law.2.1 1200 = .ok (.i2l, 1) := by decide +kernel
theorem d_law_1201 : decode M_law.2.1 1201 = .ok (.lcmp, 1) := by decide +kernel
theorem d_law_1202 : decode M_law.2.1 1202 = .ok (.ifCond .eq 5, 3) := by decide +kernel
theorem d_law_1205 : decode M_law.2.1 1205 = .ok (.iconst 0, 1) := by decide +kernel
theorem d_law_1206 : decode M_law.2.1 1206 = .ok (.ireturn, 1) := by decide +kernel
theorem d_law_1207 : decode M_law.2.1 1207 = .ok (.goto 341, 3) := by decide +kernel
theorem d_law_1210 : decode M_law.2.1 1210 = .ok (.aload_n 1, 1) := by decide +kernel
theorem d_law_1211 : decode M_law.2.1 1211 = .ok (.aload_n 0, 1) := by decide +kernel
theorem d_law_1212 : decode M_law.2.1 1212 = .ok (.iload 4, 2) := by decide +kernel
theorem d_law_1214 : decode M_law.2.1 1214 = .ok (.iconst 1, 1) := by decide +kernel
theorem d_law_1215 : decode M_law.2.1 1215 = .ok (.iadd, 1) := by decide +kernel
theorem d_law_1216 : decode M_law.2.1 1216 = .ok (.iaload, 1) := by decide +kernel
theorem d_law_1217 : decode M_law.2.1 1217 = .ok (.aload_n 3, 1) := by decide +kernel
theorem d_law_1218 : decode M_law.2.1 1218 = .ok (.invokestatic 144, 3) := by decide +kernel
theorem d_law_1221 : decode M_law.2.1 1221 = .ok (.istore 5, 2) := by decide +kernel
theorem d_law_1223 : decode M_law.2.1 1223 = .ok (.aload_n 2, 1) := by decide +kernel
theorem d_law_1224 : decode M_law.2.1 1224 = .ok (.aload_n 0, 1) := by decide +kernel
theorem d_law_1225 : decode M_law.2.1 1225 = .ok (.iload 4, 2) := by decide +kernel
theorem d_law_1227 : decode M_law.2.1 1227 = .ok (.iconst 1, 1) := by decide +kernel
theorem d_law_1228 : decode M_law.2.1 1228 = .ok (.iadd, 1) := by decide +kernel
theorem d_law_1229 : decode M_law.2.1 1229 = .ok (.iaload, 1) := by decide +kernel
theorem d_law_1230 : decode M_law.2.1 1230 = .ok (.invokevirtual 146, 3) := by decide +kernel
theorem d_law_1233 : decode M_law.2.1 1233 = .ok (.istore 6, 2) := by decide +kernel
theorem d_law_1235 : decode M_law.2.1 1235 = .ok (.aload_n 2, 1) := by decide +kernel
theorem d_law_1236 : decode M_law.2.1 1236 = .ok (.invokevirtual 87, 3) := by decide +kernel
theorem d_law_1239 : decode M_law.2.1 1239 = .ok (.iload 5, 2) := by decide +kernel
theorem d_law_1241 : decode M_law.2.1 1241 = .ok (.if_icmp .eq 5, 3) := by decide +kernel
theorem d_law_1244 : decode M_law.2.1 1244 = .ok (.iconst 0, 1) := by decide +kernel
theorem d_law_1245 : decode M_law.2.1 1245 = .ok (.ireturn, 1) := by decide +kernel
theorem d_law_1246 : decode M_law.2.1 1246 = .ok (.iload 5, 2) := by decide +kernel
theorem d_law_1248 : decode M_law.2.1 1248 = .ok (.ifCond .ne 15, 3) := by decide +kernel
theorem d_law_1251 : decode M_law.2.1 1251 = .ok (.aload_n 3, 1) := by decide +kernel
theorem d_law_1252 : decode M_law.2.1 1252 = .ok (.iconst 0, 1) := by decide +kernel
theorem d_law_1253 : decode M_law.2.1 1253 = .ok (.laload, 1) := by decide +kernel
theorem d_law_1254 : decode M_law.2.1 1254 = .ok (.iload 6, 2) := by decide +kernel
theorem d_law_1256 : decode M_law.2.1 1256 = .ok (.i2l, 1) := by decide +kernel
theorem d_law_1257 : decode M_law.2.1 1257 = .ok (.lcmp, 1) := by decide +kernel
theorem d_law_1258 : decode M_law.2.1 1258 = .ok (.ifCond .eq 5, 3) := by decide +kernel
theorem d_law_1261 : decode M_law.2.1 1261 = .ok (.iconst 0, 1) := by decide +kernel
theorem d_law_1262 : decode M_law.2.1 1262 = .ok (.ireturn, 1) := by decide +kernel
theorem d_law_1263 : decode M_law.2.1 1263 = .ok (.goto 285, 3) := by decide +kernel
theorem d_law_1266 : decode M_law.2.1 1266 = .ok (.aload_n 1, 1) := by decide +kernel
theorem d_law_1267 : decode M_law.2.1 1267 = .ok (.aload_n 0, 1) := by decide +kernel
theorem d_law_1268 : decode M_law.2.1 1268 = .ok (.iload 4, 2) := by decide +kernel
theorem d_law_1270 : decode M_law.2.1 1270 = .ok (.iconst 1, 1) := by decide +kernel
theorem d_law_1271 : decode M_law.2.1 1271 = .ok (.iadd, 1) := by decide +kernel
theorem d_law_1272 : decode M_law.2.1 1272 = .ok (.iaload, 1) := by decide +kernel
theorem d_law_1273 : decode M_law.2.1 1273 = .ok (.aload_n 0, 1) := by decide +kernel
theorem d_law_1274 : decode M_law.2.1 1274 = .ok (.iload 4, 2) := by decide +kernel
theorem d_law_1276 : decode M_law.2.1 1276 = .ok (.iconst 2, 1) := by decide +kernel
theorem d_law_1277 : decode M_law.2.1 1277 = .ok (.iadd, 1) := by decide +kernel
theorem d_law_1278 : decode M_law.2.1 1278 = .ok (.iaload, 1) := by decide +kernel
theorem d_law_1279 : decode M_law.2.1 1279 = .ok (.aload_n 3, 1) := by decide +kernel
theorem d_law_1280 : decode M_law.2.1 1280 = .ok (.invokestatic 147, 3) := by decide +kernel
theorem d_law_1283 : decode M_law.2.1 1283 = .ok (.istore 5, 2) := by decide +kernel
theorem d_law_1285 : decode M_law.2.1 1285 = .ok (.aload_n 2, 1) := by decide +kernel
theorem d_law_1286 : decode M_law.2.1 1286 = .ok (.aload_n 0, 1) := by decide +kernel
theorem d_law_1287 : decode M_law.2.1 1287 = .ok (.iload 4, 2) := by decide +kernel
theorem d_law_1289 : decode M_law.2.1 1289 = .ok (.iconst 1, 1) := by decide +kernel
theorem d_law_1290 : decode M_law.2.1 1290 = .ok (.iadd, 1) := by decide +kernel
theorem d_law_1291 : decode M_law.2.1 1291 = .ok (.iaload, 1) := by decide +kernel
theorem d_law_1292 : decode M_law.2.1 1292 = .ok (.aload_n 0, 1) := by decide +kernel
theorem d_law_1293 : decode M_law.2.1 1293 = .ok (.iload 4, 2) := by decide +kernel
theorem d_law_1295 : decode M_law.2.1 1295 = .ok (.iconst 2, 1) := by decide +kernel
theorem d_law_1296 : decode M_law.2.1 1296 = .ok (.iadd, 1) := by decide +kernel
theorem d_law_1297 : decode M_law.2.1 1297 = .ok (.iaload, 1) := by decide +kernel
theorem d_law_1298 : decode M_law.2.1 1298 = .ok (.invokevirtual 149, 3) := by decide +kernel
theorem d_law_1301 : decode M_law.2.1 1301 = .ok (.istore 6, 2) := by decide +kernel
theorem d_law_1303 : decode M_law.2.1 1303 = .ok (.aload_n 2, 1) := by decide +kernel
theorem d_law_1304 : decode M_law.2.1 1304 = .ok (.invokevirtual 87, 3) := by decide +kernel
theorem d_law_1307 : decode M_law.2.1 1307 = .ok (.iload 5, 2) := by decide +kernel
theorem d_law_1309 : decode M_law.2.1 1309 = .ok (.if_icmp .eq 5, 3) := by decide +kernel
theorem d_law_1312 : decode M_law.2.1 1312 = .ok (.iconst 0, 1) := by decide +kernel
theorem d_law_1313 : decode M_law.2.1 1313 = .ok (.ireturn, 1) := by decide +kernel
theorem d_law_1314 : decode M_law.2.1 1314 = .ok (.iload 5, 2) := by decide +kernel
theorem d_law_1316 : decode M_law.2.1 1316 = .ok (.ifCond .ne 15, 3) := by decide +kernel
theorem d_law_1319 : decode M_law.2.1 1319 = .ok (.aload_n 3, 1) := by decide +kernel
theorem d_law_1320 : decode M_law.2.1 1320 = .ok (.iconst 0, 1) := by decide +kernel
theorem d_law_1321 : decode M_law.2.1 1321 = .ok (.laload, 1) := by decide +kernel
theorem d_law_1322 : decode M_law.2.1 1322 = .ok (.iload 6, 2) := by decide +kernel
theorem d_law_1324 : decode M_law.2.1 1324 = .ok (.i2l, 1) := by decide +kernel
theorem d_law_1325 : decode M_law.2.1 1325 = .ok (.lcmp, 1) := by decide +kernel
theorem d_law_1326 : decode M_law.2.1 1326 = .ok (.ifCond .eq 5, 3) := by decide +kernel
theorem d_law_1329 : decode M_law.2.1 1329 = .ok (.iconst 0, 1) := by decide +kernel
theorem d_law_1330 : decode M_law.2.1 1330 = .ok (.ireturn, 1) := by decide +kernel
theorem d_law_1331 : decode M_law.2.1 1331 = .ok (.goto 217, 3) := by decide +kernel
theorem d_law_1334 : decode M_law.2.1 1334 = .ok (.aload_n 1, 1) := by decide +kernel
theorem d_law_1335 : decode M_law.2.1 1335 = .ok (.aload_n 0, 1) := by decide +kernel
theorem d_law_1336 : decode M_law.2.1 1336 = .ok (.iload 4, 2) := by decide +kernel
theorem d_law_1338 : decode M_law.2.1 1338 = .ok (.iconst 1, 1) := by decide +kernel
theorem d_law_1339 : decode M_law.2.1 1339 = .ok (.iadd, 1) := by decide +kernel
theorem d_law_1340 : decode M_law.2.1 1340 = .ok (.iaload, 1) := by decide +kernel
theorem d_law_1341 : decode M_law.2.1 1341 = .ok (.aload_n 0, 1) := by decide +kernel
theorem d_law_1342 : decode M_law.2.1 1342 = .ok (.iload 4, 2) := by decide +kernel
theorem d_law_1344 : decode M_law.2.1 1344 = .ok (.iconst 2, 1) := by decide +kernel
theorem d_law_1345 : decode M_law.2.1 1345 = .ok (.iadd, 1) := by decide +kernel
theorem d_law_1346 : decode M_law.2.1 1346 = .ok (.iaload, 1) := by decide +kernel
theorem d_law_1347 : decode M_law.2.1 1347 = .ok (.ifCond .eq 7, 3) := by decide +kernel
theorem d_law_1350 : decode M_law.2.1 1350 = .ok (.iconst 1, 1) := by decide +kernel
theorem d_law_1351 : decode M_law.2.1 1351 = .ok (.goto 4, 3) := by decide +kernel
theorem d_law_1354 : decode M_law.2.1 1354 = .ok (.iconst 0, 1) := by decide +kernel
theorem d_law_1355 : decode M_law.2.1 1355 = .ok (.aload_n 3, 1) := by decide +kernel
theorem d_law_1356 : decode M_law.2.1 1356 = .ok (.invokestatic 150, 3) := by decide +kernel
theorem d_law_1359 : decode M_law.2.1 1359 = .ok (.istore 5, 2) := by decide +kernel
theorem d_law_1361 : decode M_law.2.1 1361 = .ok (.aload_n 2, 1) := by decide +kernel
theorem d_law_1362 : decode M_law.2.1 1362 = .ok (.aload_n 0, 1) := by decide +kernel
theorem d_law_1363 : decode M_law.2.1 1363 = .ok (.iload 4, 2) := by decide +kernel
theorem d_law_1365 : decode M_law.2.1 1365 = .ok (.iconst 1, 1) := by decide +kernel
theorem d_law_1366 : decode M_law.2.1 1366 = .ok (.iadd, 1) := by decide +kernel
theorem d_law_1367 : decode M_law.2.1 1367 = .ok (.iaload, 1) := by decide +kernel
theorem d_law_1368 : decode M_law.2.1 1368 = .ok (.aload_n 0, 1) := by decide +kernel
theorem d_law_1369 : decode M_law.2.1 1369 = .ok (.iload 4, 2) := by decide +kernel
theorem d_law_1371 : decode M_law.2.1 1371 = .ok (.iconst 2, 1) := by decide +kernel
theorem d_law_1372 : decode M_law.2.1 1372 = .ok (.iadd, 1) := by decide +kernel
theorem d_law_1373 : decode M_law.2.1 1373 = .ok (.iaload, 1) := by decide +kernel
theorem d_law_1374 : decode M_law.2.1 1374 = .ok (.ifCond .eq 7, 3) := by decide +kernel
theorem d_law_1377 : decode M_law.2.1 1377 = .ok (.iconst 1, 1) := by decide +kernel
theorem d_law_1378 : decode M_law.2.1 1378 = .ok (.goto 4, 3) := by decide +kernel
theorem d_law_1381 : decode M_law.2.1 1381 = .ok (.iconst 0, 1) := by decide +kernel
theorem d_law_1382 : decode M_law.2.1 1382 = .ok (.invokevirtual 152, 3) := by decide +kernel
theorem d_law_1385 : decode M_law.2.1 1385 = .ok (.istore 6, 2) := by decide +kernel
theorem d_law_1387 : decode M_law.2.1 1387 = .ok (.aload_n 2, 1) := by decide +kernel
theorem d_law_1388 : decode M_law.2.1 1388 = .ok (.invokevirtual 87, 3) := by decide +kernel
theorem d_law_1391 : decode M_law.2.1 1391 = .ok (.iload 5, 2) := by decide +kernel
theorem d_law_1393 : decode M_law.2.1 1393 = .ok (.if_icmp .eq 5, 3) := by decide +kernel
theorem d_law_1396 : decode M_law.2.1 1396 = .ok (.iconst 0, 1) := by decide +kernel
theorem d_law_1397 : decode M_law.2.1 1397 = .ok (.ireturn, 1) := by decide +kernel
theorem d_law_1398 : decode M_law.2.1 1398 = .ok (.iload 5, 2) := by decide +kernel
theorem d_law_1400 : decode M_law.2.1 1400 = .ok (.ifCond .ne 22, 3) := by decide +kernel
theorem d_law_1403 : decode M_law.2.1 1403 = .ok (.aload_n 3, 1) := by decide +kernel
theorem d_law_1404 : decode M_law.2.1 1404 = .ok (.iconst 0, 1) := by decide +kernel
theorem d_law_1405 : decode M_law.2.1 1405 = .ok (.laload, 1) := by decide +kernel
theorem d_law_1406 : decode M_law.2.1 1406 = .ok (.iload 6, 2) := by decide +kernel
theorem d_law_1408 : decode M_law.2.1 1408 = .ok (.ifCond .eq 7, 3) := by decide +kernel
theorem d_law_1411 : decode M_law.2.1 1411 = .ok (.lconst 1, 1) := by decide +kernel
theorem d_law_1412 : decode M_law.2.1 1412 = .ok (.goto 4, 3) := by decide +kernel
theorem d_law_1415 : decode M_law.2.1 1415 = .ok (.lconst 0, 1) := by decide +kernel
theorem d_law_1416 : decode M_law.2.1 1416 = .ok (.lcmp, 1) := by decide +kernel
theorem d_law_1417 : decode M_law.2.1 1417 = .ok (.ifCond .eq 5, 3) := by decide +kernel
theorem d_law_1420 : decode M_law.2.1 1420 = .ok (.iconst 0, 1) := by decide +kernel
theorem d_law_1421 : decode M_law.2.1 1421 = .ok (.ireturn, 1) := by decide +kernel
theorem d_law_1422 : decode M_law.2.1 1422 = .ok (.goto 126, 3) := by decide +kernel
theorem d_law_1425 : decode M_law.2.1 1425 = .ok (.aload_n 1, 1) := by decide +kernel
theorem d_law_1426 : decode M_law.2.1 1426 = .ok (.aload_n 0, 1) := by decide +kernel
theorem d_law_1427 : decode M_law.2.1 1427 = .ok (.iload 4, 2) := by decide +kernel
theorem d_law_1429 : decode M_law.2.1 1429 = .ok (.iconst 1, 1) := by decide +kernel
theorem d_law_1430 : decode M_law.2.1 1430 = .ok (.iadd, 1) := by decide +kernel
theorem d_law_1431 : decode M_law.2.1 1431 = .ok (.iaload, 1) := by decide +kernel
theorem d_law_1432 : decode M_law.2.1 1432 = .ok (.aload_n 0, 1) := by decide +kernel
theorem d_law_1433 : decode M_law.2.1 1433 = .ok (.iload 4, 2) := by decide +kernel
theorem d_law_1435 : decode M_law.2.1 1435 = .ok (.iconst 2, 1) := by decide +kernel
theorem d_law_1436 : decode M_law.2.1 1436 = .ok (.iadd, 1) := by decide +kernel
theorem d_law_1437 : decode M_law.2.1 1437 = .ok (.iaload, 1) := by decide +kernel
theorem d_law_1438 : decode M_law.2.1 1438 = .ok (.aload_n 3, 1) := by decide +kernel
theorem d_law_1439 : decode M_law.2.1 1439 = .ok (.invokestatic 153, 3) := by decide +kernel
theorem d_law_1442 : decode M_law.2.1 1442 = .ok (.istore 5, 2) := by decide +kernel
theorem d_law_1444 : decode M_law.2.1 1444 = .ok (.aload_n 2, 1) := by decide +kernel
theorem d_law_1445 : decode M_law.2.1 1445 = .ok (.aload_n 0, 1) := by decide +kernel
theorem d_law_1446 : decode M_law.2.1 1446 = .ok (.iload 4, 2) := by decide +kernel
theorem d_law_1448 : decode M_law.2.1 1448 = .ok (.iconst 1, 1) := by decide +kernel
theorem d_law_1449 : decode M_law.2.1 1449 = .ok (.iadd, 1) := by decide +kernel
theorem d_law_1450 : decode M_law.2.1 1450 = .ok (.iaload, 1) := by decide +kernel
theorem d_law_1451 : decode M_law.2.1 1451 = .ok (.aload_n 0, 1) := by decide +kernel
theorem d_law_1452 : decode M_law.2.1 1452 = .ok (.iload 4, 2) := by decide +kernel
theorem d_law_1454 : decode M_law.2.1 1454 = .ok (.iconst 2, 1) := by decide +kernel
theorem d_law_1455 : decode M_law.2.1 1455 = .ok (.iadd, 1) := by decide +kernel
theorem d_law_1456 : decode M_law.2.1 1456 = .ok (.iaload, 1) := by decide +kernel
theorem d_law_1457 : decode M_law.2.1 1457 = .ok (.invokevirtual 155, 3) := by decide +kernel
theorem d_law_1460 : decode M_law.2.1 1460 = .ok (.istore 6, 2) := by decide +kernel
theorem d_law_1462 : decode M_law.2.1 1462 = .ok (.aload_n 2, 1) := by decide +kernel
theorem d_law_1463 : decode M_law.2.1 1463 = .ok (.invokevirtual 87, 3) := by decide +kernel
theorem d_law_1466 : decode M_law.2.1 1466 = .ok (.iload 5, 2) := by decide +kernel
theorem d_law_1468 : decode M_law.2.1 1468 = .ok (.if_icmp .eq 5, 3) := by decide +kernel
theorem d_law_1471 : decode M_law.2.1 1471 = .ok (.iconst 0, 1) := by decide +kernel
theorem d_law_1472 : decode M_law.2.1 1472 = .ok (.ireturn, 1) := by decide +kernel
theorem d_law_1473 : decode M_law.2.1 1473 = .ok (.iload 5, 2) := by decide +kernel
theorem d_law_1475 : decode M_law.2.1 1475 = .ok (.ifCond .ne 15, 3) := by decide +kernel
theorem d_law_1478 : decode M_law.2.1 1478 = .ok (.aload_n 3, 1) := by decide +kernel
theorem d_law_1479 : decode M_law.2.1 1479 = .ok (.iconst 0, 1) := by decide +kernel
theorem d_law_1480 : decode M_law.2.1 1480 = .ok (.laload, 1) := by decide +kernel
theorem d_law_1481 : decode M_law.2.1 1481 = .ok (.iload 6, 2) := by decide +kernel
theorem d_law_1483 : decode M_law.2.1 1483 = .ok (.i2l, 1) := by decide +kernel
theorem d_law_1484 : decode M_law.2.1 1484 = .ok (.lcmp, 1) := by decide +kernel
theorem d_law_1485 : decode M_law.2.1 1485 = .ok (.ifCond .eq 5, 3) := by decide +kernel
theorem d_law_1488 : decode M_law.2.1 1488 = .ok (.iconst 0, 1) := by decide +kernel
theorem d_law_1489 : decode M_law.2.1 1489 = .ok (.ireturn, 1) := by decide +kernel
theorem d_law_1490 : decode M_law.2.1 1490 = .ok (.goto 58, 3) := by decide +kernel
theorem d_law_1493 : decode M_law.2.1 1493 = .ok (.aload_n 1, 1) := by decide +kernel
theorem d_law_1494 : decode M_law.2.1 1494 = .ok (.invokevirtual 156, 3) := by decide +kernel
theorem d_law_1497 : decode M_law.2.1 1497 = .ok (.dstore 5, 2) := by decide +kernel
theorem d_law_1499 : decode M_law.2.1 1499 = .ok (.aload_n 2, 1) := by decide +kernel
theorem d_law_1500 : decode M_law.2.1 1500 = .ok (.invokevirtual 160, 3) := by decide +kernel
theorem d_law_1503 : decode M_law.2.1 1503 = .ok (.dstore 7, 2) := by decide +kernel
theorem d_law_1505 : decode M_law.2.1 1505 = .ok (.dload 5, 2) := by decide +kernel
theorem d_law_1507 : decode M_law.2.1 1507 = .ok (.dload 7, 2) := by decide +kernel
theorem d_law_1509 : decode M_law.2.1 1509 = .ok (.dcmp .l, 1) := by decide +kernel
theorem d_law_1510 : decode M_law.2.1 1510 = .ok (.ifCond .eq 21, 3) := by decide +kernel
theorem d_law_1513 : decode M_law.2.1 1513 = .ok (.dload 5, 2) := by decide +kernel
theorem d_law_1515 : decode M_law.2.1 1515 = .ok (.dload 5, 2) := by decide +kernel
theorem d_law_1517 : decode M_law.2.1 1517 = .ok (.dcmp .l, 1) := by decide +kernel
theorem d_law_1518 : decode M_law.2.1 1518 = .ok (.ifCond .eq 11, 3) := by decide +kernel
theorem d_law_1521 : decode M_law.2.1 1521 = .ok (.dload 7, 2) := by decide +kernel
theorem d_law_1523 : decode M_law.2.1 1523 = .ok (.dload 7, 2) := by decide +kernel
theorem d_law_1525 : decode M_law.2.1 1525 = .ok (.dcmp .l, 1) := by decide +kernel
theorem d_law_1526 : decode M_law.2.1 1526 = .ok (.ifCond .ne 5, 3) := by decide +kernel
theorem d_law_1529 : decode M_law.2.1 1529 = .ok (.iconst 0, 1) := by decide +kernel
theorem d_law_1530 : decode M_law.2.1 1530 = .ok (.ireturn, 1) := by decide +kernel
theorem d_law_1531 : decode M_law.2.1 1531 = .ok (.goto 17, 3) := by decide +kernel
theorem d_law_1534 : decode M_law.2.1 1534 = .ok (.aload_n 1, 1) := by decide +kernel
theorem d_law_1535 : decode M_law.2.1 1535 = .ok (.invokevirtual 161, 3) := by decide +kernel
theorem d_law_1538 : decode M_law.2.1 1538 = .ok (.aload_n 2, 1) := by decide +kernel
theorem d_law_1539 : decode M_law.2.1 1539 = .ok (.invokevirtual 165, 3) := by decide +kernel
theorem d_law_1542 : decode M_law.2.1 1542 = .ok (.lcmp, 1) := by decide +kernel
theorem d_law_1543 : decode M_law.2.1 1543 = .ok (.ifCond .eq 5, 3) := by decide +kernel
theorem d_law_1546 : decode M_law.2.1 1546 = .ok (.iconst 0, 1) := by decide +kernel
theorem d_law_1547 : decode M_law.2.1 1547 = .ok (.ireturn, 1) := by decide +kernel
theorem d_law_1548 : decode M_law.2.1 1548 = .ok (.iinc 4 6, 3) := by decide +kernel
theorem d_law_1551 : decode M_law.2.1 1551 = .ok (.goto (-1528), 3) := by decide +kernel
theorem d_law_1554 : decode M_law.2.1 1554 = .ok (.iconst 1, 1) := by decide +kernel
theorem d_law_1555 : decode M_law.2.1 1555 = .ok (.ireturn, 1) := by decide +kernel
