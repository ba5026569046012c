/-! The law itself: its name, its rows, printed. -/
def M_Law_law : xa_Mu := (x, code, 7, ret, [])
theorem d_Law_law_0 : decode M_Law_law.2.1 0 = .ok (.new 8, 3) := by decide +kernel
theorem d_Law_law_3 : decode M_Law_law.2.1 3 = .ok (.dup, 1) := by decide +kernel
theorem d_Law_law_4 : decode M_Law_law.2.1 4 = .ok (.aload_n 0, 1) := by decide +kernel
theorem d_Law_law_5 : decode M_Law_law.2.1 5 = .ok (.iconst 0, 1) := by decide +kernel
theorem d_Law_law_6 : decode M_Law_law.2.1 6 = .ok (.invokestatic 70, 3) := by decide +kernel
theorem d_Law_law_9 : decode M_Law_law.2.1 9 = .ok (.invokespecial 76, 3) := by decide +kernel
theorem d_Law_law_12 : decode M_Law_law.2.1 12 = .ok (.astore_n 1, 1) := by decide +kernel
theorem d_Law_law_13 : decode M_Law_law.2.1 13 = .ok (.new 78, 3) := by decide +kernel
theorem d_Law_law_16 : decode M_Law_law.2.1 16 = .ok (.dup, 1) := by decide +kernel
theorem d_Law_law_17 : decode M_Law_law.2.1 17 = .ok (.aload_n 0, 1) := by decide +kernel
theorem d_Law_law_18 : decode M_Law_law.2.1 18 = .ok (.iconst 0, 1) := by decide +kernel
theorem d_Law_law_19 : decode M_Law_law.2.1 19 = .ok (.invokestatic 70, 3) := by decide +kernel
theorem d_Law_law_22 : decode M_Law_law.2.1 22 = .ok (.invokespecial 80, 3) := by decide +kernel
theorem d_Law_law_25 : decode M_Law_law.2.1 25 = .ok (.astore_n 2, 1) := by decide +kernel
theorem d_Law_law_26 : decode M_Law_law.2.1 26 = .ok (.iconst 1, 1) := by decide +kernel
theorem d_Law_law_27 : decode M_Law_law.2.1 27 = .ok (.newarray .long, 2) := by decide +kernel
theorem d_Law_law_29 : decode M_Law_law.2.1 29 = .ok (.astore_n 3, 1) := by decide +kernel
theorem d_Law_law_30 : decode M_Law_law.2.1 30 = .ok (.iconst 1, 1) := by decide +kernel
theorem d_Law_law_31 : decode M_Law_law.2.1 31 = .ok (.istore 4, 2) := by decide +kernel
theorem d_Law_law_33 : decode M_Law_law.2.1 33 = .ok (.iload 4, 2) := by decide +kernel
theorem d_Law_law_35 : decode M_Law_law.2.1 35 = .ok (.aload_n 0, 1) := by decide +kernel
theorem d_Law_law_36 : decode M_Law_law.2.1 36 = .ok (.arraylength, 1) := by decide +kernel
theorem d_Law_law_37 : decode M_Law_law.2.1 37 = .ok (.iconst 3, 1) := by decide +kernel
theorem d_Law_law_38 : decode M_Law_law.2.1 38 = .ok (.isub, 1) := by decide +kernel
theorem d_Law_law_39 : decode M_Law_law.2.1 39 = .ok (.if_icmp .gt 1060, 3) := by decide +kernel
theorem d_Law_law_42 : decode M_Law_law.2.1 42 = .ok (.aload_n 0, 1) := by decide +kernel
theorem d_Law_law_43 : decode M_Law_law.2.1 43 = .ok (.iload 4, 2) := by decide +kernel
theorem d_Law_law_45 : decode M_Law_law.2.1 45 = .ok (.iaload, 1) := by decide +kernel
theorem d_Law_law_46 : decode M_Law_law.2.1 46 = .ok (.bipush 31, 2) := by decide +kernel
theorem d_Law_law_48 : decode M_Law_law.2.1 48 = .ok (.iand, 1) := by decide +kernel
theorem d_Law_law_49 : decode M_Law_law.2.1 49 = .ok (.tableswitch 1044 0 19 #[95, 108, 164, 239, 275, 288, 344, 400, 413, 464, 508, 521, 577, 633, 701, 757, 813, 869, 932, 988], 95) := by decide +kernel
theorem d_Law_law_144 : decode M_Law_law.2.1 144 = .ok (.aload_n 1, 1) := by decide +kernel
theorem d_Law_law_145 : decode M_Law_law.2.1 145 = .ok (.invokevirtual 81, 3) := by decide +kernel
theorem d_Law_law_148 : decode M_Law_law.2.1 148 = .ok (.aload_n 2, 1) := by decide +kernel
theorem d_Law_law_149 : decode M_Law_law.2.1 149 = .ok (.invokevirtual 84, 3) := by decide +kernel
theorem d_Law_law_152 : decode M_Law_law.2.1 152 = .ok (.if_icmp .eq 941, 3) := by decide +kernel
theorem d_Law_law_155 : decode M_Law_law.2.1 155 = .ok (.iconst 0, 1) := by decide +kernel
theorem d_Law_law_156 : decode M_Law_law.2.1 156 = .ok (.ireturn, 1) := by decide +kernel
theorem d_Law_law_157 : decode M_Law_law.2.1 157 = .ok (.aload_n 1, 1) := by decide +kernel
theorem d_Law_law_158 : decode M_Law_law.2.1 158 = .ok (.aload_n 0, 1) := by decide +kernel
theorem d_Law_law_159 : decode M_Law_law.2.1 159 = .ok (.iload 4, 2) := by decide +kernel
theorem d_Law_law_161 : decode M_Law_law.2.1 161 = .ok (.iconst 1, 1) := by decide +kernel
theorem d_Law_law_162 : decode M_Law_law.2.1 162 = .ok (.iadd, 1) := by decide +kernel
theorem d_Law_law_163 : decode M_Law_law.2.1 163 = .ok (.iaload, 1) := by decide +kernel
theorem d_Law_law_164 : decode M_Law_law.2.1 164 = .ok (.aload_n 3, 1) := by decide +kernel
theorem d_Law_law_165 : decode M_Law_law.2.1 165 = .ok (.invokestatic 85, 3) := by decide +kernel
theorem d_Law_law_168 : decode M_Law_law.2.1 168 = .ok (.istore 5, 2) := by decide +kernel
theorem d_Law_law_170 : decode M_Law_law.2.1 170 = .ok (.aload_n 2, 1) := by decide +kernel
theorem d_Law_law_171 : decode M_Law_law.2.1 171 = .ok (.aload_n 0, 1) := by decide +kernel
theorem d_Law_law_172 : decode M_Law_law.2.1 172 = .ok (.iload 4, 2) := by decide +kernel
theorem d_Law_law_174 : decode M_Law_law.2.1 174 = .ok (.iconst 1, 1) := by decide +kernel
theorem d_Law_law_175 : decode M_Law_law.2.1 175 = .ok (.iadd, 1) := by decide +kernel
theorem d_Law_law_176 : decode M_Law_law.2.1 176 = .ok (.iaload, 1) := by decide +kernel
theorem d_Law_law_177 : decode M_Law_law.2.1 177 = .ok (.invokevirtual 88, 3) := by decide +kernel
theorem d_Law_law_180 : decode M_Law_law.2.1 180 = .ok (.istore 6, 2) := by decide +kernel
theorem d_Law_law_182 : decode M_Law_law.2.1 182 = .ok (.aload_n 2, 1) := by decide +kernel
theorem d_Law_law_183 : decode M_Law_law.2.1 183 = .ok (.invokevirtual 89, 3) := by decide +kernel
theorem d_Law_law_186 : decode M_Law_law.2.1 186 = .ok (.iload 5, 2) := by decide +kernel
theorem d_Law_law_188 : decode M_Law_law.2.1 188 = .ok (.if_icmp .eq 5, 3) := by decide +kernel
theorem d_Law_law_191 : decode M_Law_law.2.1 191 = .ok (.iconst 0, 1) := by decide +kernel
theorem d_Law_law_192 : decode M_Law_law.2.1 192 = .ok (.ireturn, 1) := by decide +kernel
theorem d_Law_law_193 : decode M_Law_law.2.1 193 = .ok (.iload 5, 2) := by decide +kernel
theorem d_Law_law_195 : decode M_Law_law.2.1 195 = .ok (.ifCond .ne 15, 3) := by decide +kernel
theorem d_Law_law_198 : decode M_Law_law.2.1 198 = .ok (.aload_n 3, 1) := by decide +kernel
theorem d_Law_law_199 : decode M_Law_law.2.1 199 = .ok (.iconst 0, 1) := by decide +kernel
theorem d_Law_law_200 : decode M_Law_law.2.1 200 = .ok (.laload, 1) := by decide +kernel
theorem d_Law_law_201 : decode M_Law_law.2.1 201 = .ok (.iload 6, 2) := by decide +kernel
theorem d_Law_law_203 : decode M_Law_law.2.1 203 = .ok (.i2l, 1) := by decide +kernel
theorem d_Law_law_204 : decode M_Law_law.2.1 204 = .ok (.lcmp, 1) := by decide +kernel
theorem d_Law_law_205 : decode M_Law_law.2.1 205 = .ok (.ifCond .eq 5, 3) := by decide +kernel
theorem d_Law_law_208 : decode M_Law_law.2.1 208 = .ok (.iconst 0, 1) := by decide +kernel
theorem d_Law_law_209 : decode M_Law_law.2.1 209 = .ok (.ireturn, 1) := by decide +kernel
theorem d_Law_law_210 : decode M_Law_law.2.1 210 = .ok (.goto 883, 3) := by decide +kernel
theorem d_Law_law_213 : decode M_Law_law.2.1 213 = .ok (.aload_n 1, 1) := by decide +kernel
theorem d_Law_law_214 : decode M_Law_law.2.1 214 = .ok (.aload_n 0, 1) := by decide +kernel
theorem d_Law_law_215 : decode M_Law_law.2.1 215 = .ok (.iload 4, 2) := by decide +kernel
theorem d_Law_law_217 : decode M_Law_law.2.1 217 = .ok (.iconst 1, 1) := by decide +kernel
theorem d_Law_law_218 : decode M_Law_law.2.1 218 = .ok (.iadd, 1) := by decide +kernel
theorem d_Law_law_219 : decode M_Law_law.2.1 219 = .ok (.iaload, 1) := by decide +kernel
theorem d_Law_law_220 : decode M_Law_law.2.1 220 = .ok (.aload_n 0, 1) := by decide +kernel
theorem d_Law_law_221 : decode M_Law_law.2.1 221 = .ok (.iload 4, 2) := by decide +kernel
theorem d_Law_law_223 : decode M_Law_law.2.1 223 = .ok (.iconst 2, 1) := by decide +kernel
theorem d_Law_law_224 : decode M_Law_law.2.1 224 = .ok (.iadd, 1) := by decide +kernel
theorem d_Law_law_225 : decode M_Law_law.2.1 225 = .ok (.iaload, 1) := by decide +kernel
theorem d_Law_law_226 : decode M_Law_law.2.1 226 = .ok (.aload_n 3, 1) := by decide +kernel
theorem d_Law_law_227 : decode M_Law_law.2.1 227 = .ok (.invokestatic 92, 3) := by decide +kernel
theorem d_Law_law_230 : decode M_Law_law.2.1 230 = .ok (.istore 5, 2) := by decide +kernel
theorem d_Law_law_232 : decode M_Law_law.2.1 232 = .ok (.aload_n 2, 1) := by decide +kernel
theorem d_Law_law_233 : decode M_Law_law.2.1 233 = .ok (.aload_n 0, 1) := by decide +kernel
theorem d_Law_law_234 : decode M_Law_law.2.1 234 = .ok (.iload 4, 2) := by decide +kernel
theorem d_Law_law_236 : decode M_Law_law.2.1 236 = .ok (.iconst 1, 1) := by decide +kernel
theorem d_Law_law_237 : decode M_Law_law.2.1 237 = .ok (.iadd, 1) := by decide +kernel
theorem d_Law_law_238 : decode M_Law_law.2.1 238 = .ok (.iaload, 1) := by decide +kernel
theorem d_Law_law_239 : decode M_Law_law.2.1 239 = .ok (.aload_n 0, 1) := by decide +kernel
theorem d_Law_law_240 : decode M_Law_law.2.1 240 = .ok (.iload 4, 2) := by decide +kernel
theorem d_Law_law_242 : decode M_Law_law.2.1 242 = .ok (.iconst 2, 1) := by decide +kernel
theorem d_Law_law_243 : decode M_Law_law.2.1 243 = .ok (.iadd, 1) := by decide +kernel
theorem d_Law_law_244 : decode M_Law_law.2.1 244 = .ok (.iaload, 1) := by decide +kernel
theorem d_Law_law_245 : decode M_Law_law.2.1 245 = .ok (.invokevirtual 95, 3) := by decide +kernel
theorem d_Law_law_248 : decode M_Law_law.2.1 248 = .ok (.istore 6, 2) := by decide +kernel
theorem d_Law_law_250 : decode M_Law_law.2.1 250 = .ok (.aload_n 2, 1) := by decide +kernel
theorem d_Law_law_251 : decode M_Law_law.2.1 251 = .ok (.invokevirtual 89, 3) := by decide +kernel
theorem d_Law_law_254 : decode M_Law_law.2.1 254 = .ok (.iload 5, 2) := by decide +kernel
theorem d_Law_law_256 : decode M_Law_law.2.1 256 = .ok (.if_icmp .eq 5, 3) := by decide +kernel
theorem d_Law_law_259 : decode M_Law_law.2.1 259 = .ok (.iconst 0, 1) := by decide +kernel
theorem d_Law_law_260 : decode M_Law_law.2.1 260 = .ok (.ireturn, 1) := by decide +kernel
theorem d_Law_law_261 : decode M_Law_law.2.1 261 = .ok (.iload 5, 2) := by decide +kernel
theorem d_Law_law_263 : decode M_Law_law.2.1 263 = .ok (.ifCond .ne 22, 3) := by decide +kernel
theorem d_Law_law_266 : decode M_Law_law.2.1 266 = .ok (.aload_n 3, 1) := by decide +kernel
theorem d_Law_law_267 : decode M_Law_law.2.1 267 = .ok (.iconst 0, 1) := by decide +kernel
theorem d_Law_law_268 : decode M_Law_law.2.1 268 = .ok (.laload, 1) := by decide +kernel
theorem d_Law_law_269 : decode M_Law_law.2.1 269 = .ok (.iload 6, 2) := by decide +kernel
theorem d_Law_law_271 : decode M_Law_law.2.1 271 = .ok (.ifCond .eq 7, 3) := by decide +kernel
theorem d_Law_law_274 : decode M_Law_law.2.1 274 = .ok (.lconst 1, 1) := by decide +kernel
theorem d_Law_law_275 : decode M_Law_law.2.1 275 = .ok (.goto 4, 3) := by decide +kernel
theorem d_Law_law_278 : decode M_Law_law.2.1 278 = .ok (.lconst 0, 1) := by decide +kernel
theorem d_Law_law_279 : decode M_Law_law.2.1 279 = .ok (.lcmp, 1) := by decide +kernel
theorem d_Law_law_280 : decode M_Law_law.2.1 280 = .ok (.ifCond .eq 5, 3) := by decide +kernel
theorem d_Law_law_283 : decode M_Law_law.2.1 283 = .ok (.iconst 0, 1) := by decide +kernel
theorem d_Law_law_284 : decode M_Law_law.2.1 284 = .ok (.ireturn, 1) := by decide +kernel
theorem d_Law_law_285 : decode M_Law_law.2.1 285 = .ok (.goto 808, 3) := by decide +kernel
theorem d_Law_law_288 : decode M_Law_law.2.1 288 = .ok (.aload_n 1, 1) := by decide +kernel
theorem d_Law_law_289 : decode M_Law_law.2.1 289 = .ok (.aload_n 0, 1) := by decide +kernel
theorem d_Law_law_290 : decode M_Law_law.2.1 290 = .ok (.iload 4, 2) := by decide +kernel
theorem d_Law_law_292 : decode M_Law_law.2.1 292 = .ok (.iconst 1, 1) := by decide +kernel
theorem d_Law_law_293 : decode M_Law_law.2.1 293 = .ok (.iadd, 1) := by decide +kernel
theorem d_Law_law_294 : decode M_Law_law.2.1 294 = .ok (.iaload, 1) := by decide +kernel
theorem d_Law_law_295 : decode M_Law_law.2.1 295 = .ok (.invokestatic 96, 3) := by decide +kernel
theorem d_Law_law_298 : decode M_Law_law.2.1 298 = .ok (.istore 5, 2) := by decide +kernel
theorem d_Law_law_300 : decode M_Law_law.2.1 300 = .ok (.aload_n 2, 1) := by decide +kernel
theorem d_Law_law_301 : decode M_Law_law.2.1 301 = .ok (.aload_n 0, 1) := by decide +kernel
theorem d_Law_law_302 : decode M_Law_law.2.1 302 = .ok (.iload 4, 2) := by decide +kernel
theorem d_Law_law_304 : decode M_Law_law.2.1 304 = .ok (.iconst 1, 1) := by decide +kernel
theorem d_Law_law_305 : decode M_Law_law.2.1 305 = .ok (.iadd, 1) := by decide +kernel
theorem d_Law_law_306 : decode M_Law_law.2.1 306 = .ok (.iaload, 1) := by decide +kernel
theorem d_Law_law_307 : decode M_Law_law.2.1 307 = .ok (.invokevirtual 99, 3) := by decide +kernel
theorem d_Law_law_310 : decode M_Law_law.2.1 310 = .ok (.aload_n 2, 1) := by decide +kernel
theorem d_Law_law_311 : decode M_Law_law.2.1 311 = .ok (.invokevirtual 89, 3) := by decide +kernel
theorem d_Law_law_314 : decode M_Law_law.2.1 314 = .ok (.iload 5, 2) := by decide +kernel
theorem d_Law_law_316 : decode M_Law_law.2.1 316 = .ok (.if_icmp .eq 5, 3) := by decide +kernel
theorem d_Law_law_319 : decode M_Law_law.2.1 319 = .ok (.iconst 0, 1) := by decide +kernel
theorem d_Law_law_320 : decode M_Law_law.2.1 320 = .ok (.ireturn, 1) := by decide +kernel
theorem d_Law_law_321 : decode M_Law_law.2.1 321 = .ok (.goto 772, 3) := by decide +kernel
theorem d_Law_law_324 : decode M_Law_law.2.1 324 = .ok (.aload_n 1, 1) := by decide +kernel
theorem d_Law_law_325 : decode M_Law_law.2.1 325 = .ok (.invokevirtual 100, 3) := by decide +kernel
theorem d_Law_law_328 : decode M_Law_law.2.1 328 = .ok (.aload_n 2, 1) := by decide +kernel
theorem d_Law_law_329 : decode M_Law_law.2.1 329 = .ok (.invokevirtual 103, 3) := by decide +kernel
theorem d_Law_law_332 : decode M_Law_law.2.1 332 = .ok (.if_icmp .eq 761, 3) := by decide +kernel
theorem d_Law_law_335 : decode M_Law_law.2.1 335 = .ok (.iconst 0, 1) := by decide +kernel
theorem d_Law_law_336 : decode M_Law_law.2.1 336 = .ok (.ireturn, 1) := by decide +kernel
theorem d_Law_law_337 : decode M_Law_law.2.1 337 = .ok (.aload_n 1, 1) := by decide +kernel
theorem d_Law_law_338 : decode M_Law_law.2.1 338 = .ok (.aload_n 0, 1) := by decide +kernel
theorem d_Law_law_339 : decode M_Law_law.2.1 339 = .ok (.iload 4, 2) := by decide +kernel
theorem d_Law_law_341 : decode M_Law_law.2.1 341 = .ok (.iconst 1, 1) := by decide +kernel
theorem d_Law_law_342 : decode M_Law_law.2.1 342 = .ok (.iadd, 1) := by decide +kernel
theorem d_Law_law_343 : decode M_Law_law.2.1 343 = .ok (.iaload, 1) := by decide +kernel
theorem d_Law_law_344 : decode M_Law_law.2.1 344 = .ok (.aload_n 3, 1) := by decide +kernel
theorem d_Law_law_345 : decode M_Law_law.2.1 345 = .ok (.invokestatic 104, 3) := by decide +kernel
theorem d_Law_law_348 : decode M_Law_law.2.1 348 = .ok (.istore 5, 2) := by decide +kernel
theorem d_Law_law_350 : decode M_Law_law.2.1 350 = .ok (.aload_n 2, 1) := by decide +kernel
theorem d_Law_law_351 : decode M_Law_law.2.1 351 = .ok (.aload_n 0, 1) := by decide +kernel
theorem d_Law_law_352 : decode M_Law_law.2.1 352 = .ok (.iload 4, 2) := by decide +kernel
theorem d_Law_law_354 : decode M_Law_law.2.1 354 = .ok (.iconst 1, 1) := by decide +kernel
theorem d_Law_law_355 : decode M_Law_law.2.1 355 = .ok (.iadd, 1) := by decide +kernel
theorem d_Law_law_356 : decode M_Law_law.2.1 356 = .ok (.iaload, 1) := by decide +kernel
theorem d_Law_law_357 : decode M_Law_law.2.1 357 = .ok (.invokevirtual 106, 3) := by decide +kernel
theorem d_Law_law_360 : decode M_Law_law.2.1 360 = .ok (.istore 6, 2) := by decide +kernel
theorem d_Law_law_362 : decode M_Law_law.2.1 362 = .ok (.aload_n 2, 1) := by decide +kernel
theorem d_Law_law_363 : decode M_Law_law.2.1 363 = .ok (.invokevirtual 89, 3) := by decide +kernel
theorem d_Law_law_366 : decode M_Law_law.2.1 366 = .ok (.iload 5, 2) := by decide +kernel
theorem d_Law_law_368 : decode M_Law_law.2.1 368 = .ok (.if_icmp .eq 5, 3) := by decide +kernel
theorem d_Law_law_371 : decode M_Law_law.2.1 371 = .ok (.iconst 0, 1) := by decide +kernel
theorem d_Law_law_372 : decode M_Law_law.2.1 372 = .ok (.ireturn, 1) := by decide +kernel
theorem d_Law_law_373 : decode M_Law_law.2.1 373 = .ok (.iload 5, 2) := by decide +kernel
theorem d_Law_law_375 : decode M_Law_law.2.1 375 = .ok (.ifCond .ne 15, 3) := by decide +kernel
theorem d_Law_law_378 : decode M_Law_law.2.1 378 = .ok (.aload_n 3, 1) := by decide +kernel
theorem d_Law_law_379 : decode M_Law_law.2.1 379 = .ok (.iconst 0, 1) := by decide +kernel
theorem d_Law_law_380 : decode M_Law_law.2.1 380 = .ok (.laload, 1) := by decide +kernel
theorem d_Law_law_381 : decode M_Law_law.2.1 381 = .ok (.iload 6, 2) := by decide +kernel
theorem d_Law_law_383 : decode M_Law_law.2.1 383 = .ok (.i2l, 1) := by decide +kernel
theorem d_Law_law_384 : decode M_Law_law.2.1 384 = .ok (.lcmp, 1) := by decide +kernel
theorem d_Law_law_385 : decode M_Law_law.2.1 385 = .ok (.ifCond .eq 5, 3) := by decide +kernel
theorem d_Law_law_388 : decode M_Law_law.2.1 388 = .ok (.iconst 0, 1) := by decide +kernel
theorem d_Law_law_389 : decode M_Law_law.2.1 389 = .ok (.ireturn, 1) := by decide +kernel
theorem d_Law_law_390 : decode M_Law_law.2.1 390 = .ok (.goto 703, 3) := by decide +kernel
theorem d_Law_law_393 : decode M_Law_law.2.1 393 = .ok (.aload_n 1, 1) := by decide +kernel
theorem d_Law_law_394 : decode M_Law_law.2.1 394 = .ok (.aload_n 0, 1) := by decide +kernel
theorem d_Law_law_395 : decode M_Law_law.2.1 395 = .ok (.iload 4, 2) := by decide +kernel
theorem d_Law_law_397 : decode M_Law_law.2.1 397 = .ok (.iconst 1, 1) := by decide +kernel
theorem d_Law_law_398 : decode M_Law_law.2.1 398 = .ok (.iadd, 1) := by decide +kernel
theorem d_Law_law_399 : decode M_Law_law.2.1 399 = .ok (.iaload, 1) := by decide +kernel
theorem d_Law_law_400 : decode M_Law_law.2.1 400 = .ok (.aload_n 3, 1) := by decide +kernel
theorem d_Law_law_401 : decode M_Law_law.2.1 401 = .ok (.invokestatic 107, 3) := by decide +kernel
theorem d_Law_law_404 : decode M_Law_law.2.1 404 = .ok (.istore 5, 2) := by decide +kernel
theorem d_Law_law_406 : decode M_Law_law.2.1 406 = .ok (.aload_n 2, 1) := by decide +kernel
theorem d_Law_law_407 : decode M_Law_law.2.1 407 = .ok (.aload_n 0, 1) := by decide +kernel
theorem d_Law_law_408 : decode M_Law_law.2.1 408 = .ok (.iload 4, 2) := by decide +kernel
theorem d_Law_law_410 : decode M_Law_law.2.1 410 = .ok (.iconst 1, 1) := by decide +kernel
theorem d_Law_law_411 : decode M_Law_law.2.1 411 = .ok (.iadd, 1) := by decide +kernel
theorem d_Law_law_412 : decode M_Law_law.2.1 412 = .ok (.iaload, 1) := by decide +kernel
theorem d_Law_law_413 : decode M_Law_law.2.1 413 = .ok (.invokevirtual 109, 3) := by decide +kernel
theorem d_Law_law_416 : decode M_Law_law.2.1 416 = .ok (.istore 6, 2) := by decide +kernel
theorem d_Law_law_418 : decode M_Law_law.2.1 418 = .ok (.aload_n 2, 1) := by decide +kernel
theorem d_Law_law_419 : decode M_Law_law.2.1 419 = .ok (.invokevirtual 89, 3) := by decide +kernel
theorem d_Law_law_422 : decode M_Law_law.2.1 422 = .ok (.iload 5, 2) := by decide +kernel
theorem d_Law_law_424 : decode M_Law_law.2.1 424 = .ok (.if_icmp .eq 5, 3) := by decide +kernel
theorem d_Law_law_427 : decode M_Law_law.2.1 427 = .ok (.iconst 0, 1) := by decide +kernel
theorem d_Law_law_428 : decode M_Law_law.2.1 428 = .ok (.ireturn, 1) := by decide +kernel
theorem d_Law_law_429 : decode M_Law_law.2.1 429 = .ok (.iload 5, 2) := by decide +kernel
theorem d_Law_law_431 : decode M_Law_law.2.1 431 = .ok (.ifCond .ne 15, 3) := by decide +kernel
theorem d_Law_law_434 : decode M_Law_law.2.1 434 = .ok (.aload_n 3, 1) := by decide +kernel
theorem d_Law_law_435 : decode M_Law_law.2.1 435 = .ok (.iconst 0, 1) := by decide +kernel
theorem d_Law_law_436 : decode M_Law_law.2.1 436 = .ok (.laload, 1) := by decide +kernel
theorem d_Law_law_437 : decode M_Law_law.2.1 437 = .ok (.iload 6, 2) := by decide +kernel
theorem d_Law_law_439 : decode M_Law_law.2.1 439 = .ok (.i2l, 1) := by decide +kernel
theorem d_Law_law_440 : decode M_Law_law.2.1 440 = .ok (.lcmp, 1) := by decide +kernel
theorem d_Law_law_441 : decode M_Law_law.2.1 441 = .ok (.ifCond .eq 5, 3) := by decide +kernel
theorem d_Law_law_444 : decode M_Law_law.2.1 444 = .ok (.iconst 0, 1) := by decide +kernel
theorem d_Law_law_445 : decode M_Law_law.2.1 445 = .ok (.ireturn, 1) := by decide +kernel
theorem d_Law_law_446 : decode M_Law_law.2.1 446 = .ok (.goto 647, 3) := by decide +kernel
theorem d_Law_law_449 : decode M_Law_law.2.1 449 = .ok (.aload_n 1, 1) := by decide +kernel
theorem d_Law_law_450 : decode M_Law_law.2.1 450 = .ok (.invokevirtual 110, 3) := by decide +kernel
theorem d_Law_law_453 : decode M_Law_law.2.1 453 = .ok (.aload_n 2, 1) := by decide +kernel
theorem d_Law_law_454 : decode M_Law_law.2.1 454 = .ok (.invokevirtual 113, 3) := by decide +kernel
theorem d_Law_law_457 : decode M_Law_law.2.1 457 = .ok (.if_icmp .eq 636, 3) := by decide +kernel
theorem d_Law_law_460 : decode M_Law_law.2.1 460 = .ok (.iconst 0, 1) := by decide +kernel
theorem d_Law_law_461 : decode M_Law_law.2.1 461 = .ok (.ireturn, 1) := by decide +kernel
theorem d_Law_law_462 : decode M_Law_law.2.1 462 = .ok (.aload_n 1, 1) := by decide +kernel
theorem d_Law_law_463 : decode M_Law_law.2.1 463 = .ok (.aload_n 3, 1) := by decide +kernel
theorem d_Law_law_464 : decode M_Law_law.2.1 464 = .ok (.invokestatic 114, 3) := by decide +kernel
theorem d_Law_law_467 : decode M_Law_law.2.1 467 = .ok (.istore 5, 2) := by decide +kernel
theorem d_Law_law_469 : decode M_Law_law.2.1 469 = .ok (.aload_n 2, 1) := by decide +kernel
theorem d_Law_law_470 : decode M_Law_law.2.1 470 = .ok (.invokevirtual 117, 3) := by decide +kernel
theorem d_Law_law_473 : decode M_Law_law.2.1 473 = .ok (.istore 6, 2) := by decide +kernel
theorem d_Law_law_475 : decode M_Law_law.2.1 475 = .ok (.aload_n 2, 1) := by decide +kernel
theorem d_Law_law_476 : decode M_Law_law.2.1 476 = .ok (.invokevirtual 89, 3) := by decide +kernel
theorem d_Law_law_479 : decode M_Law_law.2.1 479 = .ok (.iload 5, 2) := by decide +kernel
theorem d_Law_law_481 : decode M_Law_law.2.1 481 = .ok (.if_icmp .eq 5, 3) := by decide +kernel
theorem d_Law_law_484 : decode M_Law_law.2.1 484 = .ok (.iconst 0, 1) := by decide +kernel
theorem d_Law_law_485 : decode M_Law_law.2.1 485 = .ok (.ireturn, 1) := by decide +kernel
theorem d_Law_law_486 : decode M_Law_law.2.1 486 = .ok (.iload 5, 2) := by decide +kernel
theorem d_Law_law_488 : decode M_Law_law.2.1 488 = .ok (.ifCond .ne 22, 3) := by decide +kernel
theorem d_Law_law_491 : decode M_Law_law.2.1 491 = .ok (.aload_n 3, 1) := by decide +kernel
theorem d_Law_law_492 : decode M_Law_law.2.1 492 = .ok (.iconst 0, 1) := by decide +kernel
theorem d_Law_law_493 : decode M_Law_law.2.1 493 = .ok (.laload, 1) := by decide +kernel
theorem d_Law_law_494 : decode M_Law_law.2.1 494 = .ok (.iload 6, 2) := by decide +kernel
theorem d_Law_law_496 : decode M_Law_law.2.1 496 = .ok (.ifCond .eq 7, 3) := by decide +kernel
theorem d_Law_law_499 : decode M_Law_law.2.1 499 = .ok (.lconst 1, 1) := by decide +kernel
theorem d_Law_law_500 : decode M_Law_law.2.1 500 = .ok (.goto 4, 3) := by decide +kernel
theorem d_Law_law_503 : decode M_Law_law.2.1 503 = .ok (.lconst 0, 1) := by decide +kernel
theorem d_Law_law_504 : decode M_Law_law.2.1 504 = .ok (.lcmp, 1) := by decide +kernel
theorem d_Law_law_505 : decode M_Law_law.2.1 505 = .ok (.ifCond .eq 5, 3) := by decide +kernel
theorem d_Law_law_508 : decode M_Law_law.2.1 508 = .ok (.iconst 0, 1) := by decide +kernel
theorem d_Law_law_509 : decode M_Law_law.2.1 509 = .ok (.ireturn, 1) := by decide +kernel
theorem d_Law_law_510 : decode M_Law_law.2.1 510 = .ok (.goto 583, 3) := by decide +kernel
theorem d_Law_law_513 : decode M_Law_law.2.1 513 = .ok (.aload_n 1, 1) := by decide +kernel
theorem d_Law_law_514 : decode M_Law_law.2.1 514 = .ok (.aload_n 3, 1) := by decide +kernel
theorem d_Law_law_515 : decode M_Law_law.2.1 515 = .ok (.invokestatic 118, 3) := by decide +kernel
theorem d_Law_law_518 : decode M_Law_law.2.1 518 = .ok (.istore 5, 2) := by decide +kernel
theorem d_Law_law_520 : decode M_Law_law.2.1 520 = .ok (.aload_n 2, 1) := by decide +kernel
theorem d_Law_law_521 : decode M_Law_law.2.1 521 = .ok (.invokevirtual 120, 3) := by decide +kernel
theorem d_Law_law_524 : decode M_Law_law.2.1 524 = .ok (.istore 6, 2) := by decide +kernel
theorem d_Law_law_526 : decode M_Law_law.2.1 526 = .ok (.aload_n 2, 1) := by decide +kernel
theorem d_Law_law_527 : decode M_Law_law.2.1 527 = .ok (.invokevirtual 89, 3) := by decide +kernel
theorem d_Law_law_530 : decode M_Law_law.2.1 530 = .ok (.iload 5, 2) := by decide +kernel
theorem d_Law_law_532 : decode M_Law_law.2.1 532 = .ok (.if_icmp .eq 5, 3) := by decide +kernel
theorem d_Law_law_535 : decode M_Law_law.2.1 535 = .ok (.iconst 0, 1) := by decide +kernel
theorem d_Law_law_536 : decode M_Law_law.2.1 536 = .ok (.ireturn, 1) := by decide +kernel
theorem d_Law_law_537 : decode M_Law_law.2.1 537 = .ok (.iload 5, 2) := by decide +kernel
theorem d_Law_law_539 : decode M_Law_law.2.1 539 = .ok (.ifCond .ne 15, 3) := by decide +kernel
theorem d_Law_law_542 : decode M_Law_law.2.1 542 = .ok (.aload_n 3, 1) := by decide +kernel
theorem d_Law_law_543 : decode M_Law_law.2.1 543 = .ok (.iconst 0, 1) := by decide +kernel
theorem d_Law_law_544 : decode M_Law_law.2.1 544 = .ok (.laload, 1) := by decide +kernel
theorem d_Law_law_545 : decode M_Law_law.2.1 545 = .ok (.iload 6, 2) := by decide +kernel
theorem d_Law_law_547 : decode M_Law_law.2.1 547 = .ok (.i2l, 1) := by decide +kernel
theorem d_Law_law_548 : decode M_Law_law.2.1 548 = .ok (.lcmp, 1) := by decide +kernel
theorem d_Law_law_549 : decode M_Law_law.2.1 549 = .ok (.ifCond .eq 5, 3) := by decide +kernel
theorem d_Law_law_552 : decode M_Law_law.2.1 552 = .ok (.iconst 0, 1) := by decide +kernel
theorem d_Law_law_553 : decode M_Law_law.2.1 553 = .ok (.ireturn, 1) := by decide +kernel
theorem d_Law_law_554 : decode M_Law_law.2.1 554 = .ok (.goto 539, 3) := by decide +kernel
theorem d_Law_law_557 : decode M_Law_law.2.1 557 = .ok (.aload_n 1, 1) := by decide +kernel
theorem d_Law_law_558 : decode M_Law_law.2.1 558 = .ok (.invokevirtual 121, 3) := by decide +kernel
theorem d_Law_law_561 : decode M_Law_law.2.1 561 = .ok (.aload_n 2, 1) := by decide +kernel
theorem d_Law_law_562 : decode M_Law_law.2.1 562 = .ok (.invokevirtual 124, 3) := by decide +kernel
theorem d_Law_law_565 : decode M_Law_law.2.1 565 = .ok (.if_icmp .eq 528, 3) := by decide +kernel
theorem d_Law_law_568 : decode M_Law_law.2.1 568 = .ok (.iconst 0, 1) := by decide +kernel
theorem d_Law_law_569 : decode M_Law_law.2.1 569 = .ok (.ireturn, 1) := by decide +kernel
theorem d_Law_law_570 : decode M_Law_law.2.1 570 = .ok (.aload_n 1, 1) := by decide +kernel
theorem d_Law_law_571 : decode M_Law_law.2.1 571 = .ok (.aload_n 0, 1) := by decide +kernel
theorem d_Law_law_572 : decode M_Law_law.2.1 572 = .ok (.iload 4, 2) := by decide +kernel
theorem d_Law_law_574 : decode M_Law_law.2.1 574 = .ok (.iconst 1, 1) := by decide +kernel
theorem d_Law_law_575 : decode M_Law_law.2.1 575 = .ok (.iadd, 1) := by decide +kernel
theorem d_Law_law_576 : decode M_Law_law.2.1 576 = .ok (.iaload, 1) := by decide +kernel
theorem d_Law_law_577 : decode M_Law_law.2.1 577 = .ok (.aload_n 3, 1) := by decide +kernel
theorem d_Law_law_578 : decode M_Law_law.2.1 578 = .ok (.invokestatic 125, 3) := by decide +kernel
theorem d_Law_law_581 : decode M_Law_law.2.1 581 = .ok (.istore 5, 2) := by decide +kernel
theorem d_Law_law_583 : decode M_Law_law.2.1 583 = .ok (.aload_n 2, 1) := by decide +kernel
theorem d_Law_law_584 : decode M_Law_law.2.1 584 = .ok (.aload_n 0, 1) := by decide +kernel
theorem d_Law_law_585 : decode M_Law_law.2.1 585 = .ok (.iload 4, 2) := by decide +kernel
theorem d_Law_law_587 : decode M_Law_law.2.1 587 = .ok (.iconst 1, 1) := by decide +kernel
theorem d_Law_law_588 : decode M_Law_law.2.1 588 = .ok (.iadd, 1) := by decide +kernel
theorem d_Law_law_589 : decode M_Law_law.2.1 589 = .ok (.iaload, 1) := by decide +kernel
theorem d_Law_law_590 : decode M_Law_law.2.1 590 = .ok (.invokevirtual 127, 3) := by decide +kernel
theorem d_Law_law_593 : decode M_Law_law.2.1 593 = .ok (.istore 6, 2) := by decide +kernel
theorem d_Law_law_595 : decode M_Law_law.2.1 595 = .ok (.aload_n 2, 1) := by decide +kernel
theorem d_Law_law_596 : decode M_Law_law.2.1 596 = .ok (.invokevirtual 89, 3) := by decide +kernel
theorem d_Law_law_599 : decode M_Law_law.2.1 599 = .ok (.iload 5, 2) := by decide +kernel
theorem d_Law_law_601 : decode M_Law_law.2.1 601 = .ok (.if_icmp .eq 5, 3) := by decide +kernel
theorem d_Law_law_604 : decode M_Law_law.2.1 604 = .ok (.iconst 0, 1) := by decide +kernel
theorem d_Law_law_605 : decode M_Law_law.2.1 605 = .ok (.ireturn, 1) := by decide +kernel
theorem d_Law_law_606 : decode M_Law_law.2.1 606 = .ok (.iload 5, 2) := by decide +kernel
theorem d_Law_law_608 : decode M_Law_law.2.1 608 = .ok (.ifCond .ne 15, 3) := by decide +kernel
theorem d_Law_law_611 : decode M_Law_law.2.1 611 = .ok (.aload_n 3, 1) := by decide +kernel
theorem d_Law_law_612 : decode M_Law_law.2.1 612 = .ok (.iconst 0, 1) := by decide +kernel
theorem d_Law_law_613 : decode M_Law_law.2.1 613 = .ok (.laload, 1) := by decide +kernel
theorem d_Law_law_614 : decode M_Law_law.2.1 614 = .ok (.iload 6, 2) := by decide +kernel
theorem d_Law_law_616 : decode M_Law_law.2.1 616 = .ok (.i2l, 1) := by decide +kernel
theorem d_Law_law_617 : decode M_Law_law.2.1 617 = .ok (.lcmp, 1) := by decide +kernel
theorem d_Law_law_618 : decode M_Law_law.2.1 618 = .ok (.ifCond .eq 5, 3) := by decide +kernel
theorem d_Law_law_621 : decode M_Law_law.2.1 621 = .ok (.iconst 0, 1) := by decide +kernel
theorem d_Law_law_622 : decode M_Law_law.2.1 622 = .ok (.ireturn, 1) := by decide +kernel
theorem d_Law_law_623 : decode M_Law_law.2.1 623 = .ok (.goto 470, 3) := by decide +kernel
theorem d_Law_law_626 : decode M_Law_law.2.1 626 = .ok (.aload_n 1, 1) := by decide +kernel
theorem d_Law_law_627 : decode M_Law_law.2.1 627 = .ok (.aload_n 0, 1) := by decide +kernel
theorem d_Law_law_628 : decode M_Law_law.2.1 628 = .ok (.iload 4, 2) := by decide +kernel
theorem d_Law_law_630 : decode M_Law_law.2.1 630 = .ok (.iconst 1, 1) := by decide +kernel
theorem d_Law_law_631 : decode M_Law_law.2.1 631 = .ok (.iadd, 1) := by decide +kernel
theorem d_Law_law_632 : decode M_Law_law.2.1 632 = .ok (.iaload, 1) := by decide +kernel
theorem d_Law_law_633 : decode M_Law_law.2.1 633 = .ok (.aload_n 3, 1) := by decide +kernel
theorem d_Law_law_634 : decode M_Law_law.2.1 634 = .ok (.invokestatic 128, 3) := by decide +kernel
theorem d_Law_law_637 : decode M_Law_law.2.1 637 = .ok (.istore 5, 2) := by decide +kernel
theorem d_Law_law_639 : decode M_Law_law.2.1 639 = .ok (.aload_n 2, 1) := by decide +kernel
theorem d_Law_law_640 : decode M_Law_law.2.1 640 = .ok (.aload_n 0, 1) := by decide +kernel
theorem d_Law_law_641 : decode M_Law_law.2.1 641 = .ok (.iload 4, 2) := by decide +kernel
theorem d_Law_law_643 : decode M_Law_law.2.1 643 = .ok (.iconst 1, 1) := by decide +kernel
theorem d_Law_law_644 : decode M_Law_law.2.1 644 = .ok (.iadd, 1) := by decide +kernel
theorem d_Law_law_645 : decode M_Law_law.2.1 645 = .ok (.iaload, 1) := by decide +kernel
theorem d_Law_law_646 : decode M_Law_law.2.1 646 = .ok (.invokevirtual 130, 3) := by decide +kernel
theorem d_Law_law_649 : decode M_Law_law.2.1 649 = .ok (.istore 6, 2) := by decide +kernel
theorem d_Law_law_651 : decode M_Law_law.2.1 651 = .ok (.aload_n 2, 1) := by decide +kernel
theorem d_Law_law_652 : decode M_Law_law.2.1 652 = .ok (.invokevirtual 89, 3) := by decide +kernel
theorem d_Law_law_655 : decode M_Law_law.2.1 655 = .ok (.iload 5, 2) := by decide +kernel
theorem d_Law_law_657 : decode M_Law_law.2.1 657 = .ok (.if_icmp .eq 5, 3) := by decide +kernel
theorem d_Law_law_660 : decode M_Law_law.2.1 660 = .ok (.iconst 0, 1) := by decide +kernel
theorem d_Law_law_661 : decode M_Law_law.2.1 661 = .ok (.ireturn, 1) := by decide +kernel
theorem d_Law_law_662 : decode M_Law_law.2.1 662 = .ok (.iload 5, 2) := by decide +kernel
theorem d_Law_law_664 : decode M_Law_law.2.1 664 = .ok (.ifCond .ne 15, 3) := by decide +kernel
theorem d_Law_law_667 : decode M_Law_law.2.1 667 = .ok (.aload_n 3, 1) := by decide +kernel
theorem d_Law_law_668 : decode M_Law_law.2.1 668 = .ok (.iconst 0, 1) := by decide +kernel
theorem d_Law_law_669 : decode M_Law_law.2.1 669 = .ok (.laload, 1) := by decide +kernel
theorem d_Law_law_670 : decode M_Law_law.2.1 670 = .ok (.iload 6, 2) := by decide +kernel
theorem d_Law_law_672 : decode M_Law_law.2.1 672 = .ok (.i2l, 1) := by decide +kernel
theorem d_Law_law_673 : decode M_Law_law.2.1 673 = .ok (.lcmp, 1) := by decide +kernel
theorem d_Law_law_674 : decode M_Law_law.2.1 674 = .ok (.ifCond .eq 5, 3) := by decide +kernel
theorem d_Law_law_677 : decode M_Law_law.2.1 677 = .ok (.iconst 0, 1) := by decide +kernel
theorem d_Law_law_678 : decode M_Law_law.2.1 678 = .ok (.ireturn, 1) := by decide +kernel
theorem d_Law_law_679 : decode M_Law_law.2.1 679 = .ok (.goto 414, 3) := by decide +kernel
theorem d_Law_law_682 : decode M_Law_law.2.1 682 = .ok (.aload_n 1, 1) := by decide +kernel
theorem d_Law_law_683 : decode M_Law_law.2.1 683 = .ok (.aload_n 0, 1) := by decide +kernel
theorem d_Law_law_684 : decode M_Law_law.2.1 684 = .ok (.iload 4, 2) := by decide +kernel
theorem d_Law_law_686 : decode M_Law_law.2.1 686 = .ok (.iconst 1, 1) := by decide +kernel
theorem d_Law_law_687 : decode M_Law_law.2.1 687 = .ok (.iadd, 1) := by decide +kernel
theorem d_Law_law_688 : decode M_Law_law.2.1 688 = .ok (.iaload, 1) := by decide +kernel
theorem d_Law_law_689 : decode M_Law_law.2.1 689 = .ok (.aload_n 0, 1) := by decide +kernel
theorem d_Law_law_690 : decode M_Law_law.2.1 690 = .ok (.iload 4, 2) := by decide +kernel
theorem d_Law_law_692 : decode M_Law_law.2.1 692 = .ok (.iconst 2, 1) := by decide +kernel
theorem d_Law_law_693 : decode M_Law_law.2.1 693 = .ok (.iadd, 1) := by decide +kernel
theorem d_Law_law_694 : decode M_Law_law.2.1 694 = .ok (.iaload, 1) := by decide +kernel
theorem d_Law_law_695 : decode M_Law_law.2.1 695 = .ok (.aload_n 3, 1) := by decide +kernel
theorem d_Law_law_696 : decode M_Law_law.2.1 696 = .ok (.invokestatic 131, 3) := by decide +kernel
theorem d_Law_law_699 : decode M_Law_law.2.1 699 = .ok (.istore 5, 2) := by decide +kernel
theorem d_Law_law_701 : decode M_Law_law.2.1 701 = .ok (.aload_n 2, 1) := by decide +kernel
theorem d_Law_law_702 : decode M_Law_law.2.1 702 = .ok (.aload_n 0, 1) := by decide +kernel
theorem d_Law_law_703 : decode M_Law_law.2.1 703 = .ok (.iload 4, 2) := by decide +kernel
theorem d_Law_law_705 : decode M_Law_law.2.1 705 = .ok (.iconst 1, 1) := by decide +kernel
theorem d_Law_law_706 : decode M_Law_law.2.1 706 = .ok (.iadd, 1) := by decide +kernel
theorem d_Law_law_707 : decode M_Law_law.2.1 707 = .ok (.iaload, 1) := by decide +kernel
theorem d_Law_law_708 : decode M_Law_law.2.1 708 = .ok (.aload_n 0, 1) := by decide +kernel
theorem d_Law_law_709 : decode M_Law_law.2.1 709 = .ok (.iload 4, 2) := by decide +kernel
theorem d_Law_law_711 : decode M_Law_law.2.1 711 = .ok (.iconst 2, 1) := by decide +kernel
theorem d_Law_law_712 : decode M_Law_law.2.1 712 = .ok (.iadd, 1) := by decide +kernel
theorem d_Law_law_713 : decode M_Law_law.2.1 713 = .ok (.iaload, 1) := by decide +kernel
theorem d_Law_law_714 : decode M_Law_law.2.1 714 = .ok (.invokevirtual 133, 3) := by decide +kernel
theorem d_Law_law_717 : decode M_Law_law.2.1 717 = .ok (.istore 6, 2) := by decide +kernel
theorem d_Law_law_719 : decode M_Law_law.2.1 719 = .ok (.aload_n 2, 1) := by decide +kernel
theorem d_Law_law_720 : decode M_Law_law.2.1 720 = .ok (.invokevirtual 89, 3) := by decide +kernel
theorem d_Law_law_723 : decode M_Law_law.2.1 723 = .ok (.iload 5, 2) := by decide +kernel
theorem d_Law_law_725 : decode M_Law_law.2.1 725 = .ok (.if_icmp .eq 5, 3) := by decide +kernel
theorem d_Law_law_728 : decode M_Law_law.2.1 728 = .ok (.iconst 0, 1) := by decide +kernel
theorem d_Law_law_729 : decode M_Law_law.2.1 729 = .ok (.ireturn, 1) := by decide +kernel
theorem d_Law_law_730 : decode M_Law_law.2.1 730 = .ok (.iload 5, 2) := by decide +kernel
theorem d_Law_law_732 : decode M_Law_law.2.1 732 = .ok (.ifCond .ne 15, 3) := by decide +kernel
theorem d_Law_law_735 : decode M_Law_law.2.1 735 = .ok (.aload_n 3, 1) := by decide +kernel
theorem d_Law_law_736 : decode M_Law_law.2.1 736 = .ok (.iconst 0, 1) := by decide +kernel
theorem d_Law_law_737 : decode M_Law_law.2.1 737 = .ok (.laload, 1) := by decide +kernel
theorem d_Law_law_738 : decode M_Law_law.2.1 738 = .ok (.iload 6, 2) := by decide +kernel
theorem d_Law_law_740 : decode M_Law_law.2.1 740 = .ok (.i2l, 1) := by decide +kernel
theorem d_Law_law_741 : decode M_Law_law.2.1 741 = .ok (.lcmp, 1) := by decide +kernel
theorem d_Law_law_742 : decode M_Law_law.2.1 742 = .ok (.ifCond .eq 5, 3) := by decide +kernel
theorem d_Law_law_745 : decode M_Law_law.2.1 745 = .ok (.iconst 0, 1) := by decide +kernel
theorem d_Law_law_746 : decode M_Law_law.2.1 746 = .ok (.ireturn, 1) := by decide +kernel
theorem d_Law_law_747 : decode M_Law_law.2.1 747 = .ok (.goto 346, 3) := by decide +kernel
theorem d_Law_law_750 : decode M_Law_law.2.1 750 = .ok (.aload_n 1, 1) := by decide +kernel
theorem d_Law_law_751 : decode M_Law_law.2.1 751 = .ok (.aload_n 0, 1) := by decide +kernel
theorem d_Law_law_752 : decode M_Law_law.2.1 752 = .ok (.iload 4, 2) := by decide +kernel
theorem d_Law_law_754 : decode M_Law_law.2.1 754 = .ok (.iconst 1, 1) := by decide +kernel
theorem d_Law_law_755 : decode M_Law_law.2.1 755 = .ok (.iadd, 1) := by decide +kernel
theorem d_Law_law_756 : decode M_Law_law.2.1 756 = .ok (.iaload, 1) := by decide +kernel
theorem d_Law_law_757 : decode M_Law_law.2.1 757 = .ok (.aload_n 3, 1) := by decide +kernel
theorem d_Law_law_758 : decode M_Law_law.2.1 758 = .ok (.invokestatic 134, 3) := by decide +kernel
theorem d_Law_law_761 : decode M_Law_law.2.1 761 = .ok (.istore 5, 2) := by decide +kernel
theorem d_Law_law_763 : decode M_Law_law.2.1 763 = .ok (.aload_n 2, 1) := by decide +kernel
theorem d_Law_law_764 : decode M_Law_law.2.1 764 = .ok (.aload_n 0, 1) := by decide +kernel
theorem d_Law_law_765 : decode M_Law_law.2.1 765 = .ok (.iload 4, 2) := by decide +kernel
theorem d_Law_law_767 : decode M_Law_law.2.1 767 = .ok (.iconst 1, 1) := by decide +kernel
theorem d_Law_law_768 : decode M_Law_law.2.1 768 = .ok (.iadd, 1) := by decide +kernel
theorem d_Law_law_769 : decode M_Law_law.2.1 769 = .ok (.iaload, 1) := by decide +kernel
theorem d_Law_law_770 : decode M_Law_law.2.1 770 = .ok (.invokevirtual 136, 3) := by decide +kernel
theorem d_Law_law_773 : decode M_Law_law.2.1 773 = .ok (.istore 6, 2) := by decide +kernel
theorem d_Law_law_775 : decode M_Law_law.2.1 775 = .ok (.aload_n 2, 1) := by decide +kernel
theorem d_Law_law_776 : decode M_Law_law.2.1 776 = .ok (.invokevirtual 89, 3) := by decide +kernel
theorem d_Law_law_779 : decode M_Law_law.2.1 779 = .ok (.iload 5, 2) := by decide +kernel
theorem d_Law_law_781 : decode M_Law_law.2.1 781 = .ok (.if_icmp .eq 5, 3) := by decide +kernel
theorem d_Law_law_784 : decode M_Law_law.2.1 784 = .ok (.iconst 0, 1) := by decide +kernel
theorem d_Law_law_785 : decode M_Law_law.2.1 785 = .ok (.ireturn, 1) := by decide +kernel
theorem d_Law_law_786 : decode M_Law_law.2.1 786 = .ok (.iload 5, 2) := by decide +kernel
theorem d_Law_law_788 : decode M_Law_law.2.1 788 = .ok (.ifCond .ne 15, 3) := by decide +kernel
theorem d_Law_law_791 : decode M_Law_law.2.1 791 = .ok (.aload_n 3, 1) := by decide +kernel
theorem d_Law_law_792 : decode M_Law_law.2.1 792 = .ok (.iconst 0, 1) := by decide +kernel
theorem d_Law_law_793 : decode M_Law_law.2.1 793 = .ok (.laload, 1) := by decide +kernel
theorem d_Law_law_794 : decode M_Law_law.2.1 794 = .ok (.iload 6, 2) := by decide +kernel
theorem d_Law_law_796 : decode M_Law_law.2.1 796 = .ok (.i2l, 1) := by decide +kernel
theorem d_Law_law_797 : decode M_Law_law.2.1 797 = .ok (.lcmp, 1) := by decide +kernel
theorem d_Law_law_798 : decode M_Law_law.2.1 798 = .ok (.ifCond .eq 5, 3) := by decide +kernel
theorem d_Law_law_801 : decode M_Law_law.2.1 801 = .ok (.iconst 0, 1) := by decide +kernel
theorem d_Law_law_802 : decode M_Law_law.2.1 802 = .ok (.ireturn, 1) := by decide +kernel
theorem d_Law_law_803 : decode M_Law_law.2.1 803 = .ok (.goto 290, 3) := by decide +kernel
theorem d_Law_law_806 : decode M_Law_law.2.1 806 = .ok (.aload_n 1, 1) := by decide +kernel
theorem d_Law_law_807 : decode M_Law_law.2.1 807 = .ok (.aload_n 0, 1) := by decide +kernel
theorem d_Law_law_808 : decode M_Law_law.2.1 808 = .ok (.iload 4, 2) := by decide +kernel
theorem d_Law_law_810 : decode M_Law_law.2.1 810 = .ok (.iconst 1, 1) := by decide +kernel
theorem d_Law_law_811 : decode M_Law_law.2.1 811 = .ok (.iadd, 1) := by decide +kernel
theorem d_Law_law_812 : decode M_Law_law.2.1 812 = .ok (.iaload, 1) := by decide +kernel
theorem d_Law_law_813 : decode M_Law_law.2.1 813 = .ok (.aload_n 3, 1) := by decide +kernel
theorem d_Law_law_814 : decode M_Law_law.2.1 814 = .ok (.invokestatic 137, 3) := by decide +kernel
theorem d_Law_law_817 : decode M_Law_law.2.1 817 = .ok (.istore 5, 2) := by decide +kernel
theorem d_Law_law_819 : decode M_Law_law.2.1 819 = .ok (.aload_n 2, 1) := by decide +kernel
theorem d_Law_law_820 : decode M_Law_law.2.1 820 = .ok (.aload_n 0, 1) := by decide +kernel
theorem d_Law_law_821 : decode M_Law_law.2.1 821 = .ok (.iload 4, 2) := by decide +kernel
theorem d_Law_law_823 : decode M_Law_law.2.1 823 = .ok (.iconst 1, 1) := by decide +kernel
theorem d_Law_law_824 : decode M_Law_law.2.1 824 = .ok (.iadd, 1) := by decide +kernel
theorem d_Law_law_825 : decode M_Law_law.2.1 825 = .ok (.iaload, 1) := by decide +kernel
theorem d_Law_law_826 : decode M_Law_law.2.1 826 = .ok (.invokevirtual 139, 3) := by decide +kernel
theorem d_Law_law_829 : decode M_Law_law.2.1 829 = .ok (.istore 6, 2) := by decide +kernel
theorem d_Law_law_831 : decode M_Law_law.2.1 831 = .ok (.aload_n 2, 1) := by decide +kernel
theorem d_Law_law_832 : decode M_Law_law.2.1 832 = .ok (.invokevirtual 89, 3) := by decide +kernel
theorem d_Law_law_835 : decode M_Law_law.2.1 835 = .ok (.iload 5, 2) := by decide +kernel
theorem d_Law_law_837 : decode M_Law_law.2.1 837 = .ok (.if_icmp .eq 5, 3) := by decide +kernel
theorem d_Law_law_840 : decode M_Law_law.2.1 840 = .ok (.iconst 0, 1) := by decide +kernel
theorem d_Law_law_841 : decode M_Law_law.2.1 841 = .ok (.ireturn, 1) := by decide +kernel
theorem d_Law_law_842 : decode M_Law_law.2.1 842 = .ok (.iload 5, 2) := by decide +kernel
theorem d_Law_law_844 : decode M_Law_law.2.1 844 = .ok (.ifCond .ne 15, 3) := by decide +kernel
theorem d_Law_law_847 : decode M_Law_law.2.1 847 = .ok (.aload_n 3, 1) := by decide +kernel
theorem d_Law_law_848 : decode M_Law_law.2.1 848 = .ok (.iconst 0, 1) := by decide +kernel
theorem d_Law_law_849 : decode M_Law_law.2.1 849 = .ok (.laload, 1) := by decide +kernel
theorem d_Law_law_850 : decode M_Law_law.2.1 850 = .ok (.iload 6, 2) := by decide +kernel
theorem d_Law_law_852 : decode M_Law_law.2.1 852 = .ok (.i2l, 1) := by decide +kernel
theorem d_Law_law_853 : decode M_Law_law.2.1 853 = .ok (.lcmp, 1) := by decide +kernel
theorem d_Law_law_854 : decode M_Law_law.2.1 854 = .ok (.ifCond .eq 5, 3) := by decide +kernel
theorem d_Law_law_857 : decode M_Law_law.2.1 857 = .ok (.iconst 0, 1) := by decide +kernel
theorem d_Law_law_858 : decode M_Law_law.2.1 858 = .ok (.ireturn, 1) := by decide +kernel
theorem d_Law_law_859 : decode M_Law_law.2.1 859 = .ok (.goto 234, 3) := by decide +kernel
theorem d_Law_law_862 : decode M_Law_law.2.1 862 = .ok (.aload_n 1, 1) := by decide +kernel
theorem d_Law_law_863 : decode M_Law_law.2.1 863 = .ok (.aload_n 0, 1) := by decide +kernel
theorem d_Law_law_864 : decode M_Law_law.2.1 864 = .ok (.iload 4, 2) := by decide +kernel
theorem d_Law_law_866 : decode M_Law_law.2.1 866 = .ok (.iconst 1, 1) := by decide +kernel
theorem d_Law_law_867 : decode M_Law_law.2.1 867 = .ok (.iadd, 1) := by decide +kernel
theorem d_Law_law_868 : decode M_Law_law.2.1 868 = .ok (.iaload, 1) := by decide +kernel
theorem d_Law_law_869 : decode M_Law_law.2.1 869 = .ok (.aload_n 3, 1) := by decide +kernel
theorem d_Law_law_870 : decode M_Law_law.2.1 870 = .ok (.invokestatic 140, 3) := by decide +kernel
theorem d_Law_law_873 : decode M_Law_law.2.1 873 = .ok (.istore 5, 2) := by decide +kernel
theorem d_Law_law_875 : decode M_Law_law.2.1 875 = .ok (.aload_n 2, 1) := by decide +kernel
theorem d_Law_law_876 : decode M_Law_law.2.1 876 = .ok (.aload_n 0, 1) := by decide +kernel
theorem d_Law_law_877 : decode M_Law_law.2.1 877 = .ok (.iload 4, 2) := by decide +kernel
theorem d_Law_law_879 : decode M_Law_law.2.1 879 = .ok (.iconst 1, 1) := by decide +kernel
theorem d_Law_law_880 : decode M_Law_law.2.1 880 = .ok (.iadd, 1) := by decide +kernel
theorem d_Law_law_881 : decode M_Law_law.2.1 881 = .ok (.iaload, 1) := by decide +kernel
theorem d_Law_law_882 : decode M_Law_law.2.1 882 = .ok (.invokevirtual 142, 3) := by decide +kernel
theorem d_Law_law_885 : decode M_Law_law.2.1 885 = .ok (.istore 6, 2) := by decide +kernel
theorem d_Law_law_887 : decode M_Law_law.2.1 887 = .ok (.aload_n 2, 1) := by decide +kernel
theorem d_Law_law_888 : decode M_Law_law.2.1 888 = .ok (.invokevirtual 89, 3) := by decide +kernel
theorem d_Law_law_891 : decode M_Law_law.2.1 891 = .ok (.iload 5, 2) := by decide +kernel
theorem d_Law_law_893 : decode M_Law_law.2.1 893 = .ok (.if_icmp .eq 5, 3) := by decide +kernel
theorem d_Law_law_896 : decode M_Law_law.2.1 896 = .ok (.iconst 0, 1) := by decide +kernel
theorem d_Law_law_897 : decode M_Law_law.2.1 897 = .ok (.ireturn, 1) := by decide +kernel
theorem d_Law_law_898 : decode M_Law_law.2.1 898 = .ok (.iload 5, 2) := by decide +kernel
theorem d_Law_law_900 : decode M_Law_law.2.1 900 = .ok (.ifCond .ne 15, 3) := by decide +kernel
theorem d_Law_law_903 : decode M_Law_law.2.1 903 = .ok (.aload_n 3, 1) := by decide +kernel
theorem d_Law_law_904 : decode M_Law_law.2.1 904 = .ok (.iconst 0, 1) := by decide +kernel
theorem d_Law_law_905 : decode M_Law_law.2.1 905 = .ok (.laload, 1) := by decide +kernel
theorem d_Law_law_906 : decode M_Law_law.2.1 906 = .ok (.iload 6, 2) := by decide +kernel
theorem d_Law_law_908 : decode M_Law_law.2.1 908 = .ok (.i2l, 1) := by decide +kernel
theorem d_Law_law_909 : decode M_Law_law.2.1 909 = .ok (.lcmp, 1) := by decide +kernel
theorem d_Law_law_910 : decode M_Law_law.2.1 910 = .ok (.ifCond .eq 5, 3) := by decide +kernel
theorem d_Law_law_913 : decode M_Law_law.2.1 913 = .ok (.iconst 0, 1) := by decide +kernel
theorem d_Law_law_914 : decode M_Law_law.2.1 914 = .ok (.ireturn, 1) := by decide +kernel
theorem d_Law_law_915 : decode M_Law_law.2.1 915 = .ok (.goto 178, 3) := by decide +kernel
theorem d_Law_law_918 : decode M_Law_law.2.1 918 = .ok (.aload_n 1, 1) := by decide +kernel
theorem d_Law_law_919 : decode M_Law_law.2.1 919 = .ok (.aload_n 0, 1) := by decide +kernel
theorem d_Law_law_920 : decode M_Law_law.2.1 920 = .ok (.iload 4, 2) := by decide +kernel
theorem d_Law_law_922 : decode M_Law_law.2.1 922 = .ok (.iconst 1, 1) := by decide +kernel
theorem d_Law_law_923 : decode M_Law_law.2.1 923 = .ok (.iadd, 1) := by decide +kernel
theorem d_Law_law_924 : decode M_Law_law.2.1 924 = .ok (.iaload, 1) := by decide +kernel
theorem d_Law_law_925 : decode M_Law_law.2.1 925 = .ok (.aload_n 3, 1) := by decide +kernel
theorem d_Law_law_926 : decode M_Law_law.2.1 926 = .ok (.invokestatic 143, 3) := by decide +kernel
theorem d_Law_law_929 : decode M_Law_law.2.1 929 = .ok (.istore 5, 2) := by decide +kernel
theorem d_Law_law_931 : decode M_Law_law.2.1 931 = .ok (.aload_n 2, 1) := by decide +kernel
theorem d_Law_law_932 : decode M_Law_law.2.1 932 = .ok (.aload_n 0, 1) := by decide +kernel
theorem d_Law_law_933 : decode M_Law_law.2.1 933 = .ok (.iload 4, 2) := by decide +kernel
theorem d_Law_law_935 : decode M_Law_law.2.1 935 = .ok (.iconst 1, 1) := by decide +kernel
theorem d_Law_law_936 : decode M_Law_law.2.1 936 = .ok (.iadd, 1) := by decide +kernel
theorem d_Law_law_937 : decode M_Law_law.2.1 937 = .ok (.iaload, 1) := by decide +kernel
theorem d_Law_law_938 : decode M_Law_law.2.1 938 = .ok (.invokevirtual 145, 3) := by decide +kernel
theorem d_Law_law_941 : decode M_Law_law.2.1 941 = .ok (.istore 6, 2) := by decide +kernel
theorem d_Law_law_943 : decode M_Law_law.2.1 943 = .ok (.aload_n 2, 1) := by decide +kernel
theorem d_Law_law_944 : decode M_Law_law.2.1 944 = .ok (.invokevirtual 89, 3) := by decide +kernel
theorem d_Law_law_947 : decode M_Law_law.2.1 947 = .ok (.iload 5, 2) := by decide +kernel
theorem d_Law_law_949 : decode M_Law_law.2.1 949 = .ok (.if_icmp .eq 5, 3) := by decide +kernel
theorem d_Law_law_952 : decode M_Law_law.2.1 952 = .ok (.iconst 0, 1) := by decide +kernel
theorem d_Law_law_953 : decode M_Law_law.2.1 953 = .ok (.ireturn, 1) := by decide +kernel
theorem d_Law_law_954 : decode M_Law_law.2.1 954 = .ok (.iload 5, 2) := by decide +kernel
theorem d_Law_law_956 : decode M_Law_law.2.1 956 = .ok (.ifCond .ne 22, 3) := by decide +kernel
theorem d_Law_law_959 : decode M_Law_law.2.1 959 = .ok (.aload_n 3, 1) := by decide +kernel
theorem d_Law_law_960 : decode M_Law_law.2.1 960 = .ok (.iconst 0, 1) := by decide +kernel
theorem d_Law_law_961 : decode M_Law_law.2.1 961 = .ok (.laload, 1) := by decide +kernel
theorem d_Law_law_962 : decode M_Law_law.2.1 962 = .ok (.iload 6, 2) := by decide +kernel
theorem d_Law_law_964 : decode M_Law_law.2.1 964 = .ok (.ifCond .eq 7, 3) := by decide +kernel
theorem d_Law_law_967 : decode M_Law_law.2.1 967 = .ok (.lconst 1, 1) := by decide +kernel
theorem d_Law_law_968 : decode M_Law_law.2.1 968 = .ok (.goto 4, 3) := by decide +kernel
theorem d_Law_law_971 : decode M_Law_law.2.1 971 = .ok (.lconst 0, 1) := by decide +kernel
theorem d_Law_law_972 : decode M_Law_law.2.1 972 = .ok (.lcmp, 1) := by decide +kernel
theorem d_Law_law_973 : decode M_Law_law.2.1 973 = .ok (.ifCond .eq 5, 3) := by decide +kernel
theorem d_Law_law_976 : decode M_Law_law.2.1 976 = .ok (.iconst 0, 1) := by decide +kernel
theorem d_Law_law_977 : decode M_Law_law.2.1 977 = .ok (.ireturn, 1) := by decide +kernel
theorem d_Law_law_978 : decode M_Law_law.2.1 978 = .ok (.goto 115, 3) := by decide +kernel
theorem d_Law_law_981 : decode M_Law_law.2.1 981 = .ok (.aload_n 1, 1) := by decide +kernel
theorem d_Law_law_982 : decode M_Law_law.2.1 982 = .ok (.aload_n 0, 1) := by decide +kernel
theorem d_Law_law_983 : decode M_Law_law.2.1 983 = .ok (.iload 4, 2) := by decide +kernel
theorem d_Law_law_985 : decode M_Law_law.2.1 985 = .ok (.iconst 1, 1) := by decide +kernel
theorem d_Law_law_986 : decode M_Law_law.2.1 986 = .ok (.iadd, 1) := by decide +kernel
theorem d_Law_law_987 : decode M_Law_law.2.1 987 = .ok (.iaload, 1) := by decide +kernel
theorem d_Law_law_988 : decode M_Law_law.2.1 988 = .ok (.aload_n 3, 1) := by decide +kernel
theorem d_Law_law_989 : decode M_Law_law.2.1 989 = .ok (.invokestatic 146, 3) := by decide +kernel
theorem d_Law_law_992 : decode M_Law_law.2.1 992 = .ok (.istore 5, 2) := by decide +kernel
theorem d_Law_law_994 : decode M_Law_law.2.1 994 = .ok (.aload_n 2, 1) := by decide +kernel
theorem d_Law_law_995 : decode M_Law_law.2.1 995 = .ok (.aload_n 0, 1) := by decide +kernel
theorem d_Law_law_996 : decode M_Law_law.2.1 996 = .ok (.iload 4, 2) := by decide +kernel
theorem d_Law_law_998 : decode M_Law_law.2.1 998 = .ok (.iconst 1, 1) := by decide +kernel
theorem d_Law_law_999 : decode M_Law_law.2.1 999 = .ok (.iadd, 1) := by decide +kernel
theorem d_Law_law_1000 : decode M_Law_law.2.1 1000 = .ok (.iaload, 1) := by decide +kernel
theorem d_Law_law_1001 : decode M_Law_law.2.1 1001 = .ok (.invokevirtual 148, 3) := by decide +kernel
theorem d_Law_law_1004 : decode M_Law_law.2.1 1004 = .ok (.istore 6, 2) := by decide +kernel
theorem d_Law_law_1006 : decode M_Law_law.2.1 1006 = .ok (.aload_n 2, 1) := by decide +kernel
theorem d_Law_law_1007 : decode M_Law_law.2.1 1007 = .ok (.invokevirtual 89, 3) := by decide +kernel
theorem d_Law_law_1010 : decode M_Law_law.2.1 1010 = .ok (.iload 5, 2) := by decide +kernel
theorem d_Law_law_1012 : decode M_Law_law.2.1 1012 = .ok (.if_icmp .eq 5, 3) := by decide +kernel
theorem d_Law_law_1015 : decode M_Law_law.2.1 1015 = .ok (.iconst 0, 1) := by decide +kernel
theorem d_Law_law_1016 : decode M_Law_law.2.1 1016 = .ok (.ireturn, 1) := by decide +kernel
theorem d_Law_law_1017 : decode M_Law_law.2.1 1017 = .ok (.iload 5, 2) := by decide +kernel
theorem d_Law_law_1019 : decode M_Law_law.2.1 1019 = .ok (.ifCond .ne 15, 3) := by decide +kernel
theorem d_Law_law_1022 : decode M_Law_law.2.1 1022 = .ok (.aload_n 3, 1) := by decide +kernel
theorem d_Law_law_1023 : decode M_Law_law.2.1 1023 = .ok (.iconst 0, 1) := by decide +kernel
theorem d_Law_law_1024 : decode M_Law_law.2.1 1024 = .ok (.laload, 1) := by decide +kernel
theorem d_Law_law_1025 : decode M_Law_law.2.1 1025 = .ok (.iload 6, 2) := by decide +kernel
theorem d_Law_law_1027 : decode M_Law_law.2.1 1027 = .ok (.i2l, 1) := by decide +kernel
theorem d_Law_law_1028 : decode M_Law_law.2.1 1028 = .ok (.lcmp, 1) := by decide +kernel
theorem d_Law_law_1029 : decode M_Law_law.2.1 1029 = .ok (.ifCond .eq 5, 3) := by decide +kernel
theorem d_Law_law_1032 : decode M_Law_law.2.1 1032 = .ok (.iconst 0, 1) := by decide +kernel
theorem d_Law_law_1033 : decode M_Law_law.2.1 1033 = .ok (.ireturn, 1) := by decide +kernel
theorem d_Law_law_1034 : decode M_Law_law.2.1 1034 = .ok (.goto 59, 3) := by decide +kernel
theorem d_Law_law_1037 : decode M_Law_law.2.1 1037 = .ok (.aload_n 1, 1) := by decide +kernel
theorem d_Law_law_1038 : decode M_Law_law.2.1 1038 = .ok (.aload_n 0, 1) := by decide +kernel
theorem d_Law_law_1039 : decode M_Law_law.2.1 1039 = .ok (.iload 4, 2) := by decide +kernel
theorem d_Law_law_1041 : decode M_Law_law.2.1 1041 = .ok (.iconst 1, 1) := by decide +kernel
theorem d_Law_law_1042 : decode M_Law_law.2.1 1042 = .ok (.iadd, 1) := by decide +kernel
theorem d_Law_law_1043 : decode M_Law_law.2.1 1043 = .ok (.iaload, 1) := by decide +kernel
theorem d_Law_law_1044 : decode M_Law_law.2.1 1044 = .ok (.aload_n 3, 1) := by decide +kernel
theorem d_Law_law_1045 : decode M_Law_law.2.1 1045 = .ok (.invokestatic 149, 3) := by decide +kernel
theorem d_Law_law_1048 : decode M_Law_law.2.1 1048 = .ok (.istore 5, 2) := by decide +kernel
theorem d_Law_law_1050 : decode M_Law_law.2.1 1050 = .ok (.aload_n 2, 1) := by decide +kernel
theorem d_Law_law_1051 : decode M_Law_law.2.1 1051 = .ok (.aload_n 0, 1) := by decide +kernel
theorem d_Law_law_1052 : decode M_Law_law.2.1 1052 = .ok (.iload 4, 2) := by decide +kernel
theorem d_Law_law_1054 : decode M_Law_law.2.1 1054 = .ok (.iconst 1, 1) := by decide +kernel
theorem d_Law_law_1055 : decode M_Law_law.2.1 1055 = .ok (.iadd, 1) := by decide +kernel
theorem d_Law_law_1056 : decode M_Law_law.2.1 1056 = .ok (.iaload, 1) := by decide +kernel
theorem d_Law_law_1057 : decode M_Law_law.2.1 1057 = .ok (.invokevirtual 151, 3) := by decide +kernel
theorem d_Law_law_1060 : decode M_Law_law.2.1 1060 = .ok (.istore 6, 2) := by decide +kernel
theorem d_Law_law_1062 : decode M_Law_law.2.1 1062 = .ok (.aload_n 2, 1) := by decide +kernel
theorem d_Law_law_1063 : decode M_Law_law.2.1 1063 = .ok (.invokevirtual 89, 3) := by decide +kernel
theorem d_Law_law_1066 : decode M_Law_law.2.1 1066 = .ok (.iload 5, 2) := by decide +kernel
theorem d_Law_law_1068 : decode M_Law_law.2.1 1068 = .ok (.if_icmp .eq 5, 3) := by decide +kernel
theorem d_Law_law_1071 : decode M_Law_law.2.1 1071 = .ok (.iconst 0, 1) := by decide +kernel
theorem d_Law_law_1072 : decode M_Law_law.2.1 1072 = .ok (.ireturn, 1) := by decide +kernel
theorem d_Law_law_1073 : decode M_Law_law.2.1 1073 = .ok (.iload 5, 2) := by decide +kernel
theorem d_Law_law_1075 : decode M_Law_law.2.1 1075 = .ok (.ifCond .ne 15, 3) := by decide +kernel
theorem d_Law_law_1078 : decode M_Law_law.2.1 1078 = .ok (.aload_n 3, 1) := by decide +kernel
theorem d_Law_law_1079 : decode M_Law_law.2.1 1079 = .ok (.iconst 0, 1) := by decide +kernel
theorem d_Law_law_1080 : decode M_Law_law.2.1 1080 = .ok (.laload, 1) := by decide +kernel
theorem d_Law_law_1081 : decode M_Law_law.2.1 1081 = .ok (.iload 6, 2) := by decide +kernel
theorem d_Law_law_1083 : decode M_Law_law.2.1 1083 = .ok (.i2l, 1) := by decide +kernel
theorem d_Law_law_1084 : decode M_Law_law.2.1 1084 = .ok (.lcmp, 1) := by decide +kernel
theorem d_Law_law_1085 : decode M_Law_law.2.1 1085 = .ok (.ifCond .eq 5, 3) := by decide +kernel
theorem d_Law_law_1088 : decode M_Law_law.2.1 1088 = .ok (.iconst 0, 1) := by decide +kernel
theorem d_Law_law_1089 : decode M_Law_law.2.1 1089 = .ok (.ireturn, 1) := by decide +kernel
theorem d_Law_law_1090 : decode M_Law_law.2.1 1090 = .ok (.goto 3, 3) := by decide +kernel
theorem d_Law_law_1093 : decode M_Law_law.2.1 1093 = .ok (.iinc 4 3, 3) := by decide +kernel
theorem d_Law_law_1096 : decode M_Law_law.2.1 1096 = .ok (.goto (-1063), 3) := by decide +kernel
theorem d_Law_law_1099 : decode M_Law_law.2.1 1099 = .ok (.iconst 1, 1) := by decide +kernel
theorem d_Law_law_1100 : decode M_Law_law.2.1 1100 = .ok (.ireturn, 1) := by decide +kernel
