/-! the law: its cases and its loop; printed by wip/whole/gen/law.py -/
theorem dd_law_0 : decode code 0 = .ok (.new 7, 3) := by decide +kernel
theorem dd_law_3 : decode code 3 = .ok (.dup, 1) := by decide +kernel
theorem dd_law_4 : decode code 4 = .ok (.invokespecial 9, 3) := by decide +kernel
theorem dd_law_7 : decode code 7 = .ok (.astore_n 1, 1) := by decide +kernel
theorem dd_law_8 : decode code 8 = .ok (.new 10, 3) := by decide +kernel
theorem dd_law_11 : decode code 11 = .ok (.dup, 1) := by decide +kernel
theorem dd_law_12 : decode code 12 = .ok (.invokespecial 12, 3) := by decide +kernel
theorem dd_law_15 : decode code 15 = .ok (.astore_n 2, 1) := by decide +kernel
theorem dd_law_16 : decode code 16 = .ok (.iconst 0, 1) := by decide +kernel
theorem dd_law_17 : decode code 17 = .ok (.istore_n 3, 1) := by decide +kernel
theorem dd_law_18 : decode code 18 = .ok (.iload_n 3, 1) := by decide +kernel
theorem dd_law_19 : decode code 19 = .ok (.aload_n 0, 1) := by decide +kernel
theorem dd_law_20 : decode code 20 = .ok (.arraylength, 1) := by decide +kernel
theorem dd_law_21 : decode code 21 = .ok (.iconst 5, 1) := by decide +kernel
theorem dd_law_22 : decode code 22 = .ok (.isub, 1) := by decide +kernel
theorem dd_law_23 : decode code 23 = .ok (.if_icmp .gt (450), 3) := by decide +kernel
theorem dd_law_26 : decode code 26 = .ok (.aload_n 0, 1) := by decide +kernel
theorem dd_law_27 : decode code 27 = .ok (.iload_n 3, 1) := by decide +kernel
theorem dd_law_28 : decode code 28 = .ok (.iaload, 1) := by decide +kernel
theorem dd_law_29 : decode code 29 = .ok (.bipush 31, 2) := by decide +kernel
theorem dd_law_31 : decode code 31 = .ok (.iand, 1) := by decide +kernel
theorem dd_law_32 : decode code 32 = .ok (.tableswitch (435) (0) (16) #[84, 97, 120, 173, 186, 199, 222, 235, 258, 291, 304, 327, 340, 353, 366, 379, 412], 84) := by decide +kernel
theorem dd_law_116 : decode code 116 = .ok (.aload_n 1, 1) := by decide +kernel
theorem dd_law_117 : decode code 117 = .ok (.invokevirtual 13, 3) := by decide +kernel
theorem dd_law_120 : decode code 120 = .ok (.aload_n 2, 1) := by decide +kernel
theorem dd_law_121 : decode code 121 = .ok (.invokevirtual 17, 3) := by decide +kernel
theorem dd_law_124 : decode code 124 = .ok (.if_icmp .eq (343), 3) := by decide +kernel
theorem dd_law_127 : decode code 127 = .ok (.iconst 0, 1) := by decide +kernel
theorem dd_law_128 : decode code 128 = .ok (.ireturn, 1) := by decide +kernel
theorem dd_law_129 : decode code 129 = .ok (.aload_n 1, 1) := by decide +kernel
theorem dd_law_130 : decode code 130 = .ok (.aload_n 0, 1) := by decide +kernel
theorem dd_law_131 : decode code 131 = .ok (.iload_n 3, 1) := by decide +kernel
theorem dd_law_132 : decode code 132 = .ok (.iconst 1, 1) := by decide +kernel
theorem dd_law_133 : decode code 133 = .ok (.iadd, 1) := by decide +kernel
theorem dd_law_134 : decode code 134 = .ok (.iaload, 1) := by decide +kernel
theorem dd_law_135 : decode code 135 = .ok (.invokevirtual 18, 3) := by decide +kernel
theorem dd_law_138 : decode code 138 = .ok (.aload_n 2, 1) := by decide +kernel
theorem dd_law_139 : decode code 139 = .ok (.aload_n 0, 1) := by decide +kernel
theorem dd_law_140 : decode code 140 = .ok (.iload_n 3, 1) := by decide +kernel
theorem dd_law_141 : decode code 141 = .ok (.iconst 1, 1) := by decide +kernel
theorem dd_law_142 : decode code 142 = .ok (.iadd, 1) := by decide +kernel
theorem dd_law_143 : decode code 143 = .ok (.iaload, 1) := by decide +kernel
theorem dd_law_144 : decode code 144 = .ok (.invokevirtual 22, 3) := by decide +kernel
theorem dd_law_147 : decode code 147 = .ok (.if_icmp .eq (320), 3) := by decide +kernel
theorem dd_law_150 : decode code 150 = .ok (.iconst 0, 1) := by decide +kernel
theorem dd_law_151 : decode code 151 = .ok (.ireturn, 1) := by decide +kernel
theorem dd_law_152 : decode code 152 = .ok (.aload_n 1, 1) := by decide +kernel
theorem dd_law_153 : decode code 153 = .ok (.aload_n 0, 1) := by decide +kernel
theorem dd_law_154 : decode code 154 = .ok (.iload_n 3, 1) := by decide +kernel
theorem dd_law_155 : decode code 155 = .ok (.iconst 1, 1) := by decide +kernel
theorem dd_law_156 : decode code 156 = .ok (.iadd, 1) := by decide +kernel
theorem dd_law_157 : decode code 157 = .ok (.iaload, 1) := by decide +kernel
theorem dd_law_158 : decode code 158 = .ok (.aload_n 0, 1) := by decide +kernel
theorem dd_law_159 : decode code 159 = .ok (.iload_n 3, 1) := by decide +kernel
theorem dd_law_160 : decode code 160 = .ok (.iconst 2, 1) := by decide +kernel
theorem dd_law_161 : decode code 161 = .ok (.iadd, 1) := by decide +kernel
theorem dd_law_162 : decode code 162 = .ok (.iaload, 1) := by decide +kernel
theorem dd_law_163 : decode code 163 = .ok (.aload_n 0, 1) := by decide +kernel
theorem dd_law_164 : decode code 164 = .ok (.iload_n 3, 1) := by decide +kernel
theorem dd_law_165 : decode code 165 = .ok (.iconst 3, 1) := by decide +kernel
theorem dd_law_166 : decode code 166 = .ok (.iadd, 1) := by decide +kernel
theorem dd_law_167 : decode code 167 = .ok (.iaload, 1) := by decide +kernel
theorem dd_law_168 : decode code 168 = .ok (.aload_n 0, 1) := by decide +kernel
theorem dd_law_169 : decode code 169 = .ok (.iload_n 3, 1) := by decide +kernel
theorem dd_law_170 : decode code 170 = .ok (.iconst 4, 1) := by decide +kernel
theorem dd_law_171 : decode code 171 = .ok (.iadd, 1) := by decide +kernel
theorem dd_law_172 : decode code 172 = .ok (.iaload, 1) := by decide +kernel
theorem dd_law_173 : decode code 173 = .ok (.invokevirtual 23, 3) := by decide +kernel
theorem dd_law_176 : decode code 176 = .ok (.aload_n 2, 1) := by decide +kernel
theorem dd_law_177 : decode code 177 = .ok (.aload_n 0, 1) := by decide +kernel
theorem dd_law_178 : decode code 178 = .ok (.iload_n 3, 1) := by decide +kernel
theorem dd_law_179 : decode code 179 = .ok (.iconst 1, 1) := by decide +kernel
theorem dd_law_180 : decode code 180 = .ok (.iadd, 1) := by decide +kernel
theorem dd_law_181 : decode code 181 = .ok (.iaload, 1) := by decide +kernel
theorem dd_law_182 : decode code 182 = .ok (.aload_n 0, 1) := by decide +kernel
theorem dd_law_183 : decode code 183 = .ok (.iload_n 3, 1) := by decide +kernel
theorem dd_law_184 : decode code 184 = .ok (.iconst 2, 1) := by decide +kernel
theorem dd_law_185 : decode code 185 = .ok (.iadd, 1) := by decide +kernel
theorem dd_law_186 : decode code 186 = .ok (.iaload, 1) := by decide +kernel
theorem dd_law_187 : decode code 187 = .ok (.aload_n 0, 1) := by decide +kernel
theorem dd_law_188 : decode code 188 = .ok (.iload_n 3, 1) := by decide +kernel
theorem dd_law_189 : decode code 189 = .ok (.iconst 3, 1) := by decide +kernel
theorem dd_law_190 : decode code 190 = .ok (.iadd, 1) := by decide +kernel
theorem dd_law_191 : decode code 191 = .ok (.iaload, 1) := by decide +kernel
theorem dd_law_192 : decode code 192 = .ok (.aload_n 0, 1) := by decide +kernel
theorem dd_law_193 : decode code 193 = .ok (.iload_n 3, 1) := by decide +kernel
theorem dd_law_194 : decode code 194 = .ok (.iconst 4, 1) := by decide +kernel
theorem dd_law_195 : decode code 195 = .ok (.iadd, 1) := by decide +kernel
theorem dd_law_196 : decode code 196 = .ok (.iaload, 1) := by decide +kernel
theorem dd_law_197 : decode code 197 = .ok (.invokevirtual 27, 3) := by decide +kernel
theorem dd_law_200 : decode code 200 = .ok (.if_icmp .eq (267), 3) := by decide +kernel
theorem dd_law_203 : decode code 203 = .ok (.iconst 0, 1) := by decide +kernel
theorem dd_law_204 : decode code 204 = .ok (.ireturn, 1) := by decide +kernel
theorem dd_law_205 : decode code 205 = .ok (.aload_n 1, 1) := by decide +kernel
theorem dd_law_206 : decode code 206 = .ok (.invokevirtual 28, 3) := by decide +kernel
theorem dd_law_209 : decode code 209 = .ok (.aload_n 2, 1) := by decide +kernel
theorem dd_law_210 : decode code 210 = .ok (.invokevirtual 31, 3) := by decide +kernel
theorem dd_law_213 : decode code 213 = .ok (.if_icmp .eq (254), 3) := by decide +kernel
theorem dd_law_216 : decode code 216 = .ok (.iconst 0, 1) := by decide +kernel
theorem dd_law_217 : decode code 217 = .ok (.ireturn, 1) := by decide +kernel
theorem dd_law_218 : decode code 218 = .ok (.aload_n 1, 1) := by decide +kernel
theorem dd_law_219 : decode code 219 = .ok (.invokevirtual 32, 3) := by decide +kernel
theorem dd_law_222 : decode code 222 = .ok (.aload_n 2, 1) := by decide +kernel
theorem dd_law_223 : decode code 223 = .ok (.invokevirtual 35, 3) := by decide +kernel
theorem dd_law_226 : decode code 226 = .ok (.if_icmp .eq (241), 3) := by decide +kernel
theorem dd_law_229 : decode code 229 = .ok (.iconst 0, 1) := by decide +kernel
theorem dd_law_230 : decode code 230 = .ok (.ireturn, 1) := by decide +kernel
theorem dd_law_231 : decode code 231 = .ok (.aload_n 1, 1) := by decide +kernel
theorem dd_law_232 : decode code 232 = .ok (.aload_n 0, 1) := by decide +kernel
theorem dd_law_233 : decode code 233 = .ok (.iload_n 3, 1) := by decide +kernel
theorem dd_law_234 : decode code 234 = .ok (.iconst 1, 1) := by decide +kernel
theorem dd_law_235 : decode code 235 = .ok (.iadd, 1) := by decide +kernel
theorem dd_law_236 : decode code 236 = .ok (.iaload, 1) := by decide +kernel
theorem dd_law_237 : decode code 237 = .ok (.invokevirtual 36, 3) := by decide +kernel
theorem dd_law_240 : decode code 240 = .ok (.aload_n 2, 1) := by decide +kernel
theorem dd_law_241 : decode code 241 = .ok (.aload_n 0, 1) := by decide +kernel
theorem dd_law_242 : decode code 242 = .ok (.iload_n 3, 1) := by decide +kernel
theorem dd_law_243 : decode code 243 = .ok (.iconst 1, 1) := by decide +kernel
theorem dd_law_244 : decode code 244 = .ok (.iadd, 1) := by decide +kernel
theorem dd_law_245 : decode code 245 = .ok (.iaload, 1) := by decide +kernel
theorem dd_law_246 : decode code 246 = .ok (.invokevirtual 39, 3) := by decide +kernel
theorem dd_law_249 : decode code 249 = .ok (.if_icmp .eq (218), 3) := by decide +kernel
theorem dd_law_252 : decode code 252 = .ok (.iconst 0, 1) := by decide +kernel
theorem dd_law_253 : decode code 253 = .ok (.ireturn, 1) := by decide +kernel
theorem dd_law_254 : decode code 254 = .ok (.aload_n 1, 1) := by decide +kernel
theorem dd_law_255 : decode code 255 = .ok (.invokevirtual 40, 3) := by decide +kernel
theorem dd_law_258 : decode code 258 = .ok (.aload_n 2, 1) := by decide +kernel
theorem dd_law_259 : decode code 259 = .ok (.invokevirtual 43, 3) := by decide +kernel
theorem dd_law_262 : decode code 262 = .ok (.if_icmp .eq (205), 3) := by decide +kernel
theorem dd_law_265 : decode code 265 = .ok (.iconst 0, 1) := by decide +kernel
theorem dd_law_266 : decode code 266 = .ok (.ireturn, 1) := by decide +kernel
theorem dd_law_267 : decode code 267 = .ok (.aload_n 1, 1) := by decide +kernel
theorem dd_law_268 : decode code 268 = .ok (.aload_n 0, 1) := by decide +kernel
theorem dd_law_269 : decode code 269 = .ok (.iload_n 3, 1) := by decide +kernel
theorem dd_law_270 : decode code 270 = .ok (.iconst 1, 1) := by decide +kernel
theorem dd_law_271 : decode code 271 = .ok (.iadd, 1) := by decide +kernel
theorem dd_law_272 : decode code 272 = .ok (.iaload, 1) := by decide +kernel
theorem dd_law_273 : decode code 273 = .ok (.invokevirtual 44, 3) := by decide +kernel
theorem dd_law_276 : decode code 276 = .ok (.aload_n 2, 1) := by decide +kernel
theorem dd_law_277 : decode code 277 = .ok (.aload_n 0, 1) := by decide +kernel
theorem dd_law_278 : decode code 278 = .ok (.iload_n 3, 1) := by decide +kernel
theorem dd_law_279 : decode code 279 = .ok (.iconst 1, 1) := by decide +kernel
theorem dd_law_280 : decode code 280 = .ok (.iadd, 1) := by decide +kernel
theorem dd_law_281 : decode code 281 = .ok (.iaload, 1) := by decide +kernel
theorem dd_law_282 : decode code 282 = .ok (.invokevirtual 47, 3) := by decide +kernel
theorem dd_law_285 : decode code 285 = .ok (.if_icmp .eq (182), 3) := by decide +kernel
theorem dd_law_288 : decode code 288 = .ok (.iconst 0, 1) := by decide +kernel
theorem dd_law_289 : decode code 289 = .ok (.ireturn, 1) := by decide +kernel
theorem dd_law_290 : decode code 290 = .ok (.aload_n 1, 1) := by decide +kernel
theorem dd_law_291 : decode code 291 = .ok (.aload_n 0, 1) := by decide +kernel
theorem dd_law_292 : decode code 292 = .ok (.iload_n 3, 1) := by decide +kernel
theorem dd_law_293 : decode code 293 = .ok (.iconst 1, 1) := by decide +kernel
theorem dd_law_294 : decode code 294 = .ok (.iadd, 1) := by decide +kernel
theorem dd_law_295 : decode code 295 = .ok (.iaload, 1) := by decide +kernel
theorem dd_law_296 : decode code 296 = .ok (.aload_n 0, 1) := by decide +kernel
theorem dd_law_297 : decode code 297 = .ok (.iload_n 3, 1) := by decide +kernel
theorem dd_law_298 : decode code 298 = .ok (.iconst 2, 1) := by decide +kernel
theorem dd_law_299 : decode code 299 = .ok (.iadd, 1) := by decide +kernel
theorem dd_law_300 : decode code 300 = .ok (.iaload, 1) := by decide +kernel
theorem dd_law_301 : decode code 301 = .ok (.invokevirtual 48, 3) := by decide +kernel
theorem dd_law_304 : decode code 304 = .ok (.aload_n 2, 1) := by decide +kernel
theorem dd_law_305 : decode code 305 = .ok (.aload_n 0, 1) := by decide +kernel
theorem dd_law_306 : decode code 306 = .ok (.iload_n 3, 1) := by decide +kernel
theorem dd_law_307 : decode code 307 = .ok (.iconst 1, 1) := by decide +kernel
theorem dd_law_308 : decode code 308 = .ok (.iadd, 1) := by decide +kernel
theorem dd_law_309 : decode code 309 = .ok (.iaload, 1) := by decide +kernel
theorem dd_law_310 : decode code 310 = .ok (.aload_n 0, 1) := by decide +kernel
theorem dd_law_311 : decode code 311 = .ok (.iload_n 3, 1) := by decide +kernel
theorem dd_law_312 : decode code 312 = .ok (.iconst 2, 1) := by decide +kernel
theorem dd_law_313 : decode code 313 = .ok (.iadd, 1) := by decide +kernel
theorem dd_law_314 : decode code 314 = .ok (.iaload, 1) := by decide +kernel
theorem dd_law_315 : decode code 315 = .ok (.invokevirtual 52, 3) := by decide +kernel
theorem dd_law_318 : decode code 318 = .ok (.if_icmp .eq (149), 3) := by decide +kernel
theorem dd_law_321 : decode code 321 = .ok (.iconst 0, 1) := by decide +kernel
theorem dd_law_322 : decode code 322 = .ok (.ireturn, 1) := by decide +kernel
theorem dd_law_323 : decode code 323 = .ok (.aload_n 1, 1) := by decide +kernel
theorem dd_law_324 : decode code 324 = .ok (.invokevirtual 53, 3) := by decide +kernel
theorem dd_law_327 : decode code 327 = .ok (.aload_n 2, 1) := by decide +kernel
theorem dd_law_328 : decode code 328 = .ok (.invokevirtual 57, 3) := by decide +kernel
theorem dd_law_331 : decode code 331 = .ok (.if_icmp .eq (136), 3) := by decide +kernel
theorem dd_law_334 : decode code 334 = .ok (.iconst 0, 1) := by decide +kernel
theorem dd_law_335 : decode code 335 = .ok (.ireturn, 1) := by decide +kernel
theorem dd_law_336 : decode code 336 = .ok (.aload_n 1, 1) := by decide +kernel
theorem dd_law_337 : decode code 337 = .ok (.aload_n 0, 1) := by decide +kernel
theorem dd_law_338 : decode code 338 = .ok (.iload_n 3, 1) := by decide +kernel
theorem dd_law_339 : decode code 339 = .ok (.iconst 1, 1) := by decide +kernel
theorem dd_law_340 : decode code 340 = .ok (.iadd, 1) := by decide +kernel
theorem dd_law_341 : decode code 341 = .ok (.iaload, 1) := by decide +kernel
theorem dd_law_342 : decode code 342 = .ok (.invokevirtual 58, 3) := by decide +kernel
theorem dd_law_345 : decode code 345 = .ok (.aload_n 2, 1) := by decide +kernel
theorem dd_law_346 : decode code 346 = .ok (.aload_n 0, 1) := by decide +kernel
theorem dd_law_347 : decode code 347 = .ok (.iload_n 3, 1) := by decide +kernel
theorem dd_law_348 : decode code 348 = .ok (.iconst 1, 1) := by decide +kernel
theorem dd_law_349 : decode code 349 = .ok (.iadd, 1) := by decide +kernel
theorem dd_law_350 : decode code 350 = .ok (.iaload, 1) := by decide +kernel
theorem dd_law_351 : decode code 351 = .ok (.invokevirtual 61, 3) := by decide +kernel
theorem dd_law_354 : decode code 354 = .ok (.if_icmp .eq (113), 3) := by decide +kernel
theorem dd_law_357 : decode code 357 = .ok (.iconst 0, 1) := by decide +kernel
theorem dd_law_358 : decode code 358 = .ok (.ireturn, 1) := by decide +kernel
theorem dd_law_359 : decode code 359 = .ok (.aload_n 1, 1) := by decide +kernel
theorem dd_law_360 : decode code 360 = .ok (.invokevirtual 62, 3) := by decide +kernel
theorem dd_law_363 : decode code 363 = .ok (.aload_n 2, 1) := by decide +kernel
theorem dd_law_364 : decode code 364 = .ok (.invokevirtual 65, 3) := by decide +kernel
theorem dd_law_367 : decode code 367 = .ok (.if_icmp .eq (100), 3) := by decide +kernel
theorem dd_law_370 : decode code 370 = .ok (.iconst 0, 1) := by decide +kernel
theorem dd_law_371 : decode code 371 = .ok (.ireturn, 1) := by decide +kernel
theorem dd_law_372 : decode code 372 = .ok (.aload_n 1, 1) := by decide +kernel
theorem dd_law_373 : decode code 373 = .ok (.invokevirtual 66, 3) := by decide +kernel
theorem dd_law_376 : decode code 376 = .ok (.aload_n 2, 1) := by decide +kernel
theorem dd_law_377 : decode code 377 = .ok (.invokevirtual 69, 3) := by decide +kernel
theorem dd_law_380 : decode code 380 = .ok (.if_icmp .eq (87), 3) := by decide +kernel
theorem dd_law_383 : decode code 383 = .ok (.iconst 0, 1) := by decide +kernel
theorem dd_law_384 : decode code 384 = .ok (.ireturn, 1) := by decide +kernel
theorem dd_law_385 : decode code 385 = .ok (.aload_n 1, 1) := by decide +kernel
theorem dd_law_386 : decode code 386 = .ok (.invokevirtual 70, 3) := by decide +kernel
theorem dd_law_389 : decode code 389 = .ok (.aload_n 2, 1) := by decide +kernel
theorem dd_law_390 : decode code 390 = .ok (.invokevirtual 73, 3) := by decide +kernel
theorem dd_law_393 : decode code 393 = .ok (.if_icmp .eq (74), 3) := by decide +kernel
theorem dd_law_396 : decode code 396 = .ok (.iconst 0, 1) := by decide +kernel
theorem dd_law_397 : decode code 397 = .ok (.ireturn, 1) := by decide +kernel
theorem dd_law_398 : decode code 398 = .ok (.aload_n 1, 1) := by decide +kernel
theorem dd_law_399 : decode code 399 = .ok (.invokevirtual 74, 3) := by decide +kernel
theorem dd_law_402 : decode code 402 = .ok (.aload_n 2, 1) := by decide +kernel
theorem dd_law_403 : decode code 403 = .ok (.invokevirtual 77, 3) := by decide +kernel
theorem dd_law_406 : decode code 406 = .ok (.if_icmp .eq (61), 3) := by decide +kernel
theorem dd_law_409 : decode code 409 = .ok (.iconst 0, 1) := by decide +kernel
theorem dd_law_410 : decode code 410 = .ok (.ireturn, 1) := by decide +kernel
theorem dd_law_411 : decode code 411 = .ok (.aload_n 1, 1) := by decide +kernel
theorem dd_law_412 : decode code 412 = .ok (.aload_n 0, 1) := by decide +kernel
theorem dd_law_413 : decode code 413 = .ok (.iload_n 3, 1) := by decide +kernel
theorem dd_law_414 : decode code 414 = .ok (.iconst 1, 1) := by decide +kernel
theorem dd_law_415 : decode code 415 = .ok (.iadd, 1) := by decide +kernel
theorem dd_law_416 : decode code 416 = .ok (.iaload, 1) := by decide +kernel
theorem dd_law_417 : decode code 417 = .ok (.aload_n 0, 1) := by decide +kernel
theorem dd_law_418 : decode code 418 = .ok (.iload_n 3, 1) := by decide +kernel
theorem dd_law_419 : decode code 419 = .ok (.iconst 2, 1) := by decide +kernel
theorem dd_law_420 : decode code 420 = .ok (.iadd, 1) := by decide +kernel
theorem dd_law_421 : decode code 421 = .ok (.iaload, 1) := by decide +kernel
theorem dd_law_422 : decode code 422 = .ok (.invokevirtual 78, 3) := by decide +kernel
theorem dd_law_425 : decode code 425 = .ok (.aload_n 2, 1) := by decide +kernel
theorem dd_law_426 : decode code 426 = .ok (.aload_n 0, 1) := by decide +kernel
theorem dd_law_427 : decode code 427 = .ok (.iload_n 3, 1) := by decide +kernel
theorem dd_law_428 : decode code 428 = .ok (.iconst 1, 1) := by decide +kernel
theorem dd_law_429 : decode code 429 = .ok (.iadd, 1) := by decide +kernel
theorem dd_law_430 : decode code 430 = .ok (.iaload, 1) := by decide +kernel
theorem dd_law_431 : decode code 431 = .ok (.aload_n 0, 1) := by decide +kernel
theorem dd_law_432 : decode code 432 = .ok (.iload_n 3, 1) := by decide +kernel
theorem dd_law_433 : decode code 433 = .ok (.iconst 2, 1) := by decide +kernel
theorem dd_law_434 : decode code 434 = .ok (.iadd, 1) := by decide +kernel
theorem dd_law_435 : decode code 435 = .ok (.iaload, 1) := by decide +kernel
theorem dd_law_436 : decode code 436 = .ok (.invokevirtual 81, 3) := by decide +kernel
theorem dd_law_439 : decode code 439 = .ok (.if_icmp .eq (28), 3) := by decide +kernel
theorem dd_law_442 : decode code 442 = .ok (.iconst 0, 1) := by decide +kernel
theorem dd_law_443 : decode code 443 = .ok (.ireturn, 1) := by decide +kernel
theorem dd_law_444 : decode code 444 = .ok (.aload_n 1, 1) := by decide +kernel
theorem dd_law_445 : decode code 445 = .ok (.aload_n 0, 1) := by decide +kernel
theorem dd_law_446 : decode code 446 = .ok (.iload_n 3, 1) := by decide +kernel
theorem dd_law_447 : decode code 447 = .ok (.iconst 1, 1) := by decide +kernel
theorem dd_law_448 : decode code 448 = .ok (.iadd, 1) := by decide +kernel
theorem dd_law_449 : decode code 449 = .ok (.iaload, 1) := by decide +kernel
theorem dd_law_450 : decode code 450 = .ok (.invokevirtual 82, 3) := by decide +kernel
theorem dd_law_453 : decode code 453 = .ok (.aload_n 2, 1) := by decide +kernel
theorem dd_law_454 : decode code 454 = .ok (.aload_n 0, 1) := by decide +kernel
theorem dd_law_455 : decode code 455 = .ok (.iload_n 3, 1) := by decide +kernel
theorem dd_law_456 : decode code 456 = .ok (.iconst 1, 1) := by decide +kernel
theorem dd_law_457 : decode code 457 = .ok (.iadd, 1) := by decide +kernel
theorem dd_law_458 : decode code 458 = .ok (.iaload, 1) := by decide +kernel
theorem dd_law_459 : decode code 459 = .ok (.invokevirtual 85, 3) := by decide +kernel
theorem dd_law_462 : decode code 462 = .ok (.if_icmp .eq (5), 3) := by decide +kernel
theorem dd_law_465 : decode code 465 = .ok (.iconst 0, 1) := by decide +kernel
theorem dd_law_466 : decode code 466 = .ok (.ireturn, 1) := by decide +kernel
theorem dd_law_467 : decode code 467 = .ok (.iinc 3 5, 3) := by decide +kernel
theorem dd_law_470 : decode code 470 = .ok (.goto (-452), 3) := by decide +kernel
theorem dd_law_473 : decode code 473 = .ok (.iconst 1, 1) := by decide +kernel
theorem dd_law_474 : decode code 474 = .ok (.ireturn, 1) := by decide +kernel
theorem i32_in (x : Int32) : -2147483648 ≤ x.toInt ∧ x.toInt < 2147483648 := ⟨Int32.le_toInt x, Int32.toInt_lt x⟩
section LW
variable {E : fb_E} {p : Program} {e : Env} {s : State} {m : MethodId} {below : List Frame} {meth : Method} {c : Code} {b cells slots L : Nat} {xs : Nat → Int32} {σ : fb_S} {i N : Int}
theorem lg_c0 (C : lg_C E p s m meth c b L xs) (hL2 : L ≤ 2560) (hi : 0 ≤ i ∧ i + 5 ≤ L) (I : inv N σ) (hN : 0 ≤ N ∧ N + 2000 < 2147480000) (hcs : cells ≤ 600000 ∧ slots ≤ 7302250) (h : ∀ τ, inv (N + 2000) τ → lg_V E p e s m below meth c b cells slots 467 [.inr 98, .inr 0, .inr 5, .inl i] [] τ) : lg_V E p e s m below meth c b cells slots 116 [.inr 98, .inr 0, .inr 5, .inl i] [] σ := by
  refine lg_aload C (i := 1) (j := 0) dd_law_116 rfl (by decide) ?_
  refine lg_call C (z := fb_Fb_function) (k := 0) (ci := 0) (np := 0) (vs := []) (lz := [.inr 0]) (st := []) dd_law_117 ⟨rfl, fb_tb1 219 rfl rfl, fb_tb1 220 rfl rfl, fb_tb1 221 rfl rfl, fb_tb1 1 rfl rfl, cd_Fb_function, by decide +kernel, by decide +kernel, by decide +kernel⟩ ⟨by decide, by decide⟩ ⟨_, rfl⟩ rfl rfl (by decide +kernel) rfl rfl rfl rfl rfl ?_ hcs
  refine fb_mono (in_function (Q := fun r r2 s2 => lg_V E p e s m below meth c b cells slots 124 [.inr 98, .inr 0, .inr 5, .inl i] [.inl r2, .inl r] s2)  I (fun r τ I2 => lg_same C dd_law_124 rfl (h τ (inv_le I2 (by omega))))) (fun r τ hτ => ?_)
  refine lg_aload C (i := 2) (j := 5) dd_law_120 rfl (by decide) ?_
  exact lg_call C (z := fb_Mo_function) (k := 5) (ci := 5) (np := 0) (vs := []) (lz := [.inr 5]) (st := [.inl r]) dd_law_121 ⟨rfl, fb_tb3 226 rfl rfl, fb_tb3 227 rfl rfl, fb_tb3 228 rfl rfl, fb_tb1 6 rfl rfl, cd_Mo_function, by decide +kernel, by decide +kernel, by decide +kernel⟩ ⟨by decide, by decide⟩ ⟨_, rfl⟩ rfl rfl (by decide +kernel) rfl rfl rfl rfl rfl hτ hcs
theorem lg_c1 (C : lg_C E p s m meth c b L xs) (hL2 : L ≤ 2560) (hi : 0 ≤ i ∧ i + 5 ≤ L) (I : inv N σ) (hN : 0 ≤ N ∧ N + 2000 < 2147480000) (hcs : cells ≤ 600000 ∧ slots ≤ 7302250) (h : ∀ τ, inv (N + 2000) τ → lg_V E p e s m below meth c b cells slots 467 [.inr 98, .inr 0, .inr 5, .inl i] [] τ) : lg_V E p e s m below meth c b cells slots 129 [.inr 98, .inr 0, .inr 5, .inl i] [] σ := by
  refine lg_aload C (i := 1) (j := 0) dd_law_129 rfl (by decide) ?_
  refine lg_aload C (i := 0) (j := 98) dd_law_130 rfl (by decide) ?_
  refine lg_iload C (i := 3) dd_law_131 rfl ?_
  refine lg_iconst C dd_law_132 ?_
  refine lg_iadd C dd_law_133 ?_
  refine lg_ld C hL2 (by omega) dd_law_134 ?_
  refine lg_call C (z := fb_Fb_variable) (k := 0) (ci := 0) (np := 1) (vs := [.inl (xs (i + 1).toNat).toInt]) (lz := [.inr 0, .inl (xs (i + 1).toNat).toInt]) (st := []) dd_law_135 ⟨rfl, fb_tb1 239 rfl rfl, fb_tb2 0 rfl rfl, fb_tb2 1 rfl rfl, fb_tb1 1 rfl rfl, cd_Fb_variable, by decide +kernel, by decide +kernel, by decide +kernel⟩ ⟨by decide, by decide⟩ ⟨_, rfl⟩ rfl rfl (by decide +kernel) rfl rfl rfl rfl rfl ?_ hcs
  refine fb_mono (in_variable (Q := fun r r2 s2 => lg_V E p e s m below meth c b cells slots 147 [.inr 98, .inr 0, .inr 5, .inl i] [.inl r2, .inl r] s2) (i32_in _) I (fun r τ I2 => lg_same C dd_law_147 rfl (h τ (inv_le I2 (by omega))))) (fun r τ hτ => ?_)
  refine lg_aload C (i := 2) (j := 5) dd_law_138 rfl (by decide) ?_
  refine lg_aload C (i := 0) (j := 98) dd_law_139 rfl (by decide) ?_
  refine lg_iload C (i := 3) dd_law_140 rfl ?_
  refine lg_iconst C dd_law_141 ?_
  refine lg_iadd C dd_law_142 ?_
  refine lg_ld C hL2 (by omega) dd_law_143 ?_
  exact lg_call C (z := fb_Mo_variable) (k := 5) (ci := 5) (np := 1) (vs := [.inl (xs (i + 1).toNat).toInt]) (lz := [.inr 5, .inl (xs (i + 1).toNat).toInt, .inr 999]) (st := [.inl r]) dd_law_144 ⟨rfl, fb_tb3 234 rfl rfl, fb_tb3 235 rfl rfl, fb_tb3 236 rfl rfl, fb_tb1 6 rfl rfl, cd_Mo_variable, by decide +kernel, by decide +kernel, by decide +kernel⟩ ⟨by decide, by decide⟩ ⟨_, rfl⟩ rfl rfl (by decide +kernel) rfl rfl rfl rfl rfl hτ hcs
theorem lg_c2 (C : lg_C E p s m meth c b L xs) (hL2 : L ≤ 2560) (hi : 0 ≤ i ∧ i + 5 ≤ L) (I : inv N σ) (hN : 0 ≤ N ∧ N + 2000 < 2147480000) (hcs : cells ≤ 600000 ∧ slots ≤ 7302250) (h : ∀ τ, inv (N + 2000) τ → lg_V E p e s m below meth c b cells slots 467 [.inr 98, .inr 0, .inr 5, .inl i] [] τ) : lg_V E p e s m below meth c b cells slots 152 [.inr 98, .inr 0, .inr 5, .inl i] [] σ := by
  refine lg_aload C (i := 1) (j := 0) dd_law_152 rfl (by decide) ?_
  refine lg_aload C (i := 0) (j := 98) dd_law_153 rfl (by decide) ?_
  refine lg_iload C (i := 3) dd_law_154 rfl ?_
  refine lg_iconst C dd_law_155 ?_
  refine lg_iadd C dd_law_156 ?_
  refine lg_ld C hL2 (by omega) dd_law_157 ?_
  refine lg_aload C (i := 0) (j := 98) dd_law_158 rfl (by decide) ?_
  refine lg_iload C (i := 3) dd_law_159 rfl ?_
  refine lg_iconst C dd_law_160 ?_
  refine lg_iadd C dd_law_161 ?_
  refine lg_ld C hL2 (by omega) dd_law_162 ?_
  refine lg_aload C (i := 0) (j := 98) dd_law_163 rfl (by decide) ?_
  refine lg_iload C (i := 3) dd_law_164 rfl ?_
  refine lg_iconst C dd_law_165 ?_
  refine lg_iadd C dd_law_166 ?_
  refine lg_ld C hL2 (by omega) dd_law_167 ?_
  refine lg_aload C (i := 0) (j := 98) dd_law_168 rfl (by decide) ?_
  refine lg_iload C (i := 3) dd_law_169 rfl ?_
  refine lg_iconst C dd_law_170 ?_
  refine lg_iadd C dd_law_171 ?_
  refine lg_ld C hL2 (by omega) dd_law_172 ?_
  refine lg_call C (z := fb_Fb_op) (k := 0) (ci := 0) (np := 4) (vs := [.inl (xs (i + 1).toNat).toInt, .inl (xs (i + 2).toNat).toInt, .inl (xs (i + 3).toNat).toInt, .inl (xs (i + 4).toNat).toInt]) (lz := [.inr 0, .inl (xs (i + 1).toNat).toInt, .inl (xs (i + 2).toNat).toInt, .inl (xs (i + 3).toNat).toInt, .inl (xs (i + 4).toNat).toInt]) (st := []) dd_law_173 ⟨rfl, fb_tb2 7 rfl rfl, fb_tb2 8 rfl rfl, fb_tb2 9 rfl rfl, fb_tb1 1 rfl rfl, cd_Fb_op, by decide +kernel, by decide +kernel, by decide +kernel⟩ ⟨by decide, by decide⟩ ⟨_, rfl⟩ rfl rfl (by decide +kernel) rfl rfl rfl rfl rfl ?_ hcs
  refine fb_mono (in_op (Q := fun r r2 s2 => lg_V E p e s m below meth c b cells slots 200 [.inr 98, .inr 0, .inr 5, .inl i] [.inl r2, .inl r] s2) (i32_in _) (i32_in _) (i32_in _) (i32_in _) I (fun r τ I2 => lg_same C dd_law_200 rfl (h τ (inv_le I2 (by omega))))) (fun r τ hτ => ?_)
  refine lg_aload C (i := 2) (j := 5) dd_law_176 rfl (by decide) ?_
  refine lg_aload C (i := 0) (j := 98) dd_law_177 rfl (by decide) ?_
  refine lg_iload C (i := 3) dd_law_178 rfl ?_
  refine lg_iconst C dd_law_179 ?_
  refine lg_iadd C dd_law_180 ?_
  refine lg_ld C hL2 (by omega) dd_law_181 ?_
  refine lg_aload C (i := 0) (j := 98) dd_law_182 rfl (by decide) ?_
  refine lg_iload C (i := 3) dd_law_183 rfl ?_
  refine lg_iconst C dd_law_184 ?_
  refine lg_iadd C dd_law_185 ?_
  refine lg_ld C hL2 (by omega) dd_law_186 ?_
  refine lg_aload C (i := 0) (j := 98) dd_law_187 rfl (by decide) ?_
  refine lg_iload C (i := 3) dd_law_188 rfl ?_
  refine lg_iconst C dd_law_189 ?_
  refine lg_iadd C dd_law_190 ?_
  refine lg_ld C hL2 (by omega) dd_law_191 ?_
  refine lg_aload C (i := 0) (j := 98) dd_law_192 rfl (by decide) ?_
  refine lg_iload C (i := 3) dd_law_193 rfl ?_
  refine lg_iconst C dd_law_194 ?_
  refine lg_iadd C dd_law_195 ?_
  refine lg_ld C hL2 (by omega) dd_law_196 ?_
  exact lg_call C (z := fb_Mo_op) (k := 5) (ci := 5) (np := 4) (vs := [.inl (xs (i + 1).toNat).toInt, .inl (xs (i + 2).toNat).toInt, .inl (xs (i + 3).toNat).toInt, .inl (xs (i + 4).toNat).toInt]) (lz := [.inr 5, .inl (xs (i + 1).toNat).toInt, .inl (xs (i + 2).toNat).toInt, .inl (xs (i + 3).toNat).toInt, .inl (xs (i + 4).toNat).toInt, .inr 999, .inr 999]) (st := [.inl r]) dd_law_197 ⟨rfl, fb_tb3 238 rfl rfl, fb_tb3 239 rfl rfl, fb_tb4 0 rfl rfl, fb_tb1 6 rfl rfl, cd_Mo_op, by decide +kernel, by decide +kernel, by decide +kernel⟩ ⟨by decide, by decide⟩ ⟨_, rfl⟩ rfl rfl (by decide +kernel) rfl rfl rfl rfl rfl hτ hcs
theorem lg_c3 (C : lg_C E p s m meth c b L xs) (hL2 : L ≤ 2560) (hi : 0 ≤ i ∧ i + 5 ≤ L) (I : inv N σ) (hN : 0 ≤ N ∧ N + 2000 < 2147480000) (hcs : cells ≤ 600000 ∧ slots ≤ 7302250) (h : ∀ τ, inv (N + 2000) τ → lg_V E p e s m below meth c b cells slots 467 [.inr 98, .inr 0, .inr 5, .inl i] [] τ) : lg_V E p e s m below meth c b cells slots 205 [.inr 98, .inr 0, .inr 5, .inl i] [] σ := by
  refine lg_aload C (i := 1) (j := 0) dd_law_205 rfl (by decide) ?_
  refine lg_call C (z := fb_Fb_compile) (k := 0) (ci := 0) (np := 0) (vs := []) (lz := [.inr 0, .inr 999]) (st := []) dd_law_206 ⟨rfl, fb_tb2 29 rfl rfl, fb_tb2 30 rfl rfl, fb_tb2 31 rfl rfl, fb_tb1 1 rfl rfl, cd_Fb_compile, by decide +kernel, by decide +kernel, by decide +kernel⟩ ⟨by decide, by decide⟩ ⟨_, rfl⟩ rfl rfl (by decide +kernel) rfl rfl rfl rfl rfl ?_ hcs
  refine fb_mono (in_compile (Q := fun r r2 s2 => lg_V E p e s m below meth c b cells slots 213 [.inr 98, .inr 0, .inr 5, .inl i] [.inl r2, .inl r] s2)  I (fun r τ I2 => lg_same C dd_law_213 rfl (h τ (inv_le I2 (by omega))))) (fun r τ hτ => ?_)
  refine lg_aload C (i := 2) (j := 5) dd_law_209 rfl (by decide) ?_
  exact lg_call C (z := fb_Mo_compile) (k := 5) (ci := 5) (np := 0) (vs := []) (lz := [.inr 5, .inr 999]) (st := [.inl r]) dd_law_210 ⟨rfl, fb_tb4 15 rfl rfl, fb_tb4 16 rfl rfl, fb_tb4 17 rfl rfl, fb_tb1 6 rfl rfl, cd_Mo_compile, by decide +kernel, by decide +kernel, by decide +kernel⟩ ⟨by decide, by decide⟩ ⟨_, rfl⟩ rfl rfl (by decide +kernel) rfl rfl rfl rfl rfl hτ hcs
theorem lg_c4 (C : lg_C E p s m meth c b L xs) (hL2 : L ≤ 2560) (hi : 0 ≤ i ∧ i + 5 ≤ L) (I : inv N σ) (hN : 0 ≤ N ∧ N + 2000 < 2147480000) (hcs : cells ≤ 600000 ∧ slots ≤ 7302250) (h : ∀ τ, inv (N + 2000) τ → lg_V E p e s m below meth c b cells slots 467 [.inr 98, .inr 0, .inr 5, .inl i] [] τ) : lg_V E p e s m below meth c b cells slots 218 [.inr 98, .inr 0, .inr 5, .inl i] [] σ := by
  refine lg_aload C (i := 1) (j := 0) dd_law_218 rfl (by decide) ?_
  refine lg_call C (z := fb_Fb_length) (k := 0) (ci := 0) (np := 0) (vs := []) (lz := [.inr 0]) (st := []) dd_law_219 ⟨rfl, fb_tb2 229 rfl rfl, fb_tb2 230 rfl rfl, fb_tb2 231 rfl rfl, fb_tb1 1 rfl rfl, cd_Fb_length, by decide +kernel, by decide +kernel, by decide +kernel⟩ ⟨by decide, by decide⟩ ⟨_, rfl⟩ rfl rfl (by decide +kernel) rfl rfl rfl rfl rfl ?_ hcs
  refine fb_mono (pr_length (Q := fun r r2 s2 => lg_V E p e s m below meth c b cells slots 226 [.inr 98, .inr 0, .inr 5, .inl i] [.inl r2, .inl r] s2)  I (fun r => lg_same C dd_law_226 rfl (h σ (inv_le I (by omega))))) (fun r τ hτ => ?_)
  refine lg_aload C (i := 2) (j := 5) dd_law_222 rfl (by decide) ?_
  exact lg_call C (z := fb_Mo_length) (k := 5) (ci := 5) (np := 0) (vs := []) (lz := [.inr 5]) (st := [.inl r]) dd_law_223 ⟨rfl, fb_tb4 126 rfl rfl, fb_tb4 127 rfl rfl, fb_tb4 128 rfl rfl, fb_tb1 6 rfl rfl, cd_Mo_length, by decide +kernel, by decide +kernel, by decide +kernel⟩ ⟨by decide, by decide⟩ ⟨_, rfl⟩ rfl rfl (by decide +kernel) rfl rfl rfl rfl rfl hτ hcs
theorem lg_c5 (C : lg_C E p s m meth c b L xs) (hL2 : L ≤ 2560) (hi : 0 ≤ i ∧ i + 5 ≤ L) (I : inv N σ) (hN : 0 ≤ N ∧ N + 2000 < 2147480000) (hcs : cells ≤ 600000 ∧ slots ≤ 7302250) (h : ∀ τ, inv (N + 2000) τ → lg_V E p e s m below meth c b cells slots 467 [.inr 98, .inr 0, .inr 5, .inl i] [] τ) : lg_V E p e s m below meth c b cells slots 231 [.inr 98, .inr 0, .inr 5, .inl i] [] σ := by
  refine lg_aload C (i := 1) (j := 0) dd_law_231 rfl (by decide) ?_
  refine lg_aload C (i := 0) (j := 98) dd_law_232 rfl (by decide) ?_
  refine lg_iload C (i := 3) dd_law_233 rfl ?_
  refine lg_iconst C dd_law_234 ?_
  refine lg_iadd C dd_law_235 ?_
  refine lg_ld C hL2 (by omega) dd_law_236 ?_
  refine lg_call C (z := fb_Fb_code) (k := 0) (ci := 0) (np := 1) (vs := [.inl (xs (i + 1).toNat).toInt]) (lz := [.inr 0, .inl (xs (i + 1).toNat).toInt]) (st := []) dd_law_237 ⟨rfl, fb_tb2 233 rfl rfl, fb_tb2 234 rfl rfl, fb_tb2 235 rfl rfl, fb_tb1 1 rfl rfl, cd_Fb_code, by decide +kernel, by decide +kernel, by decide +kernel⟩ ⟨by decide, by decide⟩ ⟨_, rfl⟩ rfl rfl (by decide +kernel) rfl rfl rfl rfl rfl ?_ hcs
  refine fb_mono (pr_code (Q := fun r r2 s2 => lg_V E p e s m below meth c b cells slots 249 [.inr 98, .inr 0, .inr 5, .inl i] [.inl r2, .inl r] s2) (i32_in _) I (fun r => lg_same C dd_law_249 rfl (h σ (inv_le I (by omega))))) (fun r τ hτ => ?_)
  refine lg_aload C (i := 2) (j := 5) dd_law_240 rfl (by decide) ?_
  refine lg_aload C (i := 0) (j := 98) dd_law_241 rfl (by decide) ?_
  refine lg_iload C (i := 3) dd_law_242 rfl ?_
  refine lg_iconst C dd_law_243 ?_
  refine lg_iadd C dd_law_244 ?_
  refine lg_ld C hL2 (by omega) dd_law_245 ?_
  exact lg_call C (z := fb_Mo_code) (k := 5) (ci := 5) (np := 1) (vs := [.inl (xs (i + 1).toNat).toInt]) (lz := [.inr 5, .inl (xs (i + 1).toNat).toInt]) (st := [.inl r]) dd_law_246 ⟨rfl, fb_tb4 130 rfl rfl, fb_tb4 131 rfl rfl, fb_tb4 132 rfl rfl, fb_tb1 6 rfl rfl, cd_Mo_code, by decide +kernel, by decide +kernel, by decide +kernel⟩ ⟨by decide, by decide⟩ ⟨_, rfl⟩ rfl rfl (by decide +kernel) rfl rfl rfl rfl rfl hτ hcs
theorem lg_c6 (C : lg_C E p s m meth c b L xs) (hL2 : L ≤ 2560) (hi : 0 ≤ i ∧ i + 5 ≤ L) (I : inv N σ) (hN : 0 ≤ N ∧ N + 2000 < 2147480000) (hcs : cells ≤ 600000 ∧ slots ≤ 7302250) (h : ∀ τ, inv (N + 2000) τ → lg_V E p e s m below meth c b cells slots 467 [.inr 98, .inr 0, .inr 5, .inl i] [] τ) : lg_V E p e s m below meth c b cells slots 254 [.inr 98, .inr 0, .inr 5, .inl i] [] σ := by
  refine lg_aload C (i := 1) (j := 0) dd_law_254 rfl (by decide) ?_
  refine lg_call C (z := fb_Fb_longs) (k := 0) (ci := 0) (np := 0) (vs := []) (lz := [.inr 0]) (st := []) dd_law_255 ⟨rfl, fb_tb2 237 rfl rfl, fb_tb2 238 rfl rfl, fb_tb2 239 rfl rfl, fb_tb1 1 rfl rfl, cd_Fb_longs, by decide +kernel, by decide +kernel, by decide +kernel⟩ ⟨by decide, by decide⟩ ⟨_, rfl⟩ rfl rfl (by decide +kernel) rfl rfl rfl rfl rfl ?_ hcs
  refine fb_mono (pr_longs (Q := fun r r2 s2 => lg_V E p e s m below meth c b cells slots 262 [.inr 98, .inr 0, .inr 5, .inl i] [.inl r2, .inl r] s2)  I (fun r => lg_same C dd_law_262 rfl (h σ (inv_le I (by omega))))) (fun r τ hτ => ?_)
  refine lg_aload C (i := 2) (j := 5) dd_law_258 rfl (by decide) ?_
  exact lg_call C (z := fb_Mo_longs) (k := 5) (ci := 5) (np := 0) (vs := []) (lz := [.inr 5]) (st := [.inl r]) dd_law_259 ⟨rfl, fb_tb4 134 rfl rfl, fb_tb4 135 rfl rfl, fb_tb4 136 rfl rfl, fb_tb1 6 rfl rfl, cd_Mo_longs, by decide +kernel, by decide +kernel, by decide +kernel⟩ ⟨by decide, by decide⟩ ⟨_, rfl⟩ rfl rfl (by decide +kernel) rfl rfl rfl rfl rfl hτ hcs
theorem lg_c7 (C : lg_C E p s m meth c b L xs) (hL2 : L ≤ 2560) (hi : 0 ≤ i ∧ i + 5 ≤ L) (I : inv N σ) (hN : 0 ≤ N ∧ N + 2000 < 2147480000) (hcs : cells ≤ 600000 ∧ slots ≤ 7302250) (h : ∀ τ, inv (N + 2000) τ → lg_V E p e s m below meth c b cells slots 467 [.inr 98, .inr 0, .inr 5, .inl i] [] τ) : lg_V E p e s m below meth c b cells slots 267 [.inr 98, .inr 0, .inr 5, .inl i] [] σ := by
  refine lg_aload C (i := 1) (j := 0) dd_law_267 rfl (by decide) ?_
  refine lg_aload C (i := 0) (j := 98) dd_law_268 rfl (by decide) ?_
  refine lg_iload C (i := 3) dd_law_269 rfl ?_
  refine lg_iconst C dd_law_270 ?_
  refine lg_iadd C dd_law_271 ?_
  refine lg_ld C hL2 (by omega) dd_law_272 ?_
  refine lg_call C (z := fb_Fb_base) (k := 0) (ci := 0) (np := 1) (vs := [.inl (xs (i + 1).toNat).toInt]) (lz := [.inr 0, .inl (xs (i + 1).toNat).toInt]) (st := []) dd_law_273 ⟨rfl, fb_tb3 1 rfl rfl, fb_tb3 2 rfl rfl, fb_tb3 3 rfl rfl, fb_tb1 1 rfl rfl, cd_Fb_base, by decide +kernel, by decide +kernel, by decide +kernel⟩ ⟨by decide, by decide⟩ ⟨_, rfl⟩ rfl rfl (by decide +kernel) rfl rfl rfl rfl rfl ?_ hcs
  refine fb_mono (pr_base (Q := fun r r2 s2 => lg_V E p e s m below meth c b cells slots 285 [.inr 98, .inr 0, .inr 5, .inl i] [.inl r2, .inl r] s2) (i32_in _) I (fun r => lg_same C dd_law_285 rfl (h σ (inv_le I (by omega))))) (fun r τ hτ => ?_)
  refine lg_aload C (i := 2) (j := 5) dd_law_276 rfl (by decide) ?_
  refine lg_aload C (i := 0) (j := 98) dd_law_277 rfl (by decide) ?_
  refine lg_iload C (i := 3) dd_law_278 rfl ?_
  refine lg_iconst C dd_law_279 ?_
  refine lg_iadd C dd_law_280 ?_
  refine lg_ld C hL2 (by omega) dd_law_281 ?_
  exact lg_call C (z := fb_Mo_base) (k := 5) (ci := 5) (np := 1) (vs := [.inl (xs (i + 1).toNat).toInt]) (lz := [.inr 5, .inl (xs (i + 1).toNat).toInt]) (st := [.inl r]) dd_law_282 ⟨rfl, fb_tb4 138 rfl rfl, fb_tb4 139 rfl rfl, fb_tb4 140 rfl rfl, fb_tb1 6 rfl rfl, cd_Mo_base, by decide +kernel, by decide +kernel, by decide +kernel⟩ ⟨by decide, by decide⟩ ⟨_, rfl⟩ rfl rfl (by decide +kernel) rfl rfl rfl rfl rfl hτ hcs
theorem lg_c8 (C : lg_C E p s m meth c b L xs) (hL2 : L ≤ 2560) (hi : 0 ≤ i ∧ i + 5 ≤ L) (I : inv N σ) (hN : 0 ≤ N ∧ N + 2000 < 2147480000) (hcs : cells ≤ 600000 ∧ slots ≤ 7302250) (h : ∀ τ, inv (N + 2000) τ → lg_V E p e s m below meth c b cells slots 467 [.inr 98, .inr 0, .inr 5, .inl i] [] τ) : lg_V E p e s m below meth c b cells slots 290 [.inr 98, .inr 0, .inr 5, .inl i] [] σ := by
  refine lg_aload C (i := 1) (j := 0) dd_law_290 rfl (by decide) ?_
  refine lg_aload C (i := 0) (j := 98) dd_law_291 rfl (by decide) ?_
  refine lg_iload C (i := 3) dd_law_292 rfl ?_
  refine lg_iconst C dd_law_293 ?_
  refine lg_iadd C dd_law_294 ?_
  refine lg_ld C hL2 (by omega) dd_law_295 ?_
  refine lg_aload C (i := 0) (j := 98) dd_law_296 rfl (by decide) ?_
  refine lg_iload C (i := 3) dd_law_297 rfl ?_
  refine lg_iconst C dd_law_298 ?_
  refine lg_iadd C dd_law_299 ?_
  refine lg_ld C hL2 (by omega) dd_law_300 ?_
  refine lg_call C (z := fb_Fb_address) (k := 0) (ci := 0) (np := 2) (vs := [.inl (xs (i + 1).toNat).toInt, .inl (xs (i + 2).toNat).toInt]) (lz := [.inr 0, .inl (xs (i + 1).toNat).toInt, .inl (xs (i + 2).toNat).toInt]) (st := []) dd_law_301 ⟨rfl, fb_tb3 6 rfl rfl, fb_tb3 7 rfl rfl, fb_tb3 8 rfl rfl, fb_tb1 1 rfl rfl, cd_Fb_address, by decide +kernel, by decide +kernel, by decide +kernel⟩ ⟨by decide, by decide⟩ ⟨_, rfl⟩ rfl rfl (by decide +kernel) rfl rfl rfl rfl rfl ?_ hcs
  refine fb_mono (pr_address (Q := fun r r2 s2 => lg_V E p e s m below meth c b cells slots 318 [.inr 98, .inr 0, .inr 5, .inl i] [.inl r2, .inl r] s2) (i32_in _) (i32_in _) I (fun r => lg_same C dd_law_318 rfl (h σ (inv_le I (by omega))))) (fun r τ hτ => ?_)
  refine lg_aload C (i := 2) (j := 5) dd_law_304 rfl (by decide) ?_
  refine lg_aload C (i := 0) (j := 98) dd_law_305 rfl (by decide) ?_
  refine lg_iload C (i := 3) dd_law_306 rfl ?_
  refine lg_iconst C dd_law_307 ?_
  refine lg_iadd C dd_law_308 ?_
  refine lg_ld C hL2 (by omega) dd_law_309 ?_
  refine lg_aload C (i := 0) (j := 98) dd_law_310 rfl (by decide) ?_
  refine lg_iload C (i := 3) dd_law_311 rfl ?_
  refine lg_iconst C dd_law_312 ?_
  refine lg_iadd C dd_law_313 ?_
  refine lg_ld C hL2 (by omega) dd_law_314 ?_
  exact lg_call C (z := fb_Mo_address) (k := 5) (ci := 5) (np := 2) (vs := [.inl (xs (i + 1).toNat).toInt, .inl (xs (i + 2).toNat).toInt]) (lz := [.inr 5, .inl (xs (i + 1).toNat).toInt, .inl (xs (i + 2).toNat).toInt]) (st := [.inl r]) dd_law_315 ⟨rfl, fb_tb4 142 rfl rfl, fb_tb4 143 rfl rfl, fb_tb4 144 rfl rfl, fb_tb1 6 rfl rfl, cd_Mo_address, by decide +kernel, by decide +kernel, by decide +kernel⟩ ⟨by decide, by decide⟩ ⟨_, rfl⟩ rfl rfl (by decide +kernel) rfl rfl rfl rfl rfl hτ hcs
theorem lg_c9 (C : lg_C E p s m meth c b L xs) (hL2 : L ≤ 2560) (hi : 0 ≤ i ∧ i + 5 ≤ L) (I : inv N σ) (hN : 0 ≤ N ∧ N + 2000 < 2147480000) (hcs : cells ≤ 600000 ∧ slots ≤ 7302250) (h : ∀ τ, inv (N + 2000) τ → lg_V E p e s m below meth c b cells slots 467 [.inr 98, .inr 0, .inr 5, .inl i] [] τ) : lg_V E p e s m below meth c b cells slots 323 [.inr 98, .inr 0, .inr 5, .inl i] [] σ := by
  refine lg_aload C (i := 1) (j := 0) dd_law_323 rfl (by decide) ?_
  refine lg_call C (z := fb_Fb_start) (k := 0) (ci := 0) (np := 0) (vs := []) (lz := [.inr 0]) (st := []) dd_law_324 ⟨rfl, fb_tb3 11 rfl rfl, fb_tb3 12 rfl rfl, fb_tb3 13 rfl rfl, fb_tb1 1 rfl rfl, cd_Fb_start, by decide +kernel, by decide +kernel, by decide +kernel⟩ ⟨by decide, by decide⟩ ⟨_, rfl⟩ rfl rfl (by decide +kernel) rfl rfl rfl rfl rfl ?_ hcs
  refine fb_mono (in_start (Q := fun r r2 s2 => lg_V E p e s m below meth c b cells slots 331 [.inr 98, .inr 0, .inr 5, .inl i] [.inl r2, .inl r] s2)  I hN.1 (fun r τ I2 => lg_same C dd_law_331 rfl (h τ (inv_le I2 (by omega))))) (fun r τ hτ => ?_)
  refine lg_aload C (i := 2) (j := 5) dd_law_327 rfl (by decide) ?_
  exact lg_call C (z := fb_Mo_start) (k := 5) (ci := 5) (np := 0) (vs := []) (lz := [.inr 5, .inr 999]) (st := [.inl r]) dd_law_328 ⟨rfl, fb_tb4 146 rfl rfl, fb_tb4 147 rfl rfl, fb_tb4 148 rfl rfl, fb_tb1 6 rfl rfl, cd_Mo_start, by decide +kernel, by decide +kernel, by decide +kernel⟩ ⟨by decide, by decide⟩ ⟨_, rfl⟩ rfl rfl (by decide +kernel) rfl rfl rfl rfl rfl hτ hcs
theorem lg_c10 (C : lg_C E p s m meth c b L xs) (hL2 : L ≤ 2560) (hi : 0 ≤ i ∧ i + 5 ≤ L) (I : inv N σ) (hN : 0 ≤ N ∧ N + 2000 < 2147480000) (hcs : cells ≤ 600000 ∧ slots ≤ 7302250) (h : ∀ τ, inv (N + 2000) τ → lg_V E p e s m below meth c b cells slots 467 [.inr 98, .inr 0, .inr 5, .inl i] [] τ) : lg_V E p e s m below meth c b cells slots 336 [.inr 98, .inr 0, .inr 5, .inl i] [] σ := by
  refine lg_aload C (i := 1) (j := 0) dd_law_336 rfl (by decide) ?_
  refine lg_aload C (i := 0) (j := 98) dd_law_337 rfl (by decide) ?_
  refine lg_iload C (i := 3) dd_law_338 rfl ?_
  refine lg_iconst C dd_law_339 ?_
  refine lg_iadd C dd_law_340 ?_
  refine lg_ld C hL2 (by omega) dd_law_341 ?_
  refine lg_call C (z := fb_Fb_run) (k := 0) (ci := 0) (np := 1) (vs := [.inl (xs (i + 1).toNat).toInt]) (lz := [.inr 0, .inl (xs (i + 1).toNat).toInt]) (st := []) dd_law_342 ⟨rfl, fb_tb3 20 rfl rfl, fb_tb3 21 rfl rfl, fb_tb3 22 rfl rfl, fb_tb1 1 rfl rfl, cd_Fb_run, by decide +kernel, by decide +kernel, by decide +kernel⟩ ⟨by decide, by decide⟩ ⟨_, rfl⟩ rfl rfl (by decide +kernel) rfl rfl rfl rfl rfl ?_ hcs
  refine fb_mono (in_run (Q := fun r r2 s2 => lg_V E p e s m below meth c b cells slots 354 [.inr 98, .inr 0, .inr 5, .inl i] [.inl r2, .inl r] s2) (i32_in _) I hN (fun r τ I2 => lg_same C dd_law_354 rfl (h τ I2))) (fun r τ hτ => ?_)
  refine lg_aload C (i := 2) (j := 5) dd_law_345 rfl (by decide) ?_
  refine lg_aload C (i := 0) (j := 98) dd_law_346 rfl (by decide) ?_
  refine lg_iload C (i := 3) dd_law_347 rfl ?_
  refine lg_iconst C dd_law_348 ?_
  refine lg_iadd C dd_law_349 ?_
  refine lg_ld C hL2 (by omega) dd_law_350 ?_
  exact lg_call C (z := fb_Mo_run) (k := 5) (ci := 5) (np := 1) (vs := [.inl (xs (i + 1).toNat).toInt]) (lz := [.inr 5, .inl (xs (i + 1).toNat).toInt, .inr 999]) (st := [.inl r]) dd_law_351 ⟨rfl, fb_tb4 150 rfl rfl, fb_tb4 151 rfl rfl, fb_tb4 152 rfl rfl, fb_tb1 6 rfl rfl, cd_Mo_run, by decide +kernel, by decide +kernel, by decide +kernel⟩ ⟨by decide, by decide⟩ ⟨_, rfl⟩ rfl rfl (by decide +kernel) rfl rfl rfl rfl rfl hτ hcs
theorem lg_c11 (C : lg_C E p s m meth c b L xs) (hL2 : L ≤ 2560) (hi : 0 ≤ i ∧ i + 5 ≤ L) (I : inv N σ) (hN : 0 ≤ N ∧ N + 2000 < 2147480000) (hcs : cells ≤ 600000 ∧ slots ≤ 7302250) (h : ∀ τ, inv (N + 2000) τ → lg_V E p e s m below meth c b cells slots 467 [.inr 98, .inr 0, .inr 5, .inl i] [] τ) : lg_V E p e s m below meth c b cells slots 359 [.inr 98, .inr 0, .inr 5, .inl i] [] σ := by
  refine lg_aload C (i := 1) (j := 0) dd_law_359 rfl (by decide) ?_
  refine lg_call C (z := fb_Fb_state) (k := 0) (ci := 0) (np := 0) (vs := []) (lz := [.inr 0]) (st := []) dd_law_360 ⟨rfl, fb_tb3 100 rfl rfl, fb_tb3 101 rfl rfl, fb_tb3 102 rfl rfl, fb_tb1 1 rfl rfl, cd_Fb_state, by decide +kernel, by decide +kernel, by decide +kernel⟩ ⟨by decide, by decide⟩ ⟨_, rfl⟩ rfl rfl (by decide +kernel) rfl rfl rfl rfl rfl ?_ hcs
  refine fb_mono (pr_state (Q := fun r r2 s2 => lg_V E p e s m below meth c b cells slots 367 [.inr 98, .inr 0, .inr 5, .inl i] [.inl r2, .inl r] s2)  I (fun r => lg_same C dd_law_367 rfl (h σ (inv_le I (by omega))))) (fun r τ hτ => ?_)
  refine lg_aload C (i := 2) (j := 5) dd_law_363 rfl (by decide) ?_
  exact lg_call C (z := fb_Mo_state) (k := 5) (ci := 5) (np := 0) (vs := []) (lz := [.inr 5]) (st := [.inl r]) dd_law_364 ⟨rfl, fb_tb4 194 rfl rfl, fb_tb4 195 rfl rfl, fb_tb4 196 rfl rfl, fb_tb1 6 rfl rfl, cd_Mo_state, by decide +kernel, by decide +kernel, by decide +kernel⟩ ⟨by decide, by decide⟩ ⟨_, rfl⟩ rfl rfl (by decide +kernel) rfl rfl rfl rfl rfl hτ hcs
theorem lg_c12 (C : lg_C E p s m meth c b L xs) (hL2 : L ≤ 2560) (hi : 0 ≤ i ∧ i + 5 ≤ L) (I : inv N σ) (hN : 0 ≤ N ∧ N + 2000 < 2147480000) (hcs : cells ≤ 600000 ∧ slots ≤ 7302250) (h : ∀ τ, inv (N + 2000) τ → lg_V E p e s m below meth c b cells slots 467 [.inr 98, .inr 0, .inr 5, .inl i] [] τ) : lg_V E p e s m below meth c b cells slots 372 [.inr 98, .inr 0, .inr 5, .inl i] [] σ := by
  refine lg_aload C (i := 1) (j := 0) dd_law_372 rfl (by decide) ?_
  refine lg_call C (z := fb_Fb_spent) (k := 0) (ci := 0) (np := 0) (vs := []) (lz := [.inr 0]) (st := []) dd_law_373 ⟨rfl, fb_tb3 104 rfl rfl, fb_tb3 105 rfl rfl, fb_tb3 106 rfl rfl, fb_tb1 1 rfl rfl, cd_Fb_spent, by decide +kernel, by decide +kernel, by decide +kernel⟩ ⟨by decide, by decide⟩ ⟨_, rfl⟩ rfl rfl (by decide +kernel) rfl rfl rfl rfl rfl ?_ hcs
  refine fb_mono (pr_spent (Q := fun r r2 s2 => lg_V E p e s m below meth c b cells slots 380 [.inr 98, .inr 0, .inr 5, .inl i] [.inl r2, .inl r] s2)  I (fun r => lg_same C dd_law_380 rfl (h σ (inv_le I (by omega))))) (fun r τ hτ => ?_)
  refine lg_aload C (i := 2) (j := 5) dd_law_376 rfl (by decide) ?_
  exact lg_call C (z := fb_Mo_spent) (k := 5) (ci := 5) (np := 0) (vs := []) (lz := [.inr 5]) (st := [.inl r]) dd_law_377 ⟨rfl, fb_tb4 198 rfl rfl, fb_tb4 199 rfl rfl, fb_tb4 200 rfl rfl, fb_tb1 6 rfl rfl, cd_Mo_spent, by decide +kernel, by decide +kernel, by decide +kernel⟩ ⟨by decide, by decide⟩ ⟨_, rfl⟩ rfl rfl (by decide +kernel) rfl rfl rfl rfl rfl hτ hcs
theorem lg_c13 (C : lg_C E p s m meth c b L xs) (hL2 : L ≤ 2560) (hi : 0 ≤ i ∧ i + 5 ≤ L) (I : inv N σ) (hN : 0 ≤ N ∧ N + 2000 < 2147480000) (hcs : cells ≤ 600000 ∧ slots ≤ 7302250) (h : ∀ τ, inv (N + 2000) τ → lg_V E p e s m below meth c b cells slots 467 [.inr 98, .inr 0, .inr 5, .inl i] [] τ) : lg_V E p e s m below meth c b cells slots 385 [.inr 98, .inr 0, .inr 5, .inl i] [] σ := by
  refine lg_aload C (i := 1) (j := 0) dd_law_385 rfl (by decide) ?_
  refine lg_call C (z := fb_Fb_next) (k := 0) (ci := 0) (np := 0) (vs := []) (lz := [.inr 0]) (st := []) dd_law_386 ⟨rfl, fb_tb3 108 rfl rfl, fb_tb3 109 rfl rfl, fb_tb3 110 rfl rfl, fb_tb1 1 rfl rfl, cd_Fb_next, by decide +kernel, by decide +kernel, by decide +kernel⟩ ⟨by decide, by decide⟩ ⟨_, rfl⟩ rfl rfl (by decide +kernel) rfl rfl rfl rfl rfl ?_ hcs
  refine fb_mono (pr_next (Q := fun r r2 s2 => lg_V E p e s m below meth c b cells slots 393 [.inr 98, .inr 0, .inr 5, .inl i] [.inl r2, .inl r] s2)  I (fun r => lg_same C dd_law_393 rfl (h σ (inv_le I (by omega))))) (fun r τ hτ => ?_)
  refine lg_aload C (i := 2) (j := 5) dd_law_389 rfl (by decide) ?_
  exact lg_call C (z := fb_Mo_next) (k := 5) (ci := 5) (np := 0) (vs := []) (lz := [.inr 5]) (st := [.inl r]) dd_law_390 ⟨rfl, fb_tb4 202 rfl rfl, fb_tb4 203 rfl rfl, fb_tb4 204 rfl rfl, fb_tb1 6 rfl rfl, cd_Mo_next, by decide +kernel, by decide +kernel, by decide +kernel⟩ ⟨by decide, by decide⟩ ⟨_, rfl⟩ rfl rfl (by decide +kernel) rfl rfl rfl rfl rfl hτ hcs
theorem lg_c14 (C : lg_C E p s m meth c b L xs) (hL2 : L ≤ 2560) (hi : 0 ≤ i ∧ i + 5 ≤ L) (I : inv N σ) (hN : 0 ≤ N ∧ N + 2000 < 2147480000) (hcs : cells ≤ 600000 ∧ slots ≤ 7302250) (h : ∀ τ, inv (N + 2000) τ → lg_V E p e s m below meth c b cells slots 467 [.inr 98, .inr 0, .inr 5, .inl i] [] τ) : lg_V E p e s m below meth c b cells slots 398 [.inr 98, .inr 0, .inr 5, .inl i] [] σ := by
  refine lg_aload C (i := 1) (j := 0) dd_law_398 rfl (by decide) ?_
  refine lg_call C (z := fb_Fb_depth) (k := 0) (ci := 0) (np := 0) (vs := []) (lz := [.inr 0]) (st := []) dd_law_399 ⟨rfl, fb_tb3 116 rfl rfl, fb_tb3 117 rfl rfl, fb_tb3 118 rfl rfl, fb_tb1 1 rfl rfl, cd_Fb_depth, by decide +kernel, by decide +kernel, by decide +kernel⟩ ⟨by decide, by decide⟩ ⟨_, rfl⟩ rfl rfl (by decide +kernel) rfl rfl rfl rfl rfl ?_ hcs
  refine fb_mono (pr_depth (Q := fun r r2 s2 => lg_V E p e s m below meth c b cells slots 406 [.inr 98, .inr 0, .inr 5, .inl i] [.inl r2, .inl r] s2)  I (fun r => lg_same C dd_law_406 rfl (h σ (inv_le I (by omega))))) (fun r τ hτ => ?_)
  refine lg_aload C (i := 2) (j := 5) dd_law_402 rfl (by decide) ?_
  exact lg_call C (z := fb_Mo_depth) (k := 5) (ci := 5) (np := 0) (vs := []) (lz := [.inr 5]) (st := [.inl r]) dd_law_403 ⟨rfl, fb_tb4 206 rfl rfl, fb_tb4 207 rfl rfl, fb_tb4 208 rfl rfl, fb_tb1 6 rfl rfl, cd_Mo_depth, by decide +kernel, by decide +kernel, by decide +kernel⟩ ⟨by decide, by decide⟩ ⟨_, rfl⟩ rfl rfl (by decide +kernel) rfl rfl rfl rfl rfl hτ hcs
theorem lg_c15 (C : lg_C E p s m meth c b L xs) (hL2 : L ≤ 2560) (hi : 0 ≤ i ∧ i + 5 ≤ L) (I : inv N σ) (hN : 0 ≤ N ∧ N + 2000 < 2147480000) (hcs : cells ≤ 600000 ∧ slots ≤ 7302250) (h : ∀ τ, inv (N + 2000) τ → lg_V E p e s m below meth c b cells slots 467 [.inr 98, .inr 0, .inr 5, .inl i] [] τ) : lg_V E p e s m below meth c b cells slots 411 [.inr 98, .inr 0, .inr 5, .inl i] [] σ := by
  refine lg_aload C (i := 1) (j := 0) dd_law_411 rfl (by decide) ?_
  refine lg_aload C (i := 0) (j := 98) dd_law_412 rfl (by decide) ?_
  refine lg_iload C (i := 3) dd_law_413 rfl ?_
  refine lg_iconst C dd_law_414 ?_
  refine lg_iadd C dd_law_415 ?_
  refine lg_ld C hL2 (by omega) dd_law_416 ?_
  refine lg_aload C (i := 0) (j := 98) dd_law_417 rfl (by decide) ?_
  refine lg_iload C (i := 3) dd_law_418 rfl ?_
  refine lg_iconst C dd_law_419 ?_
  refine lg_iadd C dd_law_420 ?_
  refine lg_ld C hL2 (by omega) dd_law_421 ?_
  refine lg_call C (z := fb_Fb_value) (k := 0) (ci := 0) (np := 2) (vs := [.inl (xs (i + 1).toNat).toInt, .inl (xs (i + 2).toNat).toInt]) (lz := [.inr 0, .inl (xs (i + 1).toNat).toInt, .inl (xs (i + 2).toNat).toInt, .inr 999, .inr 999]) (st := []) dd_law_422 ⟨rfl, fb_tb3 120 rfl rfl, fb_tb3 121 rfl rfl, fb_tb3 122 rfl rfl, fb_tb1 1 rfl rfl, cd_Fb_value, by decide +kernel, by decide +kernel, by decide +kernel⟩ ⟨by decide, by decide⟩ ⟨_, rfl⟩ rfl rfl (by decide +kernel) rfl rfl rfl rfl rfl ?_ hcs
  refine fb_mono (pr_value (Q := fun r r2 s2 => lg_V E p e s m below meth c b cells slots 439 [.inr 98, .inr 0, .inr 5, .inl i] [.inl r2, .inl r] s2) (i32_in _) (i32_in _) I (fun r => lg_same C dd_law_439 rfl (h σ (inv_le I (by omega))))) (fun r τ hτ => ?_)
  refine lg_aload C (i := 2) (j := 5) dd_law_425 rfl (by decide) ?_
  refine lg_aload C (i := 0) (j := 98) dd_law_426 rfl (by decide) ?_
  refine lg_iload C (i := 3) dd_law_427 rfl ?_
  refine lg_iconst C dd_law_428 ?_
  refine lg_iadd C dd_law_429 ?_
  refine lg_ld C hL2 (by omega) dd_law_430 ?_
  refine lg_aload C (i := 0) (j := 98) dd_law_431 rfl (by decide) ?_
  refine lg_iload C (i := 3) dd_law_432 rfl ?_
  refine lg_iconst C dd_law_433 ?_
  refine lg_iadd C dd_law_434 ?_
  refine lg_ld C hL2 (by omega) dd_law_435 ?_
  exact lg_call C (z := fb_Mo_value) (k := 5) (ci := 5) (np := 2) (vs := [.inl (xs (i + 1).toNat).toInt, .inl (xs (i + 2).toNat).toInt]) (lz := [.inr 5, .inl (xs (i + 1).toNat).toInt, .inl (xs (i + 2).toNat).toInt, .inr 999]) (st := [.inl r]) dd_law_436 ⟨rfl, fb_tb4 210 rfl rfl, fb_tb4 211 rfl rfl, fb_tb4 212 rfl rfl, fb_tb1 6 rfl rfl, cd_Mo_value, by decide +kernel, by decide +kernel, by decide +kernel⟩ ⟨by decide, by decide⟩ ⟨_, rfl⟩ rfl rfl (by decide +kernel) rfl rfl rfl rfl rfl hτ hcs
theorem lg_c16 (C : lg_C E p s m meth c b L xs) (hL2 : L ≤ 2560) (hi : 0 ≤ i ∧ i + 5 ≤ L) (I : inv N σ) (hN : 0 ≤ N ∧ N + 2000 < 2147480000) (hcs : cells ≤ 600000 ∧ slots ≤ 7302250) (h : ∀ τ, inv (N + 2000) τ → lg_V E p e s m below meth c b cells slots 467 [.inr 98, .inr 0, .inr 5, .inl i] [] τ) : lg_V E p e s m below meth c b cells slots 444 [.inr 98, .inr 0, .inr 5, .inl i] [] σ := by
  refine lg_aload C (i := 1) (j := 0) dd_law_444 rfl (by decide) ?_
  refine lg_aload C (i := 0) (j := 98) dd_law_445 rfl (by decide) ?_
  refine lg_iload C (i := 3) dd_law_446 rfl ?_
  refine lg_iconst C dd_law_447 ?_
  refine lg_iadd C dd_law_448 ?_
  refine lg_ld C hL2 (by omega) dd_law_449 ?_
  refine lg_call C (z := fb_Fb_output) (k := 0) (ci := 0) (np := 1) (vs := [.inl (xs (i + 1).toNat).toInt]) (lz := [.inr 0, .inl (xs (i + 1).toNat).toInt]) (st := []) dd_law_450 ⟨rfl, fb_tb3 125 rfl rfl, fb_tb3 126 rfl rfl, fb_tb3 127 rfl rfl, fb_tb1 1 rfl rfl, cd_Fb_output, by decide +kernel, by decide +kernel, by decide +kernel⟩ ⟨by decide, by decide⟩ ⟨_, rfl⟩ rfl rfl (by decide +kernel) rfl rfl rfl rfl rfl ?_ hcs
  refine fb_mono (pr_output (Q := fun r r2 s2 => lg_V E p e s m below meth c b cells slots 462 [.inr 98, .inr 0, .inr 5, .inl i] [.inl r2, .inl r] s2) (i32_in _) I (by omega) (fun r => lg_same C dd_law_462 rfl (h σ (inv_le I (by omega))))) (fun r τ hτ => ?_)
  refine lg_aload C (i := 2) (j := 5) dd_law_453 rfl (by decide) ?_
  refine lg_aload C (i := 0) (j := 98) dd_law_454 rfl (by decide) ?_
  refine lg_iload C (i := 3) dd_law_455 rfl ?_
  refine lg_iconst C dd_law_456 ?_
  refine lg_iadd C dd_law_457 ?_
  refine lg_ld C hL2 (by omega) dd_law_458 ?_
  exact lg_call C (z := fb_Mo_output) (k := 5) (ci := 5) (np := 1) (vs := [.inl (xs (i + 1).toNat).toInt]) (lz := [.inr 5, .inl (xs (i + 1).toNat).toInt]) (st := [.inl r]) dd_law_459 ⟨rfl, fb_tb4 214 rfl rfl, fb_tb4 215 rfl rfl, fb_tb4 216 rfl rfl, fb_tb1 6 rfl rfl, cd_Mo_output, by decide +kernel, by decide +kernel, by decide +kernel⟩ ⟨by decide, by decide⟩ ⟨_, rfl⟩ rfl rfl (by decide +kernel) rfl rfl rfl rfl rfl hτ hcs
theorem lg_loop (C : lg_C E p s m meth c b L xs) (hL2 : L ≤ 2560) (hcs : cells ≤ 600000 ∧ slots ≤ 7302250) : ∀ (n : Nat) (i : Int) (σ : fb_S), (0 ≤ i ∧ i ≤ L + 5) → (L : Int) + 5 - i ≤ n → inv (400 * i) σ → lg_V E p e s m below meth c b cells slots 18 [.inr 98, .inr 0, .inr 5, .inl i] [] σ := by
  intro n
  induction n with
  | zero =>
    intro i σ hi hn I
    refine lg_iload C (i := 3) dd_law_18 rfl ?_
    refine lg_aload C (i := 0) (j := 98) dd_law_19 rfl (by decide) ?_
    refine lg_len C hL2 dd_law_20 ?_
    refine lg_iconst C dd_law_21 ?_
    refine lg_isub C dd_law_22 ?_
    exact lg_gt C dd_law_23 (tgt := 473) rfl (by omega) (by omega) (fun _ => lg_end C dd_law_473 dd_law_474 hcs) (fun g => by omega)
  | succ n ih =>
    intro i σ hi hn I
    refine lg_iload C (i := 3) dd_law_18 rfl ?_
    refine lg_aload C (i := 0) (j := 98) dd_law_19 rfl (by decide) ?_
    refine lg_len C hL2 dd_law_20 ?_
    refine lg_iconst C dd_law_21 ?_
    refine lg_isub C dd_law_22 ?_
    refine lg_gt C dd_law_23 (tgt := 473) rfl (by omega) (by omega) (fun _ => lg_end C dd_law_473 dd_law_474 hcs) (fun g => ?_)
    have nxt : ∀ τ, inv (400 * i + 2000) τ → lg_V E p e s m below meth c b cells slots 467 [.inr 98, .inr 0, .inr 5, .inl i] [] τ := by
      intro τ I2
      refine lg_iinc C (i := 3) dd_law_467 rfl rfl rfl ?_
      refine lg_goto C dd_law_470 (tgt := 18) rfl ?_
      exact ih (i + 5) τ (by omega) (by omega) (by rw [show 400 * (i + 5) = 400 * i + 2000 by omega]; exact I2)
    refine lg_aload C (i := 0) (j := 98) dd_law_26 rfl (by decide) ?_
    refine lg_iload C (i := 3) dd_law_27 rfl ?_
    refine lg_ld C hL2 (by omega) dd_law_28 ?_
    refine lg_bipush C dd_law_29 (by decide) ?_
    refine lg_mask C dd_law_31 ?_
    have hr : 0 ≤ (xs i.toNat).toInt % 32 ∧ (xs i.toNat).toInt % 32 < 32 := by omega
    by_cases g0 : (xs i.toNat).toInt % 32 = 0
    · rw [g0]
      exact lg_tsIn C 84 dd_law_32 (by omega) (by omega) (by omega) rfl rfl (lg_c0 C hL2 (by omega) I (by omega) hcs nxt)
    by_cases g1 : (xs i.toNat).toInt % 32 = 1
    · rw [g1]
      exact lg_tsIn C 97 dd_law_32 (by omega) (by omega) (by omega) rfl rfl (lg_c1 C hL2 (by omega) I (by omega) hcs nxt)
    by_cases g2 : (xs i.toNat).toInt % 32 = 2
    · rw [g2]
      exact lg_tsIn C 120 dd_law_32 (by omega) (by omega) (by omega) rfl rfl (lg_c2 C hL2 (by omega) I (by omega) hcs nxt)
    by_cases g3 : (xs i.toNat).toInt % 32 = 3
    · rw [g3]
      exact lg_tsIn C 173 dd_law_32 (by omega) (by omega) (by omega) rfl rfl (lg_c3 C hL2 (by omega) I (by omega) hcs nxt)
    by_cases g4 : (xs i.toNat).toInt % 32 = 4
    · rw [g4]
      exact lg_tsIn C 186 dd_law_32 (by omega) (by omega) (by omega) rfl rfl (lg_c4 C hL2 (by omega) I (by omega) hcs nxt)
    by_cases g5 : (xs i.toNat).toInt % 32 = 5
    · rw [g5]
      exact lg_tsIn C 199 dd_law_32 (by omega) (by omega) (by omega) rfl rfl (lg_c5 C hL2 (by omega) I (by omega) hcs nxt)
    by_cases g6 : (xs i.toNat).toInt % 32 = 6
    · rw [g6]
      exact lg_tsIn C 222 dd_law_32 (by omega) (by omega) (by omega) rfl rfl (lg_c6 C hL2 (by omega) I (by omega) hcs nxt)
    by_cases g7 : (xs i.toNat).toInt % 32 = 7
    · rw [g7]
      exact lg_tsIn C 235 dd_law_32 (by omega) (by omega) (by omega) rfl rfl (lg_c7 C hL2 (by omega) I (by omega) hcs nxt)
    by_cases g8 : (xs i.toNat).toInt % 32 = 8
    · rw [g8]
      exact lg_tsIn C 258 dd_law_32 (by omega) (by omega) (by omega) rfl rfl (lg_c8 C hL2 (by omega) I (by omega) hcs nxt)
    by_cases g9 : (xs i.toNat).toInt % 32 = 9
    · rw [g9]
      exact lg_tsIn C 291 dd_law_32 (by omega) (by omega) (by omega) rfl rfl (lg_c9 C hL2 (by omega) I (by omega) hcs nxt)
    by_cases g10 : (xs i.toNat).toInt % 32 = 10
    · rw [g10]
      exact lg_tsIn C 304 dd_law_32 (by omega) (by omega) (by omega) rfl rfl (lg_c10 C hL2 (by omega) I (by omega) hcs nxt)
    by_cases g11 : (xs i.toNat).toInt % 32 = 11
    · rw [g11]
      exact lg_tsIn C 327 dd_law_32 (by omega) (by omega) (by omega) rfl rfl (lg_c11 C hL2 (by omega) I (by omega) hcs nxt)
    by_cases g12 : (xs i.toNat).toInt % 32 = 12
    · rw [g12]
      exact lg_tsIn C 340 dd_law_32 (by omega) (by omega) (by omega) rfl rfl (lg_c12 C hL2 (by omega) I (by omega) hcs nxt)
    by_cases g13 : (xs i.toNat).toInt % 32 = 13
    · rw [g13]
      exact lg_tsIn C 353 dd_law_32 (by omega) (by omega) (by omega) rfl rfl (lg_c13 C hL2 (by omega) I (by omega) hcs nxt)
    by_cases g14 : (xs i.toNat).toInt % 32 = 14
    · rw [g14]
      exact lg_tsIn C 366 dd_law_32 (by omega) (by omega) (by omega) rfl rfl (lg_c14 C hL2 (by omega) I (by omega) hcs nxt)
    by_cases g15 : (xs i.toNat).toInt % 32 = 15
    · rw [g15]
      exact lg_tsIn C 379 dd_law_32 (by omega) (by omega) (by omega) rfl rfl (lg_c15 C hL2 (by omega) I (by omega) hcs nxt)
    by_cases g16 : (xs i.toNat).toInt % 32 = 16
    · rw [g16]
      exact lg_tsIn C 412 dd_law_32 (by omega) (by omega) (by omega) rfl rfl (lg_c16 C hL2 (by omega) I (by omega) hcs nxt)
    exact lg_tsOut C dd_law_32 (by omega) (by omega) (tgt := 467) rfl (nxt σ (inv_le I (by omega)))
end LW
