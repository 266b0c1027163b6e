theorem dL_law_19 : decode cL_law 19 = .ok (.astore_n 3, 1) := by decide +kernel
theorem dL_law_20 : decode cL_law 20 = .ok (.iconst 0, 1) := by decide +kernel
theorem dL_law_21 : decode cL_law 21 = .ok (.istore 4, 2) := by decide +kernel
theorem dL_law_23 : decode cL_law 23 = .ok (.iload 4, 2) := by decide +kernel
theorem dL_law_25 : decode cL_law 25 = .ok (.aload_n 0, 1) := by decide +kernel
theorem dL_law_26 : decode cL_law 26 = .ok (.arraylength, 1) := by decide +kernel
theorem dL_law_27 : decode cL_law 27 = .ok (.iconst 5, 1) := by decide +kernel
theorem dL_law_28 : decode cL_law 28 = .ok (.isub, 1) := by decide +kernel
theorem dL_law_29 : decode cL_law 29 = .ok (.if_icmp .gt 958, 3) := by decide +kernel
theorem dL_law_32 : decode cL_law 32 = .ok (.aload_n 0, 1) := by decide +kernel
theorem dL_law_33 : decode cL_law 33 = .ok (.iload 4, 2) := by decide +kernel
theorem dL_law_35 : decode cL_law 35 = .ok (.iaload, 1) := by decide +kernel
theorem dL_law_36 : decode cL_law 36 = .ok (.bipush 15, 2) := by decide +kernel
theorem dL_law_38 : decode cL_law 38 = .ok (.iand, 1) := by decide +kernel
theorem dL_law_39 : decode cL_law 39 = .ok (.tableswitch 942 0 13 #[69, 161, 229, 309, 377, 445, 501, 581, 649, 705, 718, 774, 830, 886], 69) := by decide +kernel
theorem dL_law_108 : decode cL_law 108 = .ok (.aload_n 1, 1) := by decide +kernel
theorem dL_law_109 : decode cL_law 109 = .ok (.aload_n 0, 1) := by decide +kernel
theorem dL_law_110 : decode cL_law 110 = .ok (.iload 4, 2) := by decide +kernel
theorem dL_law_112 : decode cL_law 112 = .ok (.iconst 1, 1) := by decide +kernel
theorem dL_law_113 : decode cL_law 113 = .ok (.iadd, 1) := by decide +kernel
theorem dL_law_114 : decode cL_law 114 = .ok (.iaload, 1) := by decide +kernel
theorem dL_law_115 : decode cL_law 115 = .ok (.aload_n 0, 1) := by decide +kernel
theorem dL_law_116 : decode cL_law 116 = .ok (.iload 4, 2) := by decide +kernel
theorem dL_law_118 : decode cL_law 118 = .ok (.iconst 2, 1) := by decide +kernel
theorem dL_law_119 : decode cL_law 119 = .ok (.iadd, 1) := by decide +kernel
theorem dL_law_120 : decode cL_law 120 = .ok (.iaload, 1) := by decide +kernel
theorem dL_law_121 : decode cL_law 121 = .ok (.aload_n 0, 1) := by decide +kernel
theorem dL_law_122 : decode cL_law 122 = .ok (.iload 4, 2) := by decide +kernel
theorem dL_law_124 : decode cL_law 124 = .ok (.iconst 3, 1) := by decide +kernel
theorem dL_law_125 : decode cL_law 125 = .ok (.iadd, 1) := by decide +kernel
theorem dL_law_126 : decode cL_law 126 = .ok (.iaload, 1) := by decide +kernel
theorem dL_law_127 : decode cL_law 127 = .ok (.aload_n 0, 1) := by decide +kernel
theorem dL_law_128 : decode cL_law 128 = .ok (.iload 4, 2) := by decide +kernel
theorem dL_law_130 : decode cL_law 130 = .ok (.iconst 4, 1) := by decide +kernel
theorem dL_law_131 : decode cL_law 131 = .ok (.iadd, 1) := by decide +kernel
theorem dL_law_132 : decode cL_law 132 = .ok (.iaload, 1) := by decide +kernel
theorem dL_law_133 : decode cL_law 133 = .ok (.aload_n 3, 1) := by decide +kernel
theorem dL_law_134 : decode cL_law 134 = .ok (.invokestatic 62, 3) := by decide +kernel
theorem dL_law_137 : decode cL_law 137 = .ok (.istore 5, 2) := by decide +kernel
theorem dL_law_139 : decode cL_law 139 = .ok (.aload_n 2, 1) := by decide +kernel
theorem dL_law_140 : decode cL_law 140 = .ok (.aload_n 0, 1) := by decide +kernel
theorem dL_law_141 : decode cL_law 141 = .ok (.iload 4, 2) := by decide +kernel
theorem dL_law_143 : decode cL_law 143 = .ok (.iconst 1, 1) := by decide +kernel
theorem dL_law_144 : decode cL_law 144 = .ok (.iadd, 1) := by decide +kernel
theorem dL_law_145 : decode cL_law 145 = .ok (.iaload, 1) := by decide +kernel
theorem dL_law_146 : decode cL_law 146 = .ok (.aload_n 0, 1) := by decide +kernel
theorem dL_law_147 : decode cL_law 147 = .ok (.iload 4, 2) := by decide +kernel
theorem dL_law_149 : decode cL_law 149 = .ok (.iconst 2, 1) := by decide +kernel
theorem dL_law_150 : decode cL_law 150 = .ok (.iadd, 1) := by decide +kernel
theorem dL_law_151 : decode cL_law 151 = .ok (.iaload, 1) := by decide +kernel
theorem dL_law_152 : decode cL_law 152 = .ok (.aload_n 0, 1) := by decide +kernel
theorem dL_law_153 : decode cL_law 153 = .ok (.iload 4, 2) := by decide +kernel
theorem dL_law_155 : decode cL_law 155 = .ok (.iconst 3, 1) := by decide +kernel
theorem dL_law_156 : decode cL_law 156 = .ok (.iadd, 1) := by decide +kernel
theorem dL_law_157 : decode cL_law 157 = .ok (.iaload, 1) := by decide +kernel
theorem dL_law_158 : decode cL_law 158 = .ok (.aload_n 0, 1) := by decide +kernel
theorem dL_law_159 : decode cL_law 159 = .ok (.iload 4, 2) := by decide +kernel
theorem dL_law_161 : decode cL_law 161 = .ok (.iconst 4, 1) := by decide +kernel
theorem dL_law_162 : decode cL_law 162 = .ok (.iadd, 1) := by decide +kernel
theorem dL_law_163 : decode cL_law 163 = .ok (.iaload, 1) := by decide +kernel
theorem dL_law_164 : decode cL_law 164 = .ok (.invokevirtual 67, 3) := by decide +kernel
theorem dL_law_167 : decode cL_law 167 = .ok (.istore 6, 2) := by decide +kernel
theorem dL_law_169 : decode cL_law 169 = .ok (.aload_n 2, 1) := by decide +kernel
theorem dL_law_170 : decode cL_law 170 = .ok (.invokevirtual 68, 3) := by decide +kernel
theorem dL_law_173 : decode cL_law 173 = .ok (.iload 5, 2) := by decide +kernel
theorem dL_law_175 : decode cL_law 175 = .ok (.if_icmp .eq 5, 3) := by decide +kernel
theorem dL_law_178 : decode cL_law 178 = .ok (.iconst 0, 1) := by decide +kernel
theorem dL_law_179 : decode cL_law 179 = .ok (.ireturn, 1) := by decide +kernel
theorem dL_law_180 : decode cL_law 180 = .ok (.iload 5, 2) := by decide +kernel
theorem dL_law_182 : decode cL_law 182 = .ok (.ifCond .ne 15, 3) := by decide +kernel
theorem dL_law_185 : decode cL_law 185 = .ok (.aload_n 3, 1) := by decide +kernel
theorem dL_law_186 : decode cL_law 186 = .ok (.iconst 0, 1) := by decide +kernel
theorem dL_law_187 : decode cL_law 187 = .ok (.laload, 1) := by decide +kernel
theorem dL_law_188 : decode cL_law 188 = .ok (.iload 6, 2) := by decide +kernel
theorem dL_law_190 : decode cL_law 190 = .ok (.i2l, 1) := by decide +kernel
theorem dL_law_191 : decode cL_law 191 = .ok (.lcmp, 1) := by decide +kernel
theorem dL_law_192 : decode cL_law 192 = .ok (.ifCond .eq 5, 3) := by decide +kernel
theorem dL_law_195 : decode cL_law 195 = .ok (.iconst 0, 1) := by decide +kernel
theorem dL_law_196 : decode cL_law 196 = .ok (.ireturn, 1) := by decide +kernel
theorem dL_law_197 : decode cL_law 197 = .ok (.goto 784, 3) := by decide +kernel
theorem dL_law_200 : decode cL_law 200 = .ok (.aload_n 1, 1) := by decide +kernel
theorem dL_law_201 : decode cL_law 201 = .ok (.aload_n 0, 1) := by decide +kernel
theorem dL_law_202 : decode cL_law 202 = .ok (.iload 4, 2) := by decide +kernel
theorem dL_law_204 : decode cL_law 204 = .ok (.iconst 1, 1) := by decide +kernel
theorem dL_law_205 : decode cL_law 205 = .ok (.iadd, 1) := by decide +kernel
theorem dL_law_206 : decode cL_law 206 = .ok (.iaload, 1) := by decide +kernel
theorem dL_law_207 : decode cL_law 207 = .ok (.aload_n 0, 1) := by decide +kernel
theorem dL_law_208 : decode cL_law 208 = .ok (.iload 4, 2) := by decide +kernel
theorem dL_law_210 : decode cL_law 210 = .ok (.iconst 2, 1) := by decide +kernel
theorem dL_law_211 : decode cL_law 211 = .ok (.iadd, 1) := by decide +kernel
theorem dL_law_212 : decode cL_law 212 = .ok (.iaload, 1) := by decide +kernel
theorem dL_law_213 : decode cL_law 213 = .ok (.aload_n 3, 1) := by decide +kernel
theorem dL_law_214 : decode cL_law 214 = .ok (.invokestatic 72, 3) := by decide +kernel
theorem dL_law_217 : decode cL_law 217 = .ok (.istore 5, 2) := by decide +kernel
theorem dL_law_219 : decode cL_law 219 = .ok (.aload_n 2, 1) := by decide +kernel
theorem dL_law_220 : decode cL_law 220 = .ok (.aload_n 0, 1) := by decide +kernel
theorem dL_law_221 : decode cL_law 221 = .ok (.iload 4, 2) := by decide +kernel
theorem dL_law_223 : decode cL_law 223 = .ok (.iconst 1, 1) := by decide +kernel
theorem dL_law_224 : decode cL_law 224 = .ok (.iadd, 1) := by decide +kernel
theorem dL_law_225 : decode cL_law 225 = .ok (.iaload, 1) := by decide +kernel
theorem dL_law_226 : decode cL_law 226 = .ok (.aload_n 0, 1) := by decide +kernel
theorem dL_law_227 : decode cL_law 227 = .ok (.iload 4, 2) := by decide +kernel
theorem dL_law_229 : decode cL_law 229 = .ok (.iconst 2, 1) := by decide +kernel
theorem dL_law_230 : decode cL_law 230 = .ok (.iadd, 1) := by decide +kernel
theorem dL_law_231 : decode cL_law 231 = .ok (.iaload, 1) := by decide +kernel
theorem dL_law_232 : decode cL_law 232 = .ok (.invokevirtual 75, 3) := by decide +kernel
theorem dL_law_235 : decode cL_law 235 = .ok (.istore 6, 2) := by decide +kernel
theorem dL_law_237 : decode cL_law 237 = .ok (.aload_n 2, 1) := by decide +kernel
theorem dL_law_238 : decode cL_law 238 = .ok (.invokevirtual 68, 3) := by decide +kernel
theorem dL_law_241 : decode cL_law 241 = .ok (.iload 5, 2) := by decide +kernel
theorem dL_law_243 : decode cL_law 243 = .ok (.if_icmp .eq 5, 3) := by decide +kernel
theorem dL_law_246 : decode cL_law 246 = .ok (.iconst 0, 1) := by decide +kernel
theorem dL_law_247 : decode cL_law 247 = .ok (.ireturn, 1) := by decide +kernel
theorem dL_law_248 : decode cL_law 248 = .ok (.iload 5, 2) := by decide +kernel
theorem dL_law_250 : decode cL_law 250 = .ok (.ifCond .ne 15, 3) := by decide +kernel
theorem dL_law_253 : decode cL_law 253 = .ok (.aload_n 3, 1) := by decide +kernel
theorem dL_law_254 : decode cL_law 254 = .ok (.iconst 0, 1) := by decide +kernel
theorem dL_law_255 : decode cL_law 255 = .ok (.laload, 1) := by decide +kernel
theorem dL_law_256 : decode cL_law 256 = .ok (.iload 6, 2) := by decide +kernel
theorem dL_law_258 : decode cL_law 258 = .ok (.i2l, 1) := by decide +kernel
theorem dL_law_259 : decode cL_law 259 = .ok (.lcmp, 1) := by decide +kernel
theorem dL_law_260 : decode cL_law 260 = .ok (.ifCond .eq 5, 3) := by decide +kernel
theorem dL_law_263 : decode cL_law 263 = .ok (.iconst 0, 1) := by decide +kernel
theorem dL_law_264 : decode cL_law 264 = .ok (.ireturn, 1) := by decide +kernel
theorem dL_law_265 : decode cL_law 265 = .ok (.goto 716, 3) := by decide +kernel
theorem dL_law_268 : decode cL_law 268 = .ok (.aload_n 1, 1) := by decide +kernel
theorem dL_law_269 : decode cL_law 269 = .ok (.aload_n 0, 1) := by decide +kernel
theorem dL_law_270 : decode cL_law 270 = .ok (.iload 4, 2) := by decide +kernel
theorem dL_law_272 : decode cL_law 272 = .ok (.iconst 1, 1) := by decide +kernel
theorem dL_law_273 : decode cL_law 273 = .ok (.iadd, 1) := by decide +kernel
theorem dL_law_274 : decode cL_law 274 = .ok (.iaload, 1) := by decide +kernel
theorem dL_law_275 : decode cL_law 275 = .ok (.aload_n 0, 1) := by decide +kernel
theorem dL_law_276 : decode cL_law 276 = .ok (.iload 4, 2) := by decide +kernel
theorem dL_law_278 : decode cL_law 278 = .ok (.iconst 2, 1) := by decide +kernel
theorem dL_law_279 : decode cL_law 279 = .ok (.iadd, 1) := by decide +kernel
theorem dL_law_280 : decode cL_law 280 = .ok (.iaload, 1) := by decide +kernel
theorem dL_law_281 : decode cL_law 281 = .ok (.aload_n 0, 1) := by decide +kernel
theorem dL_law_282 : decode cL_law 282 = .ok (.iload 4, 2) := by decide +kernel
theorem dL_law_284 : decode cL_law 284 = .ok (.iconst 3, 1) := by decide +kernel
theorem dL_law_285 : decode cL_law 285 = .ok (.iadd, 1) := by decide +kernel
theorem dL_law_286 : decode cL_law 286 = .ok (.iaload, 1) := by decide +kernel
theorem dL_law_287 : decode cL_law 287 = .ok (.aload_n 3, 1) := by decide +kernel
theorem dL_law_288 : decode cL_law 288 = .ok (.invokestatic 76, 3) := by decide +kernel
theorem dL_law_291 : decode cL_law 291 = .ok (.istore 5, 2) := by decide +kernel
theorem dL_law_293 : decode cL_law 293 = .ok (.aload_n 2, 1) := by decide +kernel
theorem dL_law_294 : decode cL_law 294 = .ok (.aload_n 0, 1) := by decide +kernel
theorem dL_law_295 : decode cL_law 295 = .ok (.iload 4, 2) := by decide +kernel
theorem dL_law_297 : decode cL_law 297 = .ok (.iconst 1, 1) := by decide +kernel
theorem dL_law_298 : decode cL_law 298 = .ok (.iadd, 1) := by decide +kernel
theorem dL_law_299 : decode cL_law 299 = .ok (.iaload, 1) := by decide +kernel
theorem dL_law_300 : decode cL_law 300 = .ok (.aload_n 0, 1) := by decide +kernel
theorem dL_law_301 : decode cL_law 301 = .ok (.iload 4, 2) := by decide +kernel
theorem dL_law_303 : decode cL_law 303 = .ok (.iconst 2, 1) := by decide +kernel
theorem dL_law_304 : decode cL_law 304 = .ok (.iadd, 1) := by decide +kernel
theorem dL_law_305 : decode cL_law 305 = .ok (.iaload, 1) := by decide +kernel
theorem dL_law_306 : decode cL_law 306 = .ok (.aload_n 0, 1) := by decide +kernel
theorem dL_law_307 : decode cL_law 307 = .ok (.iload 4, 2) := by decide +kernel
theorem dL_law_309 : decode cL_law 309 = .ok (.iconst 3, 1) := by decide +kernel
theorem dL_law_310 : decode cL_law 310 = .ok (.iadd, 1) := by decide +kernel
theorem dL_law_311 : decode cL_law 311 = .ok (.iaload, 1) := by decide +kernel
theorem dL_law_312 : decode cL_law 312 = .ok (.invokevirtual 79, 3) := by decide +kernel
theorem dL_law_315 : decode cL_law 315 = .ok (.istore 6, 2) := by decide +kernel
theorem dL_law_317 : decode cL_law 317 = .ok (.aload_n 2, 1) := by decide +kernel
theorem dL_law_318 : decode cL_law 318 = .ok (.invokevirtual 68, 3) := by decide +kernel
theorem dL_law_321 : decode cL_law 321 = .ok (.iload 5, 2) := by decide +kernel
theorem dL_law_323 : decode cL_law 323 = .ok (.if_icmp .eq 5, 3) := by decide +kernel
theorem dL_law_326 : decode cL_law 326 = .ok (.iconst 0, 1) := by decide +kernel
theorem dL_law_327 : decode cL_law 327 = .ok (.ireturn, 1) := by decide +kernel
theorem dL_law_328 : decode cL_law 328 = .ok (.iload 5, 2) := by decide +kernel
theorem dL_law_330 : decode cL_law 330 = .ok (.ifCond .ne 15, 3) := by decide +kernel
theorem dL_law_333 : decode cL_law 333 = .ok (.aload_n 3, 1) := by decide +kernel
theorem dL_law_334 : decode cL_law 334 = .ok (.iconst 0, 1) := by decide +kernel
theorem dL_law_335 : decode cL_law 335 = .ok (.laload, 1) := by decide +kernel
theorem dL_law_336 : decode cL_law 336 = .ok (.iload 6, 2) := by decide +kernel
theorem dL_law_338 : decode cL_law 338 = .ok (.i2l, 1) := by decide +kernel
theorem dL_law_339 : decode cL_law 339 = .ok (.lcmp, 1) := by decide +kernel
theorem dL_law_340 : decode cL_law 340 = .ok (.ifCond .eq 5, 3) := by decide +kernel
theorem dL_law_343 : decode cL_law 343 = .ok (.iconst 0, 1) := by decide +kernel
theorem dL_law_344 : decode cL_law 344 = .ok (.ireturn, 1) := by decide +kernel
theorem dL_law_345 : decode cL_law 345 = .ok (.goto 636, 3) := by decide +kernel
theorem dL_law_348 : decode cL_law 348 = .ok (.aload_n 1, 1) := by decide +kernel
theorem dL_law_349 : decode cL_law 349 = .ok (.aload_n 0, 1) := by decide +kernel
theorem dL_law_350 : decode cL_law 350 = .ok (.iload 4, 2) := by decide +kernel
theorem dL_law_352 : decode cL_law 352 = .ok (.iconst 1, 1) := by decide +kernel
theorem dL_law_353 : decode cL_law 353 = .ok (.iadd, 1) := by decide +kernel
theorem dL_law_354 : decode cL_law 354 = .ok (.iaload, 1) := by decide +kernel
theorem dL_law_355 : decode cL_law 355 = .ok (.aload_n 0, 1) := by decide +kernel
theorem dL_law_356 : decode cL_law 356 = .ok (.iload 4, 2) := by decide +kernel
theorem dL_law_358 : decode cL_law 358 = .ok (.iconst 2, 1) := by decide +kernel
theorem dL_law_359 : decode cL_law 359 = .ok (.iadd, 1) := by decide +kernel
theorem dL_law_360 : decode cL_law 360 = .ok (.iaload, 1) := by decide +kernel
theorem dL_law_361 : decode cL_law 361 = .ok (.aload_n 3, 1) := by decide +kernel
theorem dL_law_362 : decode cL_law 362 = .ok (.invokestatic 80, 3) := by decide +kernel
theorem dL_law_365 : decode cL_law 365 = .ok (.istore 5, 2) := by decide +kernel
theorem dL_law_367 : decode cL_law 367 = .ok (.aload_n 2, 1) := by decide +kernel
theorem dL_law_368 : decode cL_law 368 = .ok (.aload_n 0, 1) := by decide +kernel
theorem dL_law_369 : decode cL_law 369 = .ok (.iload 4, 2) := by decide +kernel
theorem dL_law_371 : decode cL_law 371 = .ok (.iconst 1, 1) := by decide +kernel
theorem dL_law_372 : decode cL_law 372 = .ok (.iadd, 1) := by decide +kernel
theorem dL_law_373 : decode cL_law 373 = .ok (.iaload, 1) := by decide +kernel
theorem dL_law_374 : decode cL_law 374 = .ok (.aload_n 0, 1) := by decide +kernel
theorem dL_law_375 : decode cL_law 375 = .ok (.iload 4, 2) := by decide +kernel
theorem dL_law_377 : decode cL_law 377 = .ok (.iconst 2, 1) := by decide +kernel
theorem dL_law_378 : decode cL_law 378 = .ok (.iadd, 1) := by decide +kernel
theorem dL_law_379 : decode cL_law 379 = .ok (.iaload, 1) := by decide +kernel
theorem dL_law_380 : decode cL_law 380 = .ok (.invokevirtual 82, 3) := by decide +kernel
theorem dL_law_383 : decode cL_law 383 = .ok (.istore 6, 2) := by decide +kernel
theorem dL_law_385 : decode cL_law 385 = .ok (.aload_n 2, 1) := by decide +kernel
theorem dL_law_386 : decode cL_law 386 = .ok (.invokevirtual 68, 3) := by decide +kernel
theorem dL_law_389 : decode cL_law 389 = .ok (.iload 5, 2) := by decide +kernel
theorem dL_law_391 : decode cL_law 391 = .ok (.if_icmp .eq 5, 3) := by decide +kernel
theorem dL_law_394 : decode cL_law 394 = .ok (.iconst 0, 1) := by decide +kernel
theorem dL_law_395 : decode cL_law 395 = .ok (.ireturn, 1) := by decide +kernel
theorem dL_law_396 : decode cL_law 396 = .ok (.iload 5, 2) := by decide +kernel
theorem dL_law_398 : decode cL_law 398 = .ok (.ifCond .ne 15, 3) := by decide +kernel
theorem dL_law_401 : decode cL_law 401 = .ok (.aload_n 3, 1) := by decide +kernel
theorem dL_law_402 : decode cL_law 402 = .ok (.iconst 0, 1) := by decide +kernel
theorem dL_law_403 : decode cL_law 403 = .ok (.laload, 1) := by decide +kernel
theorem dL_law_404 : decode cL_law 404 = .ok (.iload 6, 2) := by decide +kernel
theorem dL_law_406 : decode cL_law 406 = .ok (.i2l, 1) := by decide +kernel
theorem dL_law_407 : decode cL_law 407 = .ok (.lcmp, 1) := by decide +kernel
theorem dL_law_408 : decode cL_law 408 = .ok (.ifCond .eq 5, 3) := by decide +kernel
theorem dL_law_411 : decode cL_law 411 = .ok (.iconst 0, 1) := by decide +kernel
theorem dL_law_412 : decode cL_law 412 = .ok (.ireturn, 1) := by decide +kernel
theorem dL_law_413 : decode cL_law 413 = .ok (.goto 568, 3) := by decide +kernel
theorem dL_law_416 : decode cL_law 416 = .ok (.aload_n 1, 1) := by decide +kernel
theorem dL_law_417 : decode cL_law 417 = .ok (.aload_n 0, 1) := by decide +kernel
theorem dL_law_418 : decode cL_law 418 = .ok (.iload 4, 2) := by decide +kernel
theorem dL_law_420 : decode cL_law 420 = .ok (.iconst 1, 1) := by decide +kernel
theorem dL_law_421 : decode cL_law 421 = .ok (.iadd, 1) := by decide +kernel
theorem dL_law_422 : decode cL_law 422 = .ok (.iaload, 1) := by decide +kernel
theorem dL_law_423 : decode cL_law 423 = .ok (.aload_n 0, 1) := by decide +kernel
theorem dL_law_424 : decode cL_law 424 = .ok (.iload 4, 2) := by decide +kernel
theorem dL_law_426 : decode cL_law 426 = .ok (.iconst 2, 1) := by decide +kernel
theorem dL_law_427 : decode cL_law 427 = .ok (.iadd, 1) := by decide +kernel
theorem dL_law_428 : decode cL_law 428 = .ok (.iaload, 1) := by decide +kernel
theorem dL_law_429 : decode cL_law 429 = .ok (.aload_n 3, 1) := by decide +kernel
theorem dL_law_430 : decode cL_law 430 = .ok (.invokestatic 83, 3) := by decide +kernel
theorem dL_law_433 : decode cL_law 433 = .ok (.istore 5, 2) := by decide +kernel
theorem dL_law_435 : decode cL_law 435 = .ok (.aload_n 2, 1) := by decide +kernel
theorem dL_law_436 : decode cL_law 436 = .ok (.aload_n 0, 1) := by decide +kernel
theorem dL_law_437 : decode cL_law 437 = .ok (.iload 4, 2) := by decide +kernel
theorem dL_law_439 : decode cL_law 439 = .ok (.iconst 1, 1) := by decide +kernel
theorem dL_law_440 : decode cL_law 440 = .ok (.iadd, 1) := by decide +kernel
theorem dL_law_441 : decode cL_law 441 = .ok (.iaload, 1) := by decide +kernel
theorem dL_law_442 : decode cL_law 442 = .ok (.aload_n 0, 1) := by decide +kernel
theorem dL_law_443 : decode cL_law 443 = .ok (.iload 4, 2) := by decide +kernel
theorem dL_law_445 : decode cL_law 445 = .ok (.iconst 2, 1) := by decide +kernel
theorem dL_law_446 : decode cL_law 446 = .ok (.iadd, 1) := by decide +kernel
theorem dL_law_447 : decode cL_law 447 = .ok (.iaload, 1) := by decide +kernel
theorem dL_law_448 : decode cL_law 448 = .ok (.invokevirtual 85, 3) := by decide +kernel
theorem dL_law_451 : decode cL_law 451 = .ok (.istore 6, 2) := by decide +kernel
theorem dL_law_453 : decode cL_law 453 = .ok (.aload_n 2, 1) := by decide +kernel
theorem dL_law_454 : decode cL_law 454 = .ok (.invokevirtual 68, 3) := by decide +kernel
theorem dL_law_457 : decode cL_law 457 = .ok (.iload 5, 2) := by decide +kernel
theorem dL_law_459 : decode cL_law 459 = .ok (.if_icmp .eq 5, 3) := by decide +kernel
theorem dL_law_462 : decode cL_law 462 = .ok (.iconst 0, 1) := by decide +kernel
theorem dL_law_463 : decode cL_law 463 = .ok (.ireturn, 1) := by decide +kernel
theorem dL_law_464 : decode cL_law 464 = .ok (.iload 5, 2) := by decide +kernel
theorem dL_law_466 : decode cL_law 466 = .ok (.ifCond .ne 15, 3) := by decide +kernel
theorem dL_law_469 : decode cL_law 469 = .ok (.aload_n 3, 1) := by decide +kernel
theorem dL_law_470 : decode cL_law 470 = .ok (.iconst 0, 1) := by decide +kernel
theorem dL_law_471 : decode cL_law 471 = .ok (.laload, 1) := by decide +kernel
theorem dL_law_472 : decode cL_law 472 = .ok (.iload 6, 2) := by decide +kernel
theorem dL_law_474 : decode cL_law 474 = .ok (.i2l, 1) := by decide +kernel
theorem dL_law_475 : decode cL_law 475 = .ok (.lcmp, 1) := by decide +kernel
theorem dL_law_476 : decode cL_law 476 = .ok (.ifCond .eq 5, 3) := by decide +kernel
theorem dL_law_479 : decode cL_law 479 = .ok (.iconst 0, 1) := by decide +kernel
theorem dL_law_480 : decode cL_law 480 = .ok (.ireturn, 1) := by decide +kernel
theorem dL_law_481 : decode cL_law 481 = .ok (.goto 500, 3) := by decide +kernel
theorem dL_law_484 : decode cL_law 484 = .ok (.aload_n 1, 1) := by decide +kernel
theorem dL_law_485 : decode cL_law 485 = .ok (.aload_n 0, 1) := by decide +kernel
theorem dL_law_486 : decode cL_law 486 = .ok (.iload 4, 2) := by decide +kernel
theorem dL_law_488 : decode cL_law 488 = .ok (.iconst 1, 1) := by decide +kernel
theorem dL_law_489 : decode cL_law 489 = .ok (.iadd, 1) := by decide +kernel
theorem dL_law_490 : decode cL_law 490 = .ok (.iaload, 1) := by decide +kernel
theorem dL_law_491 : decode cL_law 491 = .ok (.aload_n 3, 1) := by decide +kernel
theorem dL_law_492 : decode cL_law 492 = .ok (.invokestatic 86, 3) := by decide +kernel
theorem dL_law_495 : decode cL_law 495 = .ok (.istore 5, 2) := by decide +kernel
theorem dL_law_497 : decode cL_law 497 = .ok (.aload_n 2, 1) := by decide +kernel
theorem dL_law_498 : decode cL_law 498 = .ok (.aload_n 0, 1) := by decide +kernel
theorem dL_law_499 : decode cL_law 499 = .ok (.iload 4, 2) := by decide +kernel
theorem dL_law_501 : decode cL_law 501 = .ok (.iconst 1, 1) := by decide +kernel
theorem dL_law_502 : decode cL_law 502 = .ok (.iadd, 1) := by decide +kernel
theorem dL_law_503 : decode cL_law 503 = .ok (.iaload, 1) := by decide +kernel
theorem dL_law_504 : decode cL_law 504 = .ok (.invokevirtual 89, 3) := by decide +kernel
theorem dL_law_507 : decode cL_law 507 = .ok (.istore 6, 2) := by decide +kernel
theorem dL_law_509 : decode cL_law 509 = .ok (.aload_n 2, 1) := by decide +kernel
theorem dL_law_510 : decode cL_law 510 = .ok (.invokevirtual 68, 3) := by decide +kernel
theorem dL_law_513 : decode cL_law 513 = .ok (.iload 5, 2) := by decide +kernel
theorem dL_law_515 : decode cL_law 515 = .ok (.if_icmp .eq 5, 3) := by decide +kernel
theorem dL_law_518 : decode cL_law 518 = .ok (.iconst 0, 1) := by decide +kernel
theorem dL_law_519 : decode cL_law 519 = .ok (.ireturn, 1) := by decide +kernel
theorem dL_law_520 : decode cL_law 520 = .ok (.iload 5, 2) := by decide +kernel
theorem dL_law_522 : decode cL_law 522 = .ok (.ifCond .ne 15, 3) := by decide +kernel
theorem dL_law_525 : decode cL_law 525 = .ok (.aload_n 3, 1) := by decide +kernel
theorem dL_law_526 : decode cL_law 526 = .ok (.iconst 0, 1) := by decide +kernel
theorem dL_law_527 : decode cL_law 527 = .ok (.laload, 1) := by decide +kernel
theorem dL_law_528 : decode cL_law 528 = .ok (.iload 6, 2) := by decide +kernel
theorem dL_law_530 : decode cL_law 530 = .ok (.i2l, 1) := by decide +kernel
theorem dL_law_531 : decode cL_law 531 = .ok (.lcmp, 1) := by decide +kernel
theorem dL_law_532 : decode cL_law 532 = .ok (.ifCond .eq 5, 3) := by decide +kernel
theorem dL_law_535 : decode cL_law 535 = .ok (.iconst 0, 1) := by decide +kernel
theorem dL_law_536 : decode cL_law 536 = .ok (.ireturn, 1) := by decide +kernel
theorem dL_law_537 : decode cL_law 537 = .ok (.goto 444, 3) := by decide +kernel
theorem dL_law_540 : decode cL_law 540 = .ok (.aload_n 1, 1) := by decide +kernel
theorem dL_law_541 : decode cL_law 541 = .ok (.aload_n 0, 1) := by decide +kernel
theorem dL_law_542 : decode cL_law 542 = .ok (.iload 4, 2) := by decide +kernel
theorem dL_law_544 : decode cL_law 544 = .ok (.iconst 1, 1) := by decide +kernel
theorem dL_law_545 : decode cL_law 545 = .ok (.iadd, 1) := by decide +kernel
theorem dL_law_546 : decode cL_law 546 = .ok (.iaload, 1) := by decide +kernel
theorem dL_law_547 : decode cL_law 547 = .ok (.aload_n 0, 1) := by decide +kernel
theorem dL_law_548 : decode cL_law 548 = .ok (.iload 4, 2) := by decide +kernel
theorem dL_law_550 : decode cL_law 550 = .ok (.iconst 2, 1) := by decide +kernel
theorem dL_law_551 : decode cL_law 551 = .ok (.iadd, 1) := by decide +kernel
theorem dL_law_552 : decode cL_law 552 = .ok (.iaload, 1) := by decide +kernel
theorem dL_law_553 : decode cL_law 553 = .ok (.aload_n 0, 1) := by decide +kernel
theorem dL_law_554 : decode cL_law 554 = .ok (.iload 4, 2) := by decide +kernel
theorem dL_law_556 : decode cL_law 556 = .ok (.iconst 3, 1) := by decide +kernel
theorem dL_law_557 : decode cL_law 557 = .ok (.iadd, 1) := by decide +kernel
theorem dL_law_558 : decode cL_law 558 = .ok (.iaload, 1) := by decide +kernel
theorem dL_law_559 : decode cL_law 559 = .ok (.aload_n 3, 1) := by decide +kernel
theorem dL_law_560 : decode cL_law 560 = .ok (.invokestatic 90, 3) := by decide +kernel
theorem dL_law_563 : decode cL_law 563 = .ok (.istore 5, 2) := by decide +kernel
theorem dL_law_565 : decode cL_law 565 = .ok (.aload_n 2, 1) := by decide +kernel
theorem dL_law_566 : decode cL_law 566 = .ok (.aload_n 0, 1) := by decide +kernel
theorem dL_law_567 : decode cL_law 567 = .ok (.iload 4, 2) := by decide +kernel
theorem dL_law_569 : decode cL_law 569 = .ok (.iconst 1, 1) := by decide +kernel
theorem dL_law_570 : decode cL_law 570 = .ok (.iadd, 1) := by decide +kernel
theorem dL_law_571 : decode cL_law 571 = .ok (.iaload, 1) := by decide +kernel
theorem dL_law_572 : decode cL_law 572 = .ok (.aload_n 0, 1) := by decide +kernel
theorem dL_law_573 : decode cL_law 573 = .ok (.iload 4, 2) := by decide +kernel
theorem dL_law_575 : decode cL_law 575 = .ok (.iconst 2, 1) := by decide +kernel
theorem dL_law_576 : decode cL_law 576 = .ok (.iadd, 1) := by decide +kernel
theorem dL_law_577 : decode cL_law 577 = .ok (.iaload, 1) := by decide +kernel
theorem dL_law_578 : decode cL_law 578 = .ok (.aload_n 0, 1) := by decide +kernel
theorem dL_law_579 : decode cL_law 579 = .ok (.iload 4, 2) := by decide +kernel
theorem dL_law_581 : decode cL_law 581 = .ok (.iconst 3, 1) := by decide +kernel
theorem dL_law_582 : decode cL_law 582 = .ok (.iadd, 1) := by decide +kernel
theorem dL_law_583 : decode cL_law 583 = .ok (.iaload, 1) := by decide +kernel
theorem dL_law_584 : decode cL_law 584 = .ok (.invokevirtual 92, 3) := by decide +kernel
theorem dL_law_587 : decode cL_law 587 = .ok (.istore 6, 2) := by decide +kernel
theorem dL_law_589 : decode cL_law 589 = .ok (.aload_n 2, 1) := by decide +kernel
theorem dL_law_590 : decode cL_law 590 = .ok (.invokevirtual 68, 3) := by decide +kernel
theorem dL_law_593 : decode cL_law 593 = .ok (.iload 5, 2) := by decide +kernel
theorem dL_law_595 : decode cL_law 595 = .ok (.if_icmp .eq 5, 3) := by decide +kernel
theorem dL_law_598 : decode cL_law 598 = .ok (.iconst 0, 1) := by decide +kernel
theorem dL_law_599 : decode cL_law 599 = .ok (.ireturn, 1) := by decide +kernel
theorem dL_law_600 : decode cL_law 600 = .ok (.iload 5, 2) := by decide +kernel
theorem dL_law_602 : decode cL_law 602 = .ok (.ifCond .ne 15, 3) := by decide +kernel
theorem dL_law_605 : decode cL_law 605 = .ok (.aload_n 3, 1) := by decide +kernel
theorem dL_law_606 : decode cL_law 606 = .ok (.iconst 0, 1) := by decide +kernel
theorem dL_law_607 : decode cL_law 607 = .ok (.laload, 1) := by decide +kernel
theorem dL_law_608 : decode cL_law 608 = .ok (.iload 6, 2) := by decide +kernel
theorem dL_law_610 : decode cL_law 610 = .ok (.i2l, 1) := by decide +kernel
theorem dL_law_611 : decode cL_law 611 = .ok (.lcmp, 1) := by decide +kernel
theorem dL_law_612 : decode cL_law 612 = .ok (.ifCond .eq 5, 3) := by decide +kernel
theorem dL_law_615 : decode cL_law 615 = .ok (.iconst 0, 1) := by decide +kernel
theorem dL_law_616 : decode cL_law 616 = .ok (.ireturn, 1) := by decide +kernel
theorem dL_law_617 : decode cL_law 617 = .ok (.goto 364, 3) := by decide +kernel
theorem dL_law_620 : decode cL_law 620 = .ok (.aload_n 1, 1) := by decide +kernel
theorem dL_law_621 : decode cL_law 621 = .ok (.aload_n 0, 1) := by decide +kernel
theorem dL_law_622 : decode cL_law 622 = .ok (.iload 4, 2) := by decide +kernel
theorem dL_law_624 : decode cL_law 624 = .ok (.iconst 1, 1) := by decide +kernel
theorem dL_law_625 : decode cL_law 625 = .ok (.iadd, 1) := by decide +kernel
theorem dL_law_626 : decode cL_law 626 = .ok (.iaload, 1) := by decide +kernel
theorem dL_law_627 : decode cL_law 627 = .ok (.aload_n 0, 1) := by decide +kernel
theorem dL_law_628 : decode cL_law 628 = .ok (.iload 4, 2) := by decide +kernel
theorem dL_law_630 : decode cL_law 630 = .ok (.iconst 2, 1) := by decide +kernel
theorem dL_law_631 : decode cL_law 631 = .ok (.iadd, 1) := by decide +kernel
theorem dL_law_632 : decode cL_law 632 = .ok (.iaload, 1) := by decide +kernel
theorem dL_law_633 : decode cL_law 633 = .ok (.aload_n 3, 1) := by decide +kernel
theorem dL_law_634 : decode cL_law 634 = .ok (.invokestatic 93, 3) := by decide +kernel
theorem dL_law_637 : decode cL_law 637 = .ok (.istore 5, 2) := by decide +kernel
theorem dL_law_639 : decode cL_law 639 = .ok (.aload_n 2, 1) := by decide +kernel
theorem dL_law_640 : decode cL_law 640 = .ok (.aload_n 0, 1) := by decide +kernel
theorem dL_law_641 : decode cL_law 641 = .ok (.iload 4, 2) := by decide +kernel
theorem dL_law_643 : decode cL_law 643 = .ok (.iconst 1, 1) := by decide +kernel
theorem dL_law_644 : decode cL_law 644 = .ok (.iadd, 1) := by decide +kernel
theorem dL_law_645 : decode cL_law 645 = .ok (.iaload, 1) := by decide +kernel
theorem dL_law_646 : decode cL_law 646 = .ok (.aload_n 0, 1) := by decide +kernel
theorem dL_law_647 : decode cL_law 647 = .ok (.iload 4, 2) := by decide +kernel
theorem dL_law_649 : decode cL_law 649 = .ok (.iconst 2, 1) := by decide +kernel
theorem dL_law_650 : decode cL_law 650 = .ok (.iadd, 1) := by decide +kernel
theorem dL_law_651 : decode cL_law 651 = .ok (.iaload, 1) := by decide +kernel
theorem dL_law_652 : decode cL_law 652 = .ok (.invokevirtual 95, 3) := by decide +kernel
theorem dL_law_655 : decode cL_law 655 = .ok (.istore 6, 2) := by decide +kernel
theorem dL_law_657 : decode cL_law 657 = .ok (.aload_n 2, 1) := by decide +kernel
theorem dL_law_658 : decode cL_law 658 = .ok (.invokevirtual 68, 3) := by decide +kernel
theorem dL_law_661 : decode cL_law 661 = .ok (.iload 5, 2) := by decide +kernel
theorem dL_law_663 : decode cL_law 663 = .ok (.if_icmp .eq 5, 3) := by decide +kernel
theorem dL_law_666 : decode cL_law 666 = .ok (.iconst 0, 1) := by decide +kernel
theorem dL_law_667 : decode cL_law 667 = .ok (.ireturn, 1) := by decide +kernel
theorem dL_law_668 : decode cL_law 668 = .ok (.iload 5, 2) := by decide +kernel
theorem dL_law_670 : decode cL_law 670 = .ok (.ifCond .ne 15, 3) := by decide +kernel
theorem dL_law_673 : decode cL_law 673 = .ok (.aload_n 3, 1) := by decide +kernel
theorem dL_law_674 : decode cL_law 674 = .ok (.iconst 0, 1) := by decide +kernel
theorem dL_law_675 : decode cL_law 675 = .ok (.laload, 1) := by decide +kernel
theorem dL_law_676 : decode cL_law 676 = .ok (.iload 6, 2) := by decide +kernel
theorem dL_law_678 : decode cL_law 678 = .ok (.i2l, 1) := by decide +kernel
theorem dL_law_679 : decode cL_law 679 = .ok (.lcmp, 1) := by decide +kernel
theorem dL_law_680 : decode cL_law 680 = .ok (.ifCond .eq 5, 3) := by decide +kernel
theorem dL_law_683 : decode cL_law 683 = .ok (.iconst 0, 1) := by decide +kernel
theorem dL_law_684 : decode cL_law 684 = .ok (.ireturn, 1) := by decide +kernel
theorem dL_law_685 : decode cL_law 685 = .ok (.goto 296, 3) := by decide +kernel
theorem dL_law_688 : decode cL_law 688 = .ok (.aload_n 1, 1) := by decide +kernel
theorem dL_law_689 : decode cL_law 689 = .ok (.aload_n 0, 1) := by decide +kernel
theorem dL_law_690 : decode cL_law 690 = .ok (.iload 4, 2) := by decide +kernel
theorem dL_law_692 : decode cL_law 692 = .ok (.iconst 1, 1) := by decide +kernel
theorem dL_law_693 : decode cL_law 693 = .ok (.iadd, 1) := by decide +kernel
theorem dL_law_694 : decode cL_law 694 = .ok (.iaload, 1) := by decide +kernel
theorem dL_law_695 : decode cL_law 695 = .ok (.aload_n 3, 1) := by decide +kernel
theorem dL_law_696 : decode cL_law 696 = .ok (.invokestatic 96, 3) := by decide +kernel
theorem dL_law_699 : decode cL_law 699 = .ok (.istore 5, 2) := by decide +kernel
theorem dL_law_701 : decode cL_law 701 = .ok (.aload_n 2, 1) := by decide +kernel
theorem dL_law_702 : decode cL_law 702 = .ok (.aload_n 0, 1) := by decide +kernel
theorem dL_law_703 : decode cL_law 703 = .ok (.iload 4, 2) := by decide +kernel
theorem dL_law_705 : decode cL_law 705 = .ok (.iconst 1, 1) := by decide +kernel
theorem dL_law_706 : decode cL_law 706 = .ok (.iadd, 1) := by decide +kernel
theorem dL_law_707 : decode cL_law 707 = .ok (.iaload, 1) := by decide +kernel
theorem dL_law_708 : decode cL_law 708 = .ok (.invokevirtual 98, 3) := by decide +kernel
theorem dL_law_711 : decode cL_law 711 = .ok (.istore 6, 2) := by decide +kernel
theorem dL_law_713 : decode cL_law 713 = .ok (.aload_n 2, 1) := by decide +kernel
theorem dL_law_714 : decode cL_law 714 = .ok (.invokevirtual 68, 3) := by decide +kernel
theorem dL_law_717 : decode cL_law 717 = .ok (.iload 5, 2) := by decide +kernel
theorem dL_law_719 : decode cL_law 719 = .ok (.if_icmp .eq 5, 3) := by decide +kernel
theorem dL_law_722 : decode cL_law 722 = .ok (.iconst 0, 1) := by decide +kernel
theorem dL_law_723 : decode cL_law 723 = .ok (.ireturn, 1) := by decide +kernel
theorem dL_law_724 : decode cL_law 724 = .ok (.iload 5, 2) := by decide +kernel
theorem dL_law_726 : decode cL_law 726 = .ok (.ifCond .ne 15, 3) := by decide +kernel
theorem dL_law_729 : decode cL_law 729 = .ok (.aload_n 3, 1) := by decide +kernel
theorem dL_law_730 : decode cL_law 730 = .ok (.iconst 0, 1) := by decide +kernel
theorem dL_law_731 : decode cL_law 731 = .ok (.laload, 1) := by decide +kernel
theorem dL_law_732 : decode cL_law 732 = .ok (.iload 6, 2) := by decide +kernel
theorem dL_law_734 : decode cL_law 734 = .ok (.i2l, 1) := by decide +kernel
theorem dL_law_735 : decode cL_law 735 = .ok (.lcmp, 1) := by decide +kernel
theorem dL_law_736 : decode cL_law 736 = .ok (.ifCond .eq 5, 3) := by decide +kernel
theorem dL_law_739 : decode cL_law 739 = .ok (.iconst 0, 1) := by decide +kernel
theorem dL_law_740 : decode cL_law 740 = .ok (.ireturn, 1) := by decide +kernel
theorem dL_law_741 : decode cL_law 741 = .ok (.goto 240, 3) := by decide +kernel
theorem dL_law_744 : decode cL_law 744 = .ok (.aload_n 1, 1) := by decide +kernel
theorem dL_law_745 : decode cL_law 745 = .ok (.invokevirtual 99, 3) := by decide +kernel
theorem dL_law_748 : decode cL_law 748 = .ok (.aload_n 2, 1) := by decide +kernel
theorem dL_law_749 : decode cL_law 749 = .ok (.invokevirtual 102, 3) := by decide +kernel
theorem dL_law_752 : decode cL_law 752 = .ok (.if_icmp .eq 229, 3) := by decide +kernel
theorem dL_law_755 : decode cL_law 755 = .ok (.iconst 0, 1) := by decide +kernel
theorem dL_law_756 : decode cL_law 756 = .ok (.ireturn, 1) := by decide +kernel
theorem dL_law_757 : decode cL_law 757 = .ok (.aload_n 1, 1) := by decide +kernel
theorem dL_law_758 : decode cL_law 758 = .ok (.aload_n 0, 1) := by decide +kernel
theorem dL_law_759 : decode cL_law 759 = .ok (.iload 4, 2) := by decide +kernel
theorem dL_law_761 : decode cL_law 761 = .ok (.iconst 1, 1) := by decide +kernel
theorem dL_law_762 : decode cL_law 762 = .ok (.iadd, 1) := by decide +kernel
theorem dL_law_763 : decode cL_law 763 = .ok (.iaload, 1) := by decide +kernel
theorem dL_law_764 : decode cL_law 764 = .ok (.aload_n 3, 1) := by decide +kernel
theorem dL_law_765 : decode cL_law 765 = .ok (.invokestatic 103, 3) := by decide +kernel
theorem dL_law_768 : decode cL_law 768 = .ok (.istore 5, 2) := by decide +kernel
theorem dL_law_770 : decode cL_law 770 = .ok (.aload_n 2, 1) := by decide +kernel
theorem dL_law_771 : decode cL_law 771 = .ok (.aload_n 0, 1) := by decide +kernel
theorem dL_law_772 : decode cL_law 772 = .ok (.iload 4, 2) := by decide +kernel
theorem dL_law_774 : decode cL_law 774 = .ok (.iconst 1, 1) := by decide +kernel
theorem dL_law_775 : decode cL_law 775 = .ok (.iadd, 1) := by decide +kernel
theorem dL_law_776 : decode cL_law 776 = .ok (.iaload, 1) := by decide +kernel
theorem dL_law_777 : decode cL_law 777 = .ok (.invokevirtual 105, 3) := by decide +kernel
theorem dL_law_780 : decode cL_law 780 = .ok (.istore 6, 2) := by decide +kernel
theorem dL_law_782 : decode cL_law 782 = .ok (.aload_n 2, 1) := by decide +kernel
theorem dL_law_783 : decode cL_law 783 = .ok (.invokevirtual 68, 3) := by decide +kernel
theorem dL_law_786 : decode cL_law 786 = .ok (.iload 5, 2) := by decide +kernel
theorem dL_law_788 : decode cL_law 788 = .ok (.if_icmp .eq 5, 3) := by decide +kernel
theorem dL_law_791 : decode cL_law 791 = .ok (.iconst 0, 1) := by decide +kernel
theorem dL_law_792 : decode cL_law 792 = .ok (.ireturn, 1) := by decide +kernel
theorem dL_law_793 : decode cL_law 793 = .ok (.iload 5, 2) := by decide +kernel
theorem dL_law_795 : decode cL_law 795 = .ok (.ifCond .ne 15, 3) := by decide +kernel
theorem dL_law_798 : decode cL_law 798 = .ok (.aload_n 3, 1) := by decide +kernel
theorem dL_law_799 : decode cL_law 799 = .ok (.iconst 0, 1) := by decide +kernel
theorem dL_law_800 : decode cL_law 800 = .ok (.laload, 1) := by decide +kernel
theorem dL_law_801 : decode cL_law 801 = .ok (.iload 6, 2) := by decide +kernel
theorem dL_law_803 : decode cL_law 803 = .ok (.i2l, 1) := by decide +kernel
theorem dL_law_804 : decode cL_law 804 = .ok (.lcmp, 1) := by decide +kernel
theorem dL_law_805 : decode cL_law 805 = .ok (.ifCond .eq 5, 3) := by decide +kernel
theorem dL_law_808 : decode cL_law 808 = .ok (.iconst 0, 1) := by decide +kernel
theorem dL_law_809 : decode cL_law 809 = .ok (.ireturn, 1) := by decide +kernel
theorem dL_law_810 : decode cL_law 810 = .ok (.goto 171, 3) := by decide +kernel
theorem dL_law_813 : decode cL_law 813 = .ok (.aload_n 1, 1) := by decide +kernel
theorem dL_law_814 : decode cL_law 814 = .ok (.aload_n 0, 1) := by decide +kernel
theorem dL_law_815 : decode cL_law 815 = .ok (.iload 4, 2) := by decide +kernel
theorem dL_law_817 : decode cL_law 817 = .ok (.iconst 1, 1) := by decide +kernel
theorem dL_law_818 : decode cL_law 818 = .ok (.iadd, 1) := by decide +kernel
theorem dL_law_819 : decode cL_law 819 = .ok (.iaload, 1) := by decide +kernel
theorem dL_law_820 : decode cL_law 820 = .ok (.aload_n 3, 1) := by decide +kernel
theorem dL_law_821 : decode cL_law 821 = .ok (.invokestatic 106, 3) := by decide +kernel
theorem dL_law_824 : decode cL_law 824 = .ok (.istore 5, 2) := by decide +kernel
theorem dL_law_826 : decode cL_law 826 = .ok (.aload_n 2, 1) := by decide +kernel
theorem dL_law_827 : decode cL_law 827 = .ok (.aload_n 0, 1) := by decide +kernel
theorem dL_law_828 : decode cL_law 828 = .ok (.iload 4, 2) := by decide +kernel
theorem dL_law_830 : decode cL_law 830 = .ok (.iconst 1, 1) := by decide +kernel
theorem dL_law_831 : decode cL_law 831 = .ok (.iadd, 1) := by decide +kernel
theorem dL_law_832 : decode cL_law 832 = .ok (.iaload, 1) := by decide +kernel
theorem dL_law_833 : decode cL_law 833 = .ok (.invokevirtual 108, 3) := by decide +kernel
theorem dL_law_836 : decode cL_law 836 = .ok (.istore 6, 2) := by decide +kernel
theorem dL_law_838 : decode cL_law 838 = .ok (.aload_n 2, 1) := by decide +kernel
theorem dL_law_839 : decode cL_law 839 = .ok (.invokevirtual 68, 3) := by decide +kernel
theorem dL_law_842 : decode cL_law 842 = .ok (.iload 5, 2) := by decide +kernel
theorem dL_law_844 : decode cL_law 844 = .ok (.if_icmp .eq 5, 3) := by decide +kernel
theorem dL_law_847 : decode cL_law 847 = .ok (.iconst 0, 1) := by decide +kernel
theorem dL_law_848 : decode cL_law 848 = .ok (.ireturn, 1) := by decide +kernel
theorem dL_law_849 : decode cL_law 849 = .ok (.iload 5, 2) := by decide +kernel
theorem dL_law_851 : decode cL_law 851 = .ok (.ifCond .ne 15, 3) := by decide +kernel
theorem dL_law_854 : decode cL_law 854 = .ok (.aload_n 3, 1) := by decide +kernel
theorem dL_law_855 : decode cL_law 855 = .ok (.iconst 0, 1) := by decide +kernel
theorem dL_law_856 : decode cL_law 856 = .ok (.laload, 1) := by decide +kernel
theorem dL_law_857 : decode cL_law 857 = .ok (.iload 6, 2) := by decide +kernel
theorem dL_law_859 : decode cL_law 859 = .ok (.i2l, 1) := by decide +kernel
theorem dL_law_860 : decode cL_law 860 = .ok (.lcmp, 1) := by decide +kernel
theorem dL_law_861 : decode cL_law 861 = .ok (.ifCond .eq 5, 3) := by decide +kernel
theorem dL_law_864 : decode cL_law 864 = .ok (.iconst 0, 1) := by decide +kernel
theorem dL_law_865 : decode cL_law 865 = .ok (.ireturn, 1) := by decide +kernel
theorem dL_law_866 : decode cL_law 866 = .ok (.goto 115, 3) := by decide +kernel
theorem dL_law_869 : decode cL_law 869 = .ok (.aload_n 1, 1) := by decide +kernel
theorem dL_law_870 : decode cL_law 870 = .ok (.aload_n 0, 1) := by decide +kernel
theorem dL_law_871 : decode cL_law 871 = .ok (.iload 4, 2) := by decide +kernel
theorem dL_law_873 : decode cL_law 873 = .ok (.iconst 1, 1) := by decide +kernel
theorem dL_law_874 : decode cL_law 874 = .ok (.iadd, 1) := by decide +kernel
theorem dL_law_875 : decode cL_law 875 = .ok (.iaload, 1) := by decide +kernel
theorem dL_law_876 : decode cL_law 876 = .ok (.aload_n 3, 1) := by decide +kernel
theorem dL_law_877 : decode cL_law 877 = .ok (.invokestatic 109, 3) := by decide +kernel
theorem dL_law_880 : decode cL_law 880 = .ok (.istore 5, 2) := by decide +kernel
theorem dL_law_882 : decode cL_law 882 = .ok (.aload_n 2, 1) := by decide +kernel
theorem dL_law_883 : decode cL_law 883 = .ok (.aload_n 0, 1) := by decide +kernel
theorem dL_law_884 : decode cL_law 884 = .ok (.iload 4, 2) := by decide +kernel
theorem dL_law_886 : decode cL_law 886 = .ok (.iconst 1, 1) := by decide +kernel
theorem dL_law_887 : decode cL_law 887 = .ok (.iadd, 1) := by decide +kernel
theorem dL_law_888 : decode cL_law 888 = .ok (.iaload, 1) := by decide +kernel
theorem dL_law_889 : decode cL_law 889 = .ok (.invokevirtual 111, 3) := by decide +kernel
theorem dL_law_892 : decode cL_law 892 = .ok (.istore 6, 2) := by decide +kernel
theorem dL_law_894 : decode cL_law 894 = .ok (.aload_n 2, 1) := by decide +kernel
theorem dL_law_895 : decode cL_law 895 = .ok (.invokevirtual 68, 3) := by decide +kernel
theorem dL_law_898 : decode cL_law 898 = .ok (.iload 5, 2) := by decide +kernel
theorem dL_law_900 : decode cL_law 900 = .ok (.if_icmp .eq 5, 3) := by decide +kernel
theorem dL_law_903 : decode cL_law 903 = .ok (.iconst 0, 1) := by decide +kernel
theorem dL_law_904 : decode cL_law 904 = .ok (.ireturn, 1) := by decide +kernel
theorem dL_law_905 : decode cL_law 905 = .ok (.iload 5, 2) := by decide +kernel
theorem dL_law_907 : decode cL_law 907 = .ok (.ifCond .ne 15, 3) := by decide +kernel
theorem dL_law_910 : decode cL_law 910 = .ok (.aload_n 3, 1) := by decide +kernel
theorem dL_law_911 : decode cL_law 911 = .ok (.iconst 0, 1) := by decide +kernel
theorem dL_law_912 : decode cL_law 912 = .ok (.laload, 1) := by decide +kernel
theorem dL_law_913 : decode cL_law 913 = .ok (.iload 6, 2) := by decide +kernel
theorem dL_law_915 : decode cL_law 915 = .ok (.i2l, 1) := by decide +kernel
theorem dL_law_916 : decode cL_law 916 = .ok (.lcmp, 1) := by decide +kernel
theorem dL_law_917 : decode cL_law 917 = .ok (.ifCond .eq 5, 3) := by decide +kernel
theorem dL_law_920 : decode cL_law 920 = .ok (.iconst 0, 1) := by decide +kernel
theorem dL_law_921 : decode cL_law 921 = .ok (.ireturn, 1) := by decide +kernel
theorem dL_law_922 : decode cL_law 922 = .ok (.goto 59, 3) := by decide +kernel
theorem dL_law_925 : decode cL_law 925 = .ok (.aload_n 1, 1) := by decide +kernel
theorem dL_law_926 : decode cL_law 926 = .ok (.aload_n 0, 1) := by decide +kernel
theorem dL_law_927 : decode cL_law 927 = .ok (.iload 4, 2) := by decide +kernel
theorem dL_law_929 : decode cL_law 929 = .ok (.iconst 1, 1) := by decide +kernel
theorem dL_law_930 : decode cL_law 930 = .ok (.iadd, 1) := by decide +kernel
theorem dL_law_931 : decode cL_law 931 = .ok (.iaload, 1) := by decide +kernel
theorem dL_law_932 : decode cL_law 932 = .ok (.aload_n 3, 1) := by decide +kernel
theorem dL_law_933 : decode cL_law 933 = .ok (.invokestatic 112, 3) := by decide +kernel
theorem dL_law_936 : decode cL_law 936 = .ok (.istore 5, 2) := by decide +kernel
theorem dL_law_938 : decode cL_law 938 = .ok (.aload_n 2, 1) := by decide +kernel
theorem dL_law_939 : decode cL_law 939 = .ok (.aload_n 0, 1) := by decide +kernel
theorem dL_law_940 : decode cL_law 940 = .ok (.iload 4, 2) := by decide +kernel
theorem dL_law_942 : decode cL_law 942 = .ok (.iconst 1, 1) := by decide +kernel
theorem dL_law_943 : decode cL_law 943 = .ok (.iadd, 1) := by decide +kernel
theorem dL_law_944 : decode cL_law 944 = .ok (.iaload, 1) := by decide +kernel
theorem dL_law_945 : decode cL_law 945 = .ok (.invokevirtual 114, 3) := by decide +kernel
theorem dL_law_948 : decode cL_law 948 = .ok (.istore 6, 2) := by decide +kernel
theorem dL_law_950 : decode cL_law 950 = .ok (.aload_n 2, 1) := by decide +kernel
theorem dL_law_951 : decode cL_law 951 = .ok (.invokevirtual 68, 3) := by decide +kernel
theorem dL_law_954 : decode cL_law 954 = .ok (.iload 5, 2) := by decide +kernel
theorem dL_law_956 : decode cL_law 956 = .ok (.if_icmp .eq 5, 3) := by decide +kernel
theorem dL_law_959 : decode cL_law 959 = .ok (.iconst 0, 1) := by decide +kernel
theorem dL_law_960 : decode cL_law 960 = .ok (.ireturn, 1) := by decide +kernel
theorem dL_law_961 : decode cL_law 961 = .ok (.iload 5, 2) := by decide +kernel
theorem dL_law_963 : decode cL_law 963 = .ok (.ifCond .ne 15, 3) := by decide +kernel
theorem dL_law_966 : decode cL_law 966 = .ok (.aload_n 3, 1) := by decide +kernel
theorem dL_law_967 : decode cL_law 967 = .ok (.iconst 0, 1) := by decide +kernel
theorem dL_law_968 : decode cL_law 968 = .ok (.laload, 1) := by decide +kernel
theorem dL_law_969 : decode cL_law 969 = .ok (.iload 6, 2) := by decide +kernel
theorem dL_law_971 : decode cL_law 971 = .ok (.i2l, 1) := by decide +kernel
theorem dL_law_972 : decode cL_law 972 = .ok (.lcmp, 1) := by decide +kernel
theorem dL_law_973 : decode cL_law 973 = .ok (.ifCond .eq 5, 3) := by decide +kernel
theorem dL_law_976 : decode cL_law 976 = .ok (.iconst 0, 1) := by decide +kernel
theorem dL_law_977 : decode cL_law 977 = .ok (.ireturn, 1) := by decide +kernel
theorem dL_law_978 : decode cL_law 978 = .ok (.goto 3, 3) := by decide +kernel
theorem dL_law_981 : decode cL_law 981 = .ok (.iinc 4 5, 3) := by decide +kernel
theorem dL_law_984 : decode cL_law 984 = .ok (.goto (-961), 3) := by decide +kernel
theorem dL_law_987 : decode cL_law 987 = .ok (.iconst 1, 1) := by decide +kernel
theorem dL_law_988 : decode cL_law 988 = .ok (.ireturn, 1) := by decide +kernel
