theorem d_La_law_0 : decode code 0 = .ok (.new 7, 3) := by decide +kernel
theorem d_La_law_3 : decode code 3 = .ok (.dup, 1) := by decide +kernel
theorem d_La_law_4 : decode code 4 = .ok (.invokespecial 9, 3) := by decide +kernel
theorem d_La_law_7 : decode code 7 = .ok (.astore_n 1, 1) := by decide +kernel
theorem d_La_law_8 : decode code 8 = .ok (.new 10, 3) := by decide +kernel
theorem d_La_law_11 : decode code 11 = .ok (.dup, 1) := by decide +kernel
theorem d_La_law_12 : decode code 12 = .ok (.invokespecial 12, 3) := by decide +kernel
theorem d_La_law_15 : decode code 15 = .ok (.astore_n 2, 1) := by decide +kernel
theorem d_La_law_16 : decode code 16 = .ok (.iconst 0, 1) := by decide +kernel
theorem d_La_law_17 : decode code 17 = .ok (.istore_n 3, 1) := by decide +kernel
theorem d_La_law_18 : decode code 18 = .ok (.iload_n 3, 1) := by decide +kernel
theorem d_La_law_19 : decode code 19 = .ok (.aload_n 0, 1) := by decide +kernel
theorem d_La_law_20 : decode code 20 = .ok (.arraylength, 1) := by decide +kernel
theorem d_La_law_21 : decode code 21 = .ok (.iconst 4, 1) := by decide +kernel
theorem d_La_law_22 : decode code 22 = .ok (.isub, 1) := by decide +kernel
theorem d_La_law_23 : decode code 23 = .ok (.if_icmp .gt 473, 3) := by decide +kernel
theorem d_La_law_26 : decode code 26 = .ok (.aload_n 0, 1) := by decide +kernel
theorem d_La_law_27 : decode code 27 = .ok (.iload_n 3, 1) := by decide +kernel
theorem d_La_law_28 : decode code 28 = .ok (.iaload, 1) := by decide +kernel
theorem d_La_law_29 : decode code 29 = .ok (.bipush 15, 2) := by decide +kernel
theorem d_La_law_31 : decode code 31 = .ok (.iand, 1) := by decide +kernel
theorem d_La_law_32 : decode code 32 = .ok (.tableswitch 458 0 13 #[72, 93, 106, 155, 178, 211, 224, 277, 320, 343, 366, 389, 412, 445], 72) := by decide +kernel
theorem d_La_law_104 : decode code 104 = .ok (.aload_n 1, 1) := by decide +kernel
theorem d_La_law_105 : decode code 105 = .ok (.aload_n 0, 1) := by decide +kernel
theorem d_La_law_106 : decode code 106 = .ok (.iload_n 3, 1) := by decide +kernel
theorem d_La_law_107 : decode code 107 = .ok (.iconst 1, 1) := by decide +kernel
theorem d_La_law_108 : decode code 108 = .ok (.iadd, 1) := by decide +kernel
theorem d_La_law_109 : decode code 109 = .ok (.iaload, 1) := by decide +kernel
theorem d_La_law_110 : decode code 110 = .ok (.invokevirtual 13, 3) := by decide +kernel
theorem d_La_law_113 : decode code 113 = .ok (.aload_n 2, 1) := by decide +kernel
theorem d_La_law_114 : decode code 114 = .ok (.aload_n 0, 1) := by decide +kernel
theorem d_La_law_115 : decode code 115 = .ok (.iload_n 3, 1) := by decide +kernel
theorem d_La_law_116 : decode code 116 = .ok (.iconst 1, 1) := by decide +kernel
theorem d_La_law_117 : decode code 117 = .ok (.iadd, 1) := by decide +kernel
theorem d_La_law_118 : decode code 118 = .ok (.iaload, 1) := by decide +kernel
theorem d_La_law_119 : decode code 119 = .ok (.invokevirtual 17, 3) := by decide +kernel
theorem d_La_law_122 : decode code 122 = .ok (.goto 368, 3) := by decide +kernel
theorem d_La_law_125 : decode code 125 = .ok (.aload_n 1, 1) := by decide +kernel
theorem d_La_law_126 : decode code 126 = .ok (.invokevirtual 18, 3) := by decide +kernel
theorem d_La_law_129 : decode code 129 = .ok (.aload_n 2, 1) := by decide +kernel
theorem d_La_law_130 : decode code 130 = .ok (.invokevirtual 22, 3) := by decide +kernel
theorem d_La_law_133 : decode code 133 = .ok (.if_icmp .eq 357, 3) := by decide +kernel
theorem d_La_law_136 : decode code 136 = .ok (.iconst 0, 1) := by decide +kernel
theorem d_La_law_137 : decode code 137 = .ok (.ireturn, 1) := by decide +kernel
theorem d_La_law_138 : decode code 138 = .ok (.aload_n 1, 1) := by decide +kernel
theorem d_La_law_139 : decode code 139 = .ok (.aload_n 0, 1) := by decide +kernel
theorem d_La_law_140 : decode code 140 = .ok (.iload_n 3, 1) := by decide +kernel
theorem d_La_law_141 : decode code 141 = .ok (.iconst 1, 1) := by decide +kernel
theorem d_La_law_142 : decode code 142 = .ok (.iadd, 1) := by decide +kernel
theorem d_La_law_143 : decode code 143 = .ok (.iaload, 1) := by decide +kernel
theorem d_La_law_144 : decode code 144 = .ok (.aload_n 0, 1) := by decide +kernel
theorem d_La_law_145 : decode code 145 = .ok (.iload_n 3, 1) := by decide +kernel
theorem d_La_law_146 : decode code 146 = .ok (.iconst 2, 1) := by decide +kernel
theorem d_La_law_147 : decode code 147 = .ok (.iadd, 1) := by decide +kernel
theorem d_La_law_148 : decode code 148 = .ok (.iaload, 1) := by decide +kernel
theorem d_La_law_149 : decode code 149 = .ok (.ifCond .eq 7, 3) := by decide +kernel
theorem d_La_law_152 : decode code 152 = .ok (.iconst 1, 1) := by decide +kernel
theorem d_La_law_153 : decode code 153 = .ok (.goto 4, 3) := by decide +kernel
theorem d_La_law_156 : decode code 156 = .ok (.iconst 0, 1) := by decide +kernel
theorem d_La_law_157 : decode code 157 = .ok (.invokevirtual 23, 3) := by decide +kernel
theorem d_La_law_160 : decode code 160 = .ok (.aload_n 2, 1) := by decide +kernel
theorem d_La_law_161 : decode code 161 = .ok (.aload_n 0, 1) := by decide +kernel
theorem d_La_law_162 : decode code 162 = .ok (.iload_n 3, 1) := by decide +kernel
theorem d_La_law_163 : decode code 163 = .ok (.iconst 1, 1) := by decide +kernel
theorem d_La_law_164 : decode code 164 = .ok (.iadd, 1) := by decide +kernel
theorem d_La_law_165 : decode code 165 = .ok (.iaload, 1) := by decide +kernel
theorem d_La_law_166 : decode code 166 = .ok (.aload_n 0, 1) := by decide +kernel
theorem d_La_law_167 : decode code 167 = .ok (.iload_n 3, 1) := by decide +kernel
theorem d_La_law_168 : decode code 168 = .ok (.iconst 2, 1) := by decide +kernel
theorem d_La_law_169 : decode code 169 = .ok (.iadd, 1) := by decide +kernel
theorem d_La_law_170 : decode code 170 = .ok (.iaload, 1) := by decide +kernel
theorem d_La_law_171 : decode code 171 = .ok (.ifCond .eq 7, 3) := by decide +kernel
theorem d_La_law_174 : decode code 174 = .ok (.iconst 1, 1) := by decide +kernel
theorem d_La_law_175 : decode code 175 = .ok (.goto 4, 3) := by decide +kernel
theorem d_La_law_178 : decode code 178 = .ok (.iconst 0, 1) := by decide +kernel
theorem d_La_law_179 : decode code 179 = .ok (.invokevirtual 27, 3) := by decide +kernel
theorem d_La_law_182 : decode code 182 = .ok (.if_icmp .eq 308, 3) := by decide +kernel
theorem d_La_law_185 : decode code 185 = .ok (.iconst 0, 1) := by decide +kernel
theorem d_La_law_186 : decode code 186 = .ok (.ireturn, 1) := by decide +kernel
theorem d_La_law_187 : decode code 187 = .ok (.aload_n 1, 1) := by decide +kernel
theorem d_La_law_188 : decode code 188 = .ok (.aload_n 0, 1) := by decide +kernel
theorem d_La_law_189 : decode code 189 = .ok (.iload_n 3, 1) := by decide +kernel
theorem d_La_law_190 : decode code 190 = .ok (.iconst 1, 1) := by decide +kernel
theorem d_La_law_191 : decode code 191 = .ok (.iadd, 1) := by decide +kernel
theorem d_La_law_192 : decode code 192 = .ok (.iaload, 1) := by decide +kernel
theorem d_La_law_193 : decode code 193 = .ok (.invokevirtual 28, 3) := by decide +kernel
theorem d_La_law_196 : decode code 196 = .ok (.aload_n 2, 1) := by decide +kernel
theorem d_La_law_197 : decode code 197 = .ok (.aload_n 0, 1) := by decide +kernel
theorem d_La_law_198 : decode code 198 = .ok (.iload_n 3, 1) := by decide +kernel
theorem d_La_law_199 : decode code 199 = .ok (.iconst 1, 1) := by decide +kernel
theorem d_La_law_200 : decode code 200 = .ok (.iadd, 1) := by decide +kernel
theorem d_La_law_201 : decode code 201 = .ok (.iaload, 1) := by decide +kernel
theorem d_La_law_202 : decode code 202 = .ok (.invokevirtual 32, 3) := by decide +kernel
theorem d_La_law_205 : decode code 205 = .ok (.if_icmp .eq 285, 3) := by decide +kernel
theorem d_La_law_208 : decode code 208 = .ok (.iconst 0, 1) := by decide +kernel
theorem d_La_law_209 : decode code 209 = .ok (.ireturn, 1) := by decide +kernel
theorem d_La_law_210 : decode code 210 = .ok (.aload_n 1, 1) := by decide +kernel
theorem d_La_law_211 : decode code 211 = .ok (.aload_n 0, 1) := by decide +kernel
theorem d_La_law_212 : decode code 212 = .ok (.iload_n 3, 1) := by decide +kernel
theorem d_La_law_213 : decode code 213 = .ok (.iconst 1, 1) := by decide +kernel
theorem d_La_law_214 : decode code 214 = .ok (.iadd, 1) := by decide +kernel
theorem d_La_law_215 : decode code 215 = .ok (.iaload, 1) := by decide +kernel
theorem d_La_law_216 : decode code 216 = .ok (.aload_n 0, 1) := by decide +kernel
theorem d_La_law_217 : decode code 217 = .ok (.iload_n 3, 1) := by decide +kernel
theorem d_La_law_218 : decode code 218 = .ok (.iconst 2, 1) := by decide +kernel
theorem d_La_law_219 : decode code 219 = .ok (.iadd, 1) := by decide +kernel
theorem d_La_law_220 : decode code 220 = .ok (.iaload, 1) := by decide +kernel
theorem d_La_law_221 : decode code 221 = .ok (.invokevirtual 33, 3) := by decide +kernel
theorem d_La_law_224 : decode code 224 = .ok (.aload_n 2, 1) := by decide +kernel
theorem d_La_law_225 : decode code 225 = .ok (.aload_n 0, 1) := by decide +kernel
theorem d_La_law_226 : decode code 226 = .ok (.iload_n 3, 1) := by decide +kernel
theorem d_La_law_227 : decode code 227 = .ok (.iconst 1, 1) := by decide +kernel
theorem d_La_law_228 : decode code 228 = .ok (.iadd, 1) := by decide +kernel
theorem d_La_law_229 : decode code 229 = .ok (.iaload, 1) := by decide +kernel
theorem d_La_law_230 : decode code 230 = .ok (.aload_n 0, 1) := by decide +kernel
theorem d_La_law_231 : decode code 231 = .ok (.iload_n 3, 1) := by decide +kernel
theorem d_La_law_232 : decode code 232 = .ok (.iconst 2, 1) := by decide +kernel
theorem d_La_law_233 : decode code 233 = .ok (.iadd, 1) := by decide +kernel
theorem d_La_law_234 : decode code 234 = .ok (.iaload, 1) := by decide +kernel
theorem d_La_law_235 : decode code 235 = .ok (.invokevirtual 37, 3) := by decide +kernel
theorem d_La_law_238 : decode code 238 = .ok (.if_icmp .eq 252, 3) := by decide +kernel
theorem d_La_law_241 : decode code 241 = .ok (.iconst 0, 1) := by decide +kernel
theorem d_La_law_242 : decode code 242 = .ok (.ireturn, 1) := by decide +kernel
theorem d_La_law_243 : decode code 243 = .ok (.aload_n 1, 1) := by decide +kernel
theorem d_La_law_244 : decode code 244 = .ok (.invokevirtual 38, 3) := by decide +kernel
theorem d_La_law_247 : decode code 247 = .ok (.aload_n 2, 1) := by decide +kernel
theorem d_La_law_248 : decode code 248 = .ok (.invokevirtual 41, 3) := by decide +kernel
theorem d_La_law_251 : decode code 251 = .ok (.if_icmp .eq 239, 3) := by decide +kernel
theorem d_La_law_254 : decode code 254 = .ok (.iconst 0, 1) := by decide +kernel
theorem d_La_law_255 : decode code 255 = .ok (.ireturn, 1) := by decide +kernel
theorem d_La_law_256 : decode code 256 = .ok (.aload_n 1, 1) := by decide +kernel
theorem d_La_law_257 : decode code 257 = .ok (.aload_n 0, 1) := by decide +kernel
theorem d_La_law_258 : decode code 258 = .ok (.iload_n 3, 1) := by decide +kernel
theorem d_La_law_259 : decode code 259 = .ok (.iconst 1, 1) := by decide +kernel
theorem d_La_law_260 : decode code 260 = .ok (.iadd, 1) := by decide +kernel
theorem d_La_law_261 : decode code 261 = .ok (.iaload, 1) := by decide +kernel
theorem d_La_law_262 : decode code 262 = .ok (.i2l, 1) := by decide +kernel
theorem d_La_law_263 : decode code 263 = .ok (.bipush 32, 2) := by decide +kernel
theorem d_La_law_265 : decode code 265 = .ok (.lshl, 1) := by decide +kernel
theorem d_La_law_266 : decode code 266 = .ok (.aload_n 0, 1) := by decide +kernel
theorem d_La_law_267 : decode code 267 = .ok (.iload_n 3, 1) := by decide +kernel
theorem d_La_law_268 : decode code 268 = .ok (.iconst 2, 1) := by decide +kernel
theorem d_La_law_269 : decode code 269 = .ok (.iadd, 1) := by decide +kernel
theorem d_La_law_270 : decode code 270 = .ok (.iaload, 1) := by decide +kernel
theorem d_La_law_271 : decode code 271 = .ok (.i2l, 1) := by decide +kernel
theorem d_La_law_272 : decode code 272 = .ok (.ldc2_w 42, 3) := by decide +kernel
theorem d_La_law_275 : decode code 275 = .ok (.land, 1) := by decide +kernel
theorem d_La_law_276 : decode code 276 = .ok (.lor, 1) := by decide +kernel
theorem d_La_law_277 : decode code 277 = .ok (.invokevirtual 44, 3) := by decide +kernel
theorem d_La_law_280 : decode code 280 = .ok (.aload_n 2, 1) := by decide +kernel
theorem d_La_law_281 : decode code 281 = .ok (.aload_n 0, 1) := by decide +kernel
theorem d_La_law_282 : decode code 282 = .ok (.iload_n 3, 1) := by decide +kernel
theorem d_La_law_283 : decode code 283 = .ok (.iconst 1, 1) := by decide +kernel
theorem d_La_law_284 : decode code 284 = .ok (.iadd, 1) := by decide +kernel
theorem d_La_law_285 : decode code 285 = .ok (.iaload, 1) := by decide +kernel
theorem d_La_law_286 : decode code 286 = .ok (.i2l, 1) := by decide +kernel
theorem d_La_law_287 : decode code 287 = .ok (.bipush 32, 2) := by decide +kernel
theorem d_La_law_289 : decode code 289 = .ok (.lshl, 1) := by decide +kernel
theorem d_La_law_290 : decode code 290 = .ok (.aload_n 0, 1) := by decide +kernel
theorem d_La_law_291 : decode code 291 = .ok (.iload_n 3, 1) := by decide +kernel
theorem d_La_law_292 : decode code 292 = .ok (.iconst 2, 1) := by decide +kernel
theorem d_La_law_293 : decode code 293 = .ok (.iadd, 1) := by decide +kernel
theorem d_La_law_294 : decode code 294 = .ok (.iaload, 1) := by decide +kernel
theorem d_La_law_295 : decode code 295 = .ok (.i2l, 1) := by decide +kernel
theorem d_La_law_296 : decode code 296 = .ok (.ldc2_w 42, 3) := by decide +kernel
theorem d_La_law_299 : decode code 299 = .ok (.land, 1) := by decide +kernel
theorem d_La_law_300 : decode code 300 = .ok (.lor, 1) := by decide +kernel
theorem d_La_law_301 : decode code 301 = .ok (.invokevirtual 48, 3) := by decide +kernel
theorem d_La_law_304 : decode code 304 = .ok (.if_icmp .eq 186, 3) := by decide +kernel
theorem d_La_law_307 : decode code 307 = .ok (.iconst 0, 1) := by decide +kernel
theorem d_La_law_308 : decode code 308 = .ok (.ireturn, 1) := by decide +kernel
theorem d_La_law_309 : decode code 309 = .ok (.aload_n 1, 1) := by decide +kernel
theorem d_La_law_310 : decode code 310 = .ok (.aload_n 0, 1) := by decide +kernel
theorem d_La_law_311 : decode code 311 = .ok (.iload_n 3, 1) := by decide +kernel
theorem d_La_law_312 : decode code 312 = .ok (.iconst 1, 1) := by decide +kernel
theorem d_La_law_313 : decode code 313 = .ok (.iadd, 1) := by decide +kernel
theorem d_La_law_314 : decode code 314 = .ok (.iaload, 1) := by decide +kernel
theorem d_La_law_315 : decode code 315 = .ok (.aload_n 0, 1) := by decide +kernel
theorem d_La_law_316 : decode code 316 = .ok (.iload_n 3, 1) := by decide +kernel
theorem d_La_law_317 : decode code 317 = .ok (.iconst 2, 1) := by decide +kernel
theorem d_La_law_318 : decode code 318 = .ok (.iadd, 1) := by decide +kernel
theorem d_La_law_319 : decode code 319 = .ok (.iaload, 1) := by decide +kernel
theorem d_La_law_320 : decode code 320 = .ok (.aload_n 0, 1) := by decide +kernel
theorem d_La_law_321 : decode code 321 = .ok (.iload_n 3, 1) := by decide +kernel
theorem d_La_law_322 : decode code 322 = .ok (.iconst 3, 1) := by decide +kernel
theorem d_La_law_323 : decode code 323 = .ok (.iadd, 1) := by decide +kernel
theorem d_La_law_324 : decode code 324 = .ok (.iaload, 1) := by decide +kernel
theorem d_La_law_325 : decode code 325 = .ok (.invokevirtual 49, 3) := by decide +kernel
theorem d_La_law_328 : decode code 328 = .ok (.aload_n 2, 1) := by decide +kernel
theorem d_La_law_329 : decode code 329 = .ok (.aload_n 0, 1) := by decide +kernel
theorem d_La_law_330 : decode code 330 = .ok (.iload_n 3, 1) := by decide +kernel
theorem d_La_law_331 : decode code 331 = .ok (.iconst 1, 1) := by decide +kernel
theorem d_La_law_332 : decode code 332 = .ok (.iadd, 1) := by decide +kernel
theorem d_La_law_333 : decode code 333 = .ok (.iaload, 1) := by decide +kernel
theorem d_La_law_334 : decode code 334 = .ok (.aload_n 0, 1) := by decide +kernel
theorem d_La_law_335 : decode code 335 = .ok (.iload_n 3, 1) := by decide +kernel
theorem d_La_law_336 : decode code 336 = .ok (.iconst 2, 1) := by decide +kernel
theorem d_La_law_337 : decode code 337 = .ok (.iadd, 1) := by decide +kernel
theorem d_La_law_338 : decode code 338 = .ok (.iaload, 1) := by decide +kernel
theorem d_La_law_339 : decode code 339 = .ok (.aload_n 0, 1) := by decide +kernel
theorem d_La_law_340 : decode code 340 = .ok (.iload_n 3, 1) := by decide +kernel
theorem d_La_law_341 : decode code 341 = .ok (.iconst 3, 1) := by decide +kernel
theorem d_La_law_342 : decode code 342 = .ok (.iadd, 1) := by decide +kernel
theorem d_La_law_343 : decode code 343 = .ok (.iaload, 1) := by decide +kernel
theorem d_La_law_344 : decode code 344 = .ok (.invokevirtual 53, 3) := by decide +kernel
theorem d_La_law_347 : decode code 347 = .ok (.if_icmp .eq 143, 3) := by decide +kernel
theorem d_La_law_350 : decode code 350 = .ok (.iconst 0, 1) := by decide +kernel
theorem d_La_law_351 : decode code 351 = .ok (.ireturn, 1) := by decide +kernel
theorem d_La_law_352 : decode code 352 = .ok (.aload_n 1, 1) := by decide +kernel
theorem d_La_law_353 : decode code 353 = .ok (.aload_n 0, 1) := by decide +kernel
theorem d_La_law_354 : decode code 354 = .ok (.iload_n 3, 1) := by decide +kernel
theorem d_La_law_355 : decode code 355 = .ok (.iconst 1, 1) := by decide +kernel
theorem d_La_law_356 : decode code 356 = .ok (.iadd, 1) := by decide +kernel
theorem d_La_law_357 : decode code 357 = .ok (.iaload, 1) := by decide +kernel
theorem d_La_law_358 : decode code 358 = .ok (.invokevirtual 54, 3) := by decide +kernel
theorem d_La_law_361 : decode code 361 = .ok (.aload_n 2, 1) := by decide +kernel
theorem d_La_law_362 : decode code 362 = .ok (.aload_n 0, 1) := by decide +kernel
theorem d_La_law_363 : decode code 363 = .ok (.iload_n 3, 1) := by decide +kernel
theorem d_La_law_364 : decode code 364 = .ok (.iconst 1, 1) := by decide +kernel
theorem d_La_law_365 : decode code 365 = .ok (.iadd, 1) := by decide +kernel
theorem d_La_law_366 : decode code 366 = .ok (.iaload, 1) := by decide +kernel
theorem d_La_law_367 : decode code 367 = .ok (.invokevirtual 57, 3) := by decide +kernel
theorem d_La_law_370 : decode code 370 = .ok (.if_icmp .eq 120, 3) := by decide +kernel
theorem d_La_law_373 : decode code 373 = .ok (.iconst 0, 1) := by decide +kernel
theorem d_La_law_374 : decode code 374 = .ok (.ireturn, 1) := by decide +kernel
theorem d_La_law_375 : decode code 375 = .ok (.aload_n 1, 1) := by decide +kernel
theorem d_La_law_376 : decode code 376 = .ok (.aload_n 0, 1) := by decide +kernel
theorem d_La_law_377 : decode code 377 = .ok (.iload_n 3, 1) := by decide +kernel
theorem d_La_law_378 : decode code 378 = .ok (.iconst 1, 1) := by decide +kernel
theorem d_La_law_379 : decode code 379 = .ok (.iadd, 1) := by decide +kernel
theorem d_La_law_380 : decode code 380 = .ok (.iaload, 1) := by decide +kernel
theorem d_La_law_381 : decode code 381 = .ok (.invokevirtual 58, 3) := by decide +kernel
theorem d_La_law_384 : decode code 384 = .ok (.aload_n 2, 1) := by decide +kernel
theorem d_La_law_385 : decode code 385 = .ok (.aload_n 0, 1) := by decide +kernel
theorem d_La_law_386 : decode code 386 = .ok (.iload_n 3, 1) := by decide +kernel
theorem d_La_law_387 : decode code 387 = .ok (.iconst 1, 1) := by decide +kernel
theorem d_La_law_388 : decode code 388 = .ok (.iadd, 1) := by decide +kernel
theorem d_La_law_389 : decode code 389 = .ok (.iaload, 1) := by decide +kernel
theorem d_La_law_390 : decode code 390 = .ok (.invokevirtual 61, 3) := by decide +kernel
theorem d_La_law_393 : decode code 393 = .ok (.if_icmp .eq 97, 3) := by decide +kernel
theorem d_La_law_396 : decode code 396 = .ok (.iconst 0, 1) := by decide +kernel
theorem d_La_law_397 : decode code 397 = .ok (.ireturn, 1) := by decide +kernel
theorem d_La_law_398 : decode code 398 = .ok (.aload_n 1, 1) := by decide +kernel
theorem d_La_law_399 : decode code 399 = .ok (.aload_n 0, 1) := by decide +kernel
theorem d_La_law_400 : decode code 400 = .ok (.iload_n 3, 1) := by decide +kernel
theorem d_La_law_401 : decode code 401 = .ok (.iconst 1, 1) := by decide +kernel
theorem d_La_law_402 : decode code 402 = .ok (.iadd, 1) := by decide +kernel
theorem d_La_law_403 : decode code 403 = .ok (.iaload, 1) := by decide +kernel
theorem d_La_law_404 : decode code 404 = .ok (.invokevirtual 62, 3) := by decide +kernel
theorem d_La_law_407 : decode code 407 = .ok (.aload_n 2, 1) := by decide +kernel
theorem d_La_law_408 : decode code 408 = .ok (.aload_n 0, 1) := by decide +kernel
theorem d_La_law_409 : decode code 409 = .ok (.iload_n 3, 1) := by decide +kernel
theorem d_La_law_410 : decode code 410 = .ok (.iconst 1, 1) := by decide +kernel
theorem d_La_law_411 : decode code 411 = .ok (.iadd, 1) := by decide +kernel
theorem d_La_law_412 : decode code 412 = .ok (.iaload, 1) := by decide +kernel
theorem d_La_law_413 : decode code 413 = .ok (.invokevirtual 65, 3) := by decide +kernel
theorem d_La_law_416 : decode code 416 = .ok (.if_icmp .eq 74, 3) := by decide +kernel
theorem d_La_law_419 : decode code 419 = .ok (.iconst 0, 1) := by decide +kernel
theorem d_La_law_420 : decode code 420 = .ok (.ireturn, 1) := by decide +kernel
theorem d_La_law_421 : decode code 421 = .ok (.aload_n 1, 1) := by decide +kernel
theorem d_La_law_422 : decode code 422 = .ok (.aload_n 0, 1) := by decide +kernel
theorem d_La_law_423 : decode code 423 = .ok (.iload_n 3, 1) := by decide +kernel
theorem d_La_law_424 : decode code 424 = .ok (.iconst 1, 1) := by decide +kernel
theorem d_La_law_425 : decode code 425 = .ok (.iadd, 1) := by decide +kernel
theorem d_La_law_426 : decode code 426 = .ok (.iaload, 1) := by decide +kernel
theorem d_La_law_427 : decode code 427 = .ok (.invokevirtual 66, 3) := by decide +kernel
theorem d_La_law_430 : decode code 430 = .ok (.aload_n 2, 1) := by decide +kernel
theorem d_La_law_431 : decode code 431 = .ok (.aload_n 0, 1) := by decide +kernel
theorem d_La_law_432 : decode code 432 = .ok (.iload_n 3, 1) := by decide +kernel
theorem d_La_law_433 : decode code 433 = .ok (.iconst 1, 1) := by decide +kernel
theorem d_La_law_434 : decode code 434 = .ok (.iadd, 1) := by decide +kernel
theorem d_La_law_435 : decode code 435 = .ok (.iaload, 1) := by decide +kernel
theorem d_La_law_436 : decode code 436 = .ok (.invokevirtual 69, 3) := by decide +kernel
theorem d_La_law_439 : decode code 439 = .ok (.if_icmp .eq 51, 3) := by decide +kernel
theorem d_La_law_442 : decode code 442 = .ok (.iconst 0, 1) := by decide +kernel
theorem d_La_law_443 : decode code 443 = .ok (.ireturn, 1) := by decide +kernel
theorem d_La_law_444 : decode code 444 = .ok (.aload_n 1, 1) := by decide +kernel
theorem d_La_law_445 : decode code 445 = .ok (.aload_n 0, 1) := by decide +kernel
theorem d_La_law_446 : decode code 446 = .ok (.iload_n 3, 1) := by decide +kernel
theorem d_La_law_447 : decode code 447 = .ok (.iconst 1, 1) := by decide +kernel
theorem d_La_law_448 : decode code 448 = .ok (.iadd, 1) := by decide +kernel
theorem d_La_law_449 : decode code 449 = .ok (.iaload, 1) := by decide +kernel
theorem d_La_law_450 : decode code 450 = .ok (.aload_n 0, 1) := by decide +kernel
theorem d_La_law_451 : decode code 451 = .ok (.iload_n 3, 1) := by decide +kernel
theorem d_La_law_452 : decode code 452 = .ok (.iconst 2, 1) := by decide +kernel
theorem d_La_law_453 : decode code 453 = .ok (.iadd, 1) := by decide +kernel
theorem d_La_law_454 : decode code 454 = .ok (.iaload, 1) := by decide +kernel
theorem d_La_law_455 : decode code 455 = .ok (.invokevirtual 70, 3) := by decide +kernel
theorem d_La_law_458 : decode code 458 = .ok (.aload_n 2, 1) := by decide +kernel
theorem d_La_law_459 : decode code 459 = .ok (.aload_n 0, 1) := by decide +kernel
theorem d_La_law_460 : decode code 460 = .ok (.iload_n 3, 1) := by decide +kernel
theorem d_La_law_461 : decode code 461 = .ok (.iconst 1, 1) := by decide +kernel
theorem d_La_law_462 : decode code 462 = .ok (.iadd, 1) := by decide +kernel
theorem d_La_law_463 : decode code 463 = .ok (.iaload, 1) := by decide +kernel
theorem d_La_law_464 : decode code 464 = .ok (.aload_n 0, 1) := by decide +kernel
theorem d_La_law_465 : decode code 465 = .ok (.iload_n 3, 1) := by decide +kernel
theorem d_La_law_466 : decode code 466 = .ok (.iconst 2, 1) := by decide +kernel
theorem d_La_law_467 : decode code 467 = .ok (.iadd, 1) := by decide +kernel
theorem d_La_law_468 : decode code 468 = .ok (.iaload, 1) := by decide +kernel
theorem d_La_law_469 : decode code 469 = .ok (.invokevirtual 74, 3) := by decide +kernel
theorem d_La_law_472 : decode code 472 = .ok (.if_icmp .eq 18, 3) := by decide +kernel
theorem d_La_law_475 : decode code 475 = .ok (.iconst 0, 1) := by decide +kernel
theorem d_La_law_476 : decode code 476 = .ok (.ireturn, 1) := by decide +kernel
theorem d_La_law_477 : decode code 477 = .ok (.aload_n 1, 1) := by decide +kernel
theorem d_La_law_478 : decode code 478 = .ok (.invokevirtual 75, 3) := by decide +kernel
theorem d_La_law_481 : decode code 481 = .ok (.aload_n 2, 1) := by decide +kernel
theorem d_La_law_482 : decode code 482 = .ok (.invokevirtual 78, 3) := by decide +kernel
theorem d_La_law_485 : decode code 485 = .ok (.if_icmp .eq 5, 3) := by decide +kernel
theorem d_La_law_488 : decode code 488 = .ok (.iconst 0, 1) := by decide +kernel
theorem d_La_law_489 : decode code 489 = .ok (.ireturn, 1) := by decide +kernel
theorem d_La_law_490 : decode code 490 = .ok (.iinc 3 4, 3) := by decide +kernel
theorem d_La_law_493 : decode code 493 = .ok (.goto (-475), 3) := by decide +kernel
theorem d_La_law_496 : decode code 496 = .ok (.iconst 1, 1) := by decide +kernel
theorem d_La_law_497 : decode code 497 = .ok (.ireturn, 1) := by decide +kernel
