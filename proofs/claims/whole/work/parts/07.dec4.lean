theorem d_Mo_second_0 : decode c_Mo_second 0 = .ok (.iconst 1, 1) := by decide +kernel
theorem d_Mo_second_1 : decode c_Mo_second 1 = .ok (.istore_n 1, 1) := by decide +kernel
theorem d_Mo_second_2 : decode c_Mo_second 2 = .ok (.iload_n 1, 1) := by decide +kernel
theorem d_Mo_second_3 : decode c_Mo_second 3 = .ok (.ifCond .eq 217, 3) := by decide +kernel
theorem d_Mo_second_6 : decode c_Mo_second 6 = .ok (.aload_n 0, 1) := by decide +kernel
theorem d_Mo_second_7 : decode c_Mo_second 7 = .ok (.aload_n 0, 1) := by decide +kernel
theorem d_Mo_second_8 : decode c_Mo_second 8 = .ok (.getfield 101, 3) := by decide +kernel
theorem d_Mo_second_11 : decode c_Mo_second 11 = .ok (.aload_n 0, 1) := by decide +kernel
theorem d_Mo_second_12 : decode c_Mo_second 12 = .ok (.aload_n 0, 1) := by decide +kernel
theorem d_Mo_second_13 : decode c_Mo_second 13 = .ok (.getfield 101, 3) := by decide +kernel
theorem d_Mo_second_16 : decode c_Mo_second 16 = .ok (.invokevirtual 88, 3) := by decide +kernel
theorem d_Mo_second_19 : decode c_Mo_second 19 = .ok (.invokevirtual 91, 3) := by decide +kernel
theorem d_Mo_second_22 : decode c_Mo_second 22 = .ok (.istore_n 2, 1) := by decide +kernel
theorem d_Mo_second_23 : decode c_Mo_second 23 = .ok (.iload_n 2, 1) := by decide +kernel
theorem d_Mo_second_24 : decode c_Mo_second 24 = .ok (.ifCond .le 119, 3) := by decide +kernel
theorem d_Mo_second_27 : decode c_Mo_second 27 = .ok (.aload_n 0, 1) := by decide +kernel
theorem d_Mo_second_28 : decode c_Mo_second 28 = .ok (.invokevirtual 154, 3) := by decide +kernel
theorem d_Mo_second_31 : decode c_Mo_second 31 = .ok (.bipush 40, 2) := by decide +kernel
theorem d_Mo_second_33 : decode c_Mo_second 33 = .ok (.if_icmp .ne 12, 3) := by decide +kernel
theorem d_Mo_second_36 : decode c_Mo_second 36 = .ok (.aload_n 0, 1) := by decide +kernel
theorem d_Mo_second_37 : decode c_Mo_second 37 = .ok (.aload_n 0, 1) := by decide +kernel
theorem d_Mo_second_38 : decode c_Mo_second 38 = .ok (.getfield 101, 3) := by decide +kernel
theorem d_Mo_second_41 : decode c_Mo_second 41 = .ok (.invokevirtual 104, 3) := by decide +kernel
theorem d_Mo_second_44 : decode c_Mo_second 44 = .ok (.ireturn, 1) := by decide +kernel
theorem d_Mo_second_45 : decode c_Mo_second 45 = .ok (.aload_n 0, 1) := by decide +kernel
theorem d_Mo_second_46 : decode c_Mo_second 46 = .ok (.dup, 1) := by decide +kernel
theorem d_Mo_second_47 : decode c_Mo_second 47 = .ok (.getfield 101, 3) := by decide +kernel
theorem d_Mo_second_50 : decode c_Mo_second 50 = .ok (.aload_n 0, 1) := by decide +kernel
theorem d_Mo_second_51 : decode c_Mo_second 51 = .ok (.aload_n 0, 1) := by decide +kernel
theorem d_Mo_second_52 : decode c_Mo_second 52 = .ok (.getfield 101, 3) := by decide +kernel
theorem d_Mo_second_55 : decode c_Mo_second 55 = .ok (.invokevirtual 88, 3) := by decide +kernel
theorem d_Mo_second_58 : decode c_Mo_second 58 = .ok (.iadd, 1) := by decide +kernel
theorem d_Mo_second_59 : decode c_Mo_second 59 = .ok (.putfield 101, 3) := by decide +kernel
theorem d_Mo_second_62 : decode c_Mo_second 62 = .ok (.aload_n 0, 1) := by decide +kernel
theorem d_Mo_second_63 : decode c_Mo_second 63 = .ok (.bipush 32, 2) := by decide +kernel
theorem d_Mo_second_65 : decode c_Mo_second 65 = .ok (.invokevirtual 107, 3) := by decide +kernel
theorem d_Mo_second_68 : decode c_Mo_second 68 = .ok (.ifCond .ne 5, 3) := by decide +kernel
theorem d_Mo_second_71 : decode c_Mo_second 71 = .ok (.iconst 0, 1) := by decide +kernel
theorem d_Mo_second_72 : decode c_Mo_second 72 = .ok (.ireturn, 1) := by decide +kernel
theorem d_Mo_second_73 : decode c_Mo_second 73 = .ok (.aload_n 0, 1) := by decide +kernel
theorem d_Mo_second_74 : decode c_Mo_second 74 = .ok (.aload_n 0, 1) := by decide +kernel
theorem d_Mo_second_75 : decode c_Mo_second 75 = .ok (.getfield 101, 3) := by decide +kernel
theorem d_Mo_second_78 : decode c_Mo_second 78 = .ok (.invokevirtual 77, 3) := by decide +kernel
theorem d_Mo_second_81 : decode c_Mo_second 81 = .ok (.bipush 40, 2) := by decide +kernel
theorem d_Mo_second_83 : decode c_Mo_second 83 = .ok (.if_icmp .ne 21, 3) := by decide +kernel
theorem d_Mo_second_86 : decode c_Mo_second 86 = .ok (.aload_n 0, 1) := by decide +kernel
theorem d_Mo_second_87 : decode c_Mo_second 87 = .ok (.getfield 137, 3) := by decide +kernel
theorem d_Mo_second_90 : decode c_Mo_second 90 = .ok (.bipush 20, 2) := by decide +kernel
theorem d_Mo_second_92 : decode c_Mo_second 92 = .ok (.if_icmp .ne 12, 3) := by decide +kernel
theorem d_Mo_second_95 : decode c_Mo_second 95 = .ok (.aload_n 0, 1) := by decide +kernel
theorem d_Mo_second_96 : decode c_Mo_second 96 = .ok (.aload_n 0, 1) := by decide +kernel
theorem d_Mo_second_97 : decode c_Mo_second 97 = .ok (.getfield 101, 3) := by decide +kernel
theorem d_Mo_second_100 : decode c_Mo_second 100 = .ok (.invokevirtual 104, 3) := by decide +kernel
theorem d_Mo_second_103 : decode c_Mo_second 103 = .ok (.ireturn, 1) := by decide +kernel
theorem d_Mo_second_104 : decode c_Mo_second 104 = .ok (.aload_n 0, 1) := by decide +kernel
theorem d_Mo_second_105 : decode c_Mo_second 105 = .ok (.bipush 40, 2) := by decide +kernel
theorem d_Mo_second_107 : decode c_Mo_second 107 = .ok (.bipush 32, 2) := by decide +kernel
theorem d_Mo_second_109 : decode c_Mo_second 109 = .ok (.invokevirtual 157, 3) := by decide +kernel
theorem d_Mo_second_112 : decode c_Mo_second 112 = .ok (.ifCond .ne 5, 3) := by decide +kernel
theorem d_Mo_second_115 : decode c_Mo_second 115 = .ok (.iconst 0, 1) := by decide +kernel
theorem d_Mo_second_116 : decode c_Mo_second 116 = .ok (.ireturn, 1) := by decide +kernel
theorem d_Mo_second_117 : decode c_Mo_second 117 = .ok (.aload_n 0, 1) := by decide +kernel
theorem d_Mo_second_118 : decode c_Mo_second 118 = .ok (.getfield 33, 3) := by decide +kernel
theorem d_Mo_second_121 : decode c_Mo_second 121 = .ok (.aload_n 0, 1) := by decide +kernel
theorem d_Mo_second_122 : decode c_Mo_second 122 = .ok (.getfield 137, 3) := by decide +kernel
theorem d_Mo_second_125 : decode c_Mo_second 125 = .ok (.bipush 10, 2) := by decide +kernel
theorem d_Mo_second_127 : decode c_Mo_second 127 = .ok (.iload_n 2, 1) := by decide +kernel
theorem d_Mo_second_128 : decode c_Mo_second 128 = .ok (.iadd, 1) := by decide +kernel
theorem d_Mo_second_129 : decode c_Mo_second 129 = .ok (.iastore, 1) := by decide +kernel
theorem d_Mo_second_130 : decode c_Mo_second 130 = .ok (.aload_n 0, 1) := by decide +kernel
theorem d_Mo_second_131 : decode c_Mo_second 131 = .ok (.dup, 1) := by decide +kernel
theorem d_Mo_second_132 : decode c_Mo_second 132 = .ok (.getfield 137, 3) := by decide +kernel
theorem d_Mo_second_135 : decode c_Mo_second 135 = .ok (.iconst 1, 1) := by decide +kernel
theorem d_Mo_second_136 : decode c_Mo_second 136 = .ok (.iadd, 1) := by decide +kernel
theorem d_Mo_second_137 : decode c_Mo_second 137 = .ok (.putfield 137, 3) := by decide +kernel
theorem d_Mo_second_140 : decode c_Mo_second 140 = .ok (.goto 77, 3) := by decide +kernel
theorem d_Mo_second_143 : decode c_Mo_second 143 = .ok (.aload_n 0, 1) := by decide +kernel
theorem d_Mo_second_144 : decode c_Mo_second 144 = .ok (.aload_n 0, 1) := by decide +kernel
theorem d_Mo_second_145 : decode c_Mo_second 145 = .ok (.getfield 101, 3) := by decide +kernel
theorem d_Mo_second_148 : decode c_Mo_second 148 = .ok (.invokevirtual 77, 3) := by decide +kernel
theorem d_Mo_second_151 : decode c_Mo_second 151 = .ok (.invokestatic 81, 3) := by decide +kernel
theorem d_Mo_second_154 : decode c_Mo_second 154 = .ok (.ifCond .ne 12, 3) := by decide +kernel
theorem d_Mo_second_157 : decode c_Mo_second 157 = .ok (.aload_n 0, 1) := by decide +kernel
theorem d_Mo_second_158 : decode c_Mo_second 158 = .ok (.aload_n 0, 1) := by decide +kernel
theorem d_Mo_second_159 : decode c_Mo_second 159 = .ok (.getfield 101, 3) := by decide +kernel
theorem d_Mo_second_162 : decode c_Mo_second 162 = .ok (.invokevirtual 104, 3) := by decide +kernel
theorem d_Mo_second_165 : decode c_Mo_second 165 = .ok (.ireturn, 1) := by decide +kernel
theorem d_Mo_second_166 : decode c_Mo_second 166 = .ok (.aload_n 0, 1) := by decide +kernel
theorem d_Mo_second_167 : decode c_Mo_second 167 = .ok (.getfield 101, 3) := by decide +kernel
theorem d_Mo_second_170 : decode c_Mo_second 170 = .ok (.istore_n 3, 1) := by decide +kernel
theorem d_Mo_second_171 : decode c_Mo_second 171 = .ok (.aload_n 0, 1) := by decide +kernel
theorem d_Mo_second_172 : decode c_Mo_second 172 = .ok (.aload_n 0, 1) := by decide +kernel
theorem d_Mo_second_173 : decode c_Mo_second 173 = .ok (.getfield 101, 3) := by decide +kernel
theorem d_Mo_second_176 : decode c_Mo_second 176 = .ok (.aload_n 0, 1) := by decide +kernel
theorem d_Mo_second_177 : decode c_Mo_second 177 = .ok (.aload_n 0, 1) := by decide +kernel
theorem d_Mo_second_178 : decode c_Mo_second 178 = .ok (.getfield 101, 3) := by decide +kernel
theorem d_Mo_second_181 : decode c_Mo_second 181 = .ok (.invokevirtual 88, 3) := by decide +kernel
theorem d_Mo_second_184 : decode c_Mo_second 184 = .ok (.invokevirtual 95, 3) := by decide +kernel
theorem d_Mo_second_187 : decode c_Mo_second 187 = .ok (.iconst (-1), 1) := by decide +kernel
theorem d_Mo_second_188 : decode c_Mo_second 188 = .ok (.if_icmp .eq 18, 3) := by decide +kernel
theorem d_Mo_second_191 : decode c_Mo_second 191 = .ok (.aload_n 0, 1) := by decide +kernel
theorem d_Mo_second_192 : decode c_Mo_second 192 = .ok (.invokevirtual 154, 3) := by decide +kernel
theorem d_Mo_second_195 : decode c_Mo_second 195 = .ok (.bipush 40, 2) := by decide +kernel
theorem d_Mo_second_197 : decode c_Mo_second 197 = .ok (.if_icmp .ne 9, 3) := by decide +kernel
theorem d_Mo_second_200 : decode c_Mo_second 200 = .ok (.aload_n 0, 1) := by decide +kernel
theorem d_Mo_second_201 : decode c_Mo_second 201 = .ok (.iload_n 3, 1) := by decide +kernel
theorem d_Mo_second_202 : decode c_Mo_second 202 = .ok (.invokevirtual 104, 3) := by decide +kernel
theorem d_Mo_second_205 : decode c_Mo_second 205 = .ok (.ireturn, 1) := by decide +kernel
theorem d_Mo_second_206 : decode c_Mo_second 206 = .ok (.aload_n 0, 1) := by decide +kernel
theorem d_Mo_second_207 : decode c_Mo_second 207 = .ok (.invokevirtual 160, 3) := by decide +kernel
theorem d_Mo_second_210 : decode c_Mo_second 210 = .ok (.ifCond .ne 5, 3) := by decide +kernel
theorem d_Mo_second_213 : decode c_Mo_second 213 = .ok (.iconst 0, 1) := by decide +kernel
theorem d_Mo_second_214 : decode c_Mo_second 214 = .ok (.ireturn, 1) := by decide +kernel
theorem d_Mo_second_215 : decode c_Mo_second 215 = .ok (.iconst 0, 1) := by decide +kernel
theorem d_Mo_second_216 : decode c_Mo_second 216 = .ok (.istore_n 1, 1) := by decide +kernel
theorem d_Mo_second_217 : decode c_Mo_second 217 = .ok (.goto (-215), 3) := by decide +kernel
theorem d_Mo_second_220 : decode c_Mo_second 220 = .ok (.aload_n 0, 1) := by decide +kernel
theorem d_Mo_second_221 : decode c_Mo_second 221 = .ok (.getfield 137, 3) := by decide +kernel
theorem d_Mo_second_224 : decode c_Mo_second 224 = .ok (.ifCond .ne 31, 3) := by decide +kernel
theorem d_Mo_second_227 : decode c_Mo_second 227 = .ok (.aload_n 0, 1) := by decide +kernel
theorem d_Mo_second_228 : decode c_Mo_second 228 = .ok (.getfield 101, 3) := by decide +kernel
theorem d_Mo_second_231 : decode c_Mo_second 231 = .ok (.aload_n 0, 1) := by decide +kernel
theorem d_Mo_second_232 : decode c_Mo_second 232 = .ok (.getfield 74, 3) := by decide +kernel
theorem d_Mo_second_235 : decode c_Mo_second 235 = .ok (.if_icmp .eq 14, 3) := by decide +kernel
theorem d_Mo_second_238 : decode c_Mo_second 238 = .ok (.aload_n 0, 1) := by decide +kernel
theorem d_Mo_second_239 : decode c_Mo_second 239 = .ok (.aload_n 0, 1) := by decide +kernel
theorem d_Mo_second_240 : decode c_Mo_second 240 = .ok (.getfield 101, 3) := by decide +kernel
theorem d_Mo_second_243 : decode c_Mo_second 243 = .ok (.invokevirtual 104, 3) := by decide +kernel
theorem d_Mo_second_246 : decode c_Mo_second 246 = .ok (.ifCond .eq 7, 3) := by decide +kernel
theorem d_Mo_second_249 : decode c_Mo_second 249 = .ok (.iconst 1, 1) := by decide +kernel
theorem d_Mo_second_250 : decode c_Mo_second 250 = .ok (.goto 4, 3) := by decide +kernel
theorem d_Mo_second_253 : decode c_Mo_second 253 = .ok (.iconst 0, 1) := by decide +kernel
theorem d_Mo_second_254 : decode c_Mo_second 254 = .ok (.ireturn, 1) := by decide +kernel
theorem d_Mo_second_255 : decode c_Mo_second 255 = .ok (.aload_n 0, 1) := by decide +kernel
theorem d_Mo_second_256 : decode c_Mo_second 256 = .ok (.bipush 32, 2) := by decide +kernel
theorem d_Mo_second_258 : decode c_Mo_second 258 = .ok (.bipush 41, 2) := by decide +kernel
theorem d_Mo_second_260 : decode c_Mo_second 260 = .ok (.invokevirtual 157, 3) := by decide +kernel
theorem d_Mo_second_263 : decode c_Mo_second 263 = .ok (.ifCond .ne 5, 3) := by decide +kernel
theorem d_Mo_second_266 : decode c_Mo_second 266 = .ok (.iconst 0, 1) := by decide +kernel
theorem d_Mo_second_267 : decode c_Mo_second 267 = .ok (.ireturn, 1) := by decide +kernel
theorem d_Mo_second_268 : decode c_Mo_second 268 = .ok (.aload_n 0, 1) := by decide +kernel
theorem d_Mo_second_269 : decode c_Mo_second 269 = .ok (.getfield 33, 3) := by decide +kernel
theorem d_Mo_second_272 : decode c_Mo_second 272 = .ok (.aload_n 0, 1) := by decide +kernel
theorem d_Mo_second_273 : decode c_Mo_second 273 = .ok (.getfield 137, 3) := by decide +kernel
theorem d_Mo_second_276 : decode c_Mo_second 276 = .ok (.iconst 1, 1) := by decide +kernel
theorem d_Mo_second_277 : decode c_Mo_second 277 = .ok (.isub, 1) := by decide +kernel
theorem d_Mo_second_278 : decode c_Mo_second 278 = .ok (.iaload, 1) := by decide +kernel
theorem d_Mo_second_279 : decode c_Mo_second 279 = .ok (.bipush 20, 2) := by decide +kernel
theorem d_Mo_second_281 : decode c_Mo_second 281 = .ok (.if_icmp .ge 46, 3) := by decide +kernel
theorem d_Mo_second_284 : decode c_Mo_second 284 = .ok (.aload_n 0, 1) := by decide +kernel
theorem d_Mo_second_285 : decode c_Mo_second 285 = .ok (.bipush 32, 2) := by decide +kernel
theorem d_Mo_second_287 : decode c_Mo_second 287 = .ok (.bipush 40, 2) := by decide +kernel
theorem d_Mo_second_289 : decode c_Mo_second 289 = .ok (.invokevirtual 157, 3) := by decide +kernel
theorem d_Mo_second_292 : decode c_Mo_second 292 = .ok (.ifCond .eq 12, 3) := by decide +kernel
theorem d_Mo_second_295 : decode c_Mo_second 295 = .ok (.aload_n 0, 1) := by decide +kernel
theorem d_Mo_second_296 : decode c_Mo_second 296 = .ok (.bipush 32, 2) := by decide +kernel
theorem d_Mo_second_298 : decode c_Mo_second 298 = .ok (.invokevirtual 107, 3) := by decide +kernel
theorem d_Mo_second_301 : decode c_Mo_second 301 = .ok (.ifCond .ne 5, 3) := by decide +kernel
theorem d_Mo_second_304 : decode c_Mo_second 304 = .ok (.iconst 0, 1) := by decide +kernel
theorem d_Mo_second_305 : decode c_Mo_second 305 = .ok (.ireturn, 1) := by decide +kernel
theorem d_Mo_second_306 : decode c_Mo_second 306 = .ok (.aload_n 0, 1) := by decide +kernel
theorem d_Mo_second_307 : decode c_Mo_second 307 = .ok (.getfield 33, 3) := by decide +kernel
theorem d_Mo_second_310 : decode c_Mo_second 310 = .ok (.aload_n 0, 1) := by decide +kernel
theorem d_Mo_second_311 : decode c_Mo_second 311 = .ok (.getfield 137, 3) := by decide +kernel
theorem d_Mo_second_314 : decode c_Mo_second 314 = .ok (.iconst 1, 1) := by decide +kernel
theorem d_Mo_second_315 : decode c_Mo_second 315 = .ok (.isub, 1) := by decide +kernel
theorem d_Mo_second_316 : decode c_Mo_second 316 = .ok (.dup2, 1) := by decide +kernel
theorem d_Mo_second_317 : decode c_Mo_second 317 = .ok (.iaload, 1) := by decide +kernel
theorem d_Mo_second_318 : decode c_Mo_second 318 = .ok (.bipush 10, 2) := by decide +kernel
theorem d_Mo_second_320 : decode c_Mo_second 320 = .ok (.iadd, 1) := by decide +kernel
theorem d_Mo_second_321 : decode c_Mo_second 321 = .ok (.iastore, 1) := by decide +kernel
theorem d_Mo_second_322 : decode c_Mo_second 322 = .ok (.iconst 1, 1) := by decide +kernel
theorem d_Mo_second_323 : decode c_Mo_second 323 = .ok (.istore_n 1, 1) := by decide +kernel
theorem d_Mo_second_324 : decode c_Mo_second 324 = .ok (.goto (-322), 3) := by decide +kernel
theorem d_Mo_second_327 : decode c_Mo_second 327 = .ok (.aload_n 0, 1) := by decide +kernel
theorem d_Mo_second_328 : decode c_Mo_second 328 = .ok (.dup, 1) := by decide +kernel
theorem d_Mo_second_329 : decode c_Mo_second 329 = .ok (.getfield 137, 3) := by decide +kernel
theorem d_Mo_second_332 : decode c_Mo_second 332 = .ok (.iconst 1, 1) := by decide +kernel
theorem d_Mo_second_333 : decode c_Mo_second 333 = .ok (.isub, 1) := by decide +kernel
theorem d_Mo_second_334 : decode c_Mo_second 334 = .ok (.putfield 137, 3) := by decide +kernel
theorem d_Mo_second_337 : decode c_Mo_second 337 = .ok (.aload_n 0, 1) := by decide +kernel
theorem d_Mo_second_338 : decode c_Mo_second 338 = .ok (.aload_n 0, 1) := by decide +kernel
theorem d_Mo_second_339 : decode c_Mo_second 339 = .ok (.getfield 33, 3) := by decide +kernel
theorem d_Mo_second_342 : decode c_Mo_second 342 = .ok (.aload_n 0, 1) := by decide +kernel
theorem d_Mo_second_343 : decode c_Mo_second 343 = .ok (.getfield 137, 3) := by decide +kernel
theorem d_Mo_second_346 : decode c_Mo_second 346 = .ok (.iaload, 1) := by decide +kernel
theorem d_Mo_second_347 : decode c_Mo_second 347 = .ok (.bipush 20, 2) := by decide +kernel
theorem d_Mo_second_349 : decode c_Mo_second 349 = .ok (.isub, 1) := by decide +kernel
theorem d_Mo_second_350 : decode c_Mo_second 350 = .ok (.invokevirtual 140, 3) := by decide +kernel
theorem d_Mo_second_353 : decode c_Mo_second 353 = .ok (.goto (-351), 3) := by decide +kernel
theorem d_Mo_count2_0 : decode c_Mo_count2 0 = .ok (.aload_n 0, 1) := by decide +kernel
theorem d_Mo_count2_1 : decode c_Mo_count2 1 = .ok (.getfield 116, 3) := by decide +kernel
theorem d_Mo_count2_4 : decode c_Mo_count2 4 = .ok (.aload_n 0, 1) := by decide +kernel
theorem d_Mo_count2_5 : decode c_Mo_count2 5 = .ok (.getfield 137, 3) := by decide +kernel
theorem d_Mo_count2_8 : decode c_Mo_count2 8 = .ok (.iadd, 1) := by decide +kernel
theorem d_Mo_count2_9 : decode c_Mo_count2 9 = .ok (.ireturn, 1) := by decide +kernel
theorem d_Mo_lay_0 : decode c_Mo_lay 0 = .ok (.iconst 0, 1) := by decide +kernel
theorem d_Mo_lay_1 : decode c_Mo_lay 1 = .ok (.istore_n 1, 1) := by decide +kernel
theorem d_Mo_lay_2 : decode c_Mo_lay 2 = .ok (.aload_n 0, 1) := by decide +kernel
theorem d_Mo_lay_3 : decode c_Mo_lay 3 = .ok (.iconst 1, 1) := by decide +kernel
theorem d_Mo_lay_4 : decode c_Mo_lay 4 = .ok (.putfield 137, 3) := by decide +kernel
theorem d_Mo_lay_7 : decode c_Mo_lay 7 = .ok (.aload_n 0, 1) := by decide +kernel
theorem d_Mo_lay_8 : decode c_Mo_lay 8 = .ok (.getfield 33, 3) := by decide +kernel
theorem d_Mo_lay_11 : decode c_Mo_lay 11 = .ok (.iconst 0, 1) := by decide +kernel
theorem d_Mo_lay_12 : decode c_Mo_lay 12 = .ok (.aload_n 0, 1) := by decide +kernel
theorem d_Mo_lay_13 : decode c_Mo_lay 13 = .ok (.getfield 116, 3) := by decide +kernel
theorem d_Mo_lay_16 : decode c_Mo_lay 16 = .ok (.iconst 1, 1) := by decide +kernel
theorem d_Mo_lay_17 : decode c_Mo_lay 17 = .ok (.isub, 1) := by decide +kernel
theorem d_Mo_lay_18 : decode c_Mo_lay 18 = .ok (.iastore, 1) := by decide +kernel
theorem d_Mo_lay_19 : decode c_Mo_lay 19 = .ok (.aload_n 0, 1) := by decide +kernel
theorem d_Mo_lay_20 : decode c_Mo_lay 20 = .ok (.getfield 137, 3) := by decide +kernel
theorem d_Mo_lay_23 : decode c_Mo_lay 23 = .ok (.ifCond .le 121, 3) := by decide +kernel
theorem d_Mo_lay_26 : decode c_Mo_lay 26 = .ok (.aload_n 0, 1) := by decide +kernel
theorem d_Mo_lay_27 : decode c_Mo_lay 27 = .ok (.dup, 1) := by decide +kernel
theorem d_Mo_lay_28 : decode c_Mo_lay 28 = .ok (.getfield 137, 3) := by decide +kernel
theorem d_Mo_lay_31 : decode c_Mo_lay 31 = .ok (.iconst 1, 1) := by decide +kernel
theorem d_Mo_lay_32 : decode c_Mo_lay 32 = .ok (.isub, 1) := by decide +kernel
theorem d_Mo_lay_33 : decode c_Mo_lay 33 = .ok (.putfield 137, 3) := by decide +kernel
theorem d_Mo_lay_36 : decode c_Mo_lay 36 = .ok (.aload_n 0, 1) := by decide +kernel
theorem d_Mo_lay_37 : decode c_Mo_lay 37 = .ok (.getfield 33, 3) := by decide +kernel
theorem d_Mo_lay_40 : decode c_Mo_lay 40 = .ok (.aload_n 0, 1) := by decide +kernel
theorem d_Mo_lay_41 : decode c_Mo_lay 41 = .ok (.getfield 137, 3) := by decide +kernel
theorem d_Mo_lay_44 : decode c_Mo_lay 44 = .ok (.iaload, 1) := by decide +kernel
theorem d_Mo_lay_45 : decode c_Mo_lay 45 = .ok (.istore_n 2, 1) := by decide +kernel
theorem d_Mo_lay_46 : decode c_Mo_lay 46 = .ok (.iconst 0, 1) := by decide +kernel
theorem d_Mo_lay_47 : decode c_Mo_lay 47 = .ok (.istore_n 3, 1) := by decide +kernel
theorem d_Mo_lay_48 : decode c_Mo_lay 48 = .ok (.iload_n 3, 1) := by decide +kernel
theorem d_Mo_lay_49 : decode c_Mo_lay 49 = .ok (.iconst 4, 1) := by decide +kernel
theorem d_Mo_lay_50 : decode c_Mo_lay 50 = .ok (.if_icmp .ge 33, 3) := by decide +kernel
theorem d_Mo_lay_53 : decode c_Mo_lay 53 = .ok (.aload_n 0, 1) := by decide +kernel
theorem d_Mo_lay_54 : decode c_Mo_lay 54 = .ok (.getfield 36, 3) := by decide +kernel
theorem d_Mo_lay_57 : decode c_Mo_lay 57 = .ok (.sipush 1600, 3) := by decide +kernel
theorem d_Mo_lay_60 : decode c_Mo_lay 60 = .ok (.iconst 4, 1) := by decide +kernel
theorem d_Mo_lay_61 : decode c_Mo_lay 61 = .ok (.iload_n 1, 1) := by decide +kernel
theorem d_Mo_lay_62 : decode c_Mo_lay 62 = .ok (.imul, 1) := by decide +kernel
theorem d_Mo_lay_63 : decode c_Mo_lay 63 = .ok (.iadd, 1) := by decide +kernel
theorem d_Mo_lay_64 : decode c_Mo_lay 64 = .ok (.iload_n 3, 1) := by decide +kernel
theorem d_Mo_lay_65 : decode c_Mo_lay 65 = .ok (.iadd, 1) := by decide +kernel
theorem d_Mo_lay_66 : decode c_Mo_lay 66 = .ok (.aload_n 0, 1) := by decide +kernel
theorem d_Mo_lay_67 : decode c_Mo_lay 67 = .ok (.getfield 27, 3) := by decide +kernel
theorem d_Mo_lay_70 : decode c_Mo_lay 70 = .ok (.iconst 4, 1) := by decide +kernel
theorem d_Mo_lay_71 : decode c_Mo_lay 71 = .ok (.iload_n 2, 1) := by decide +kernel
theorem d_Mo_lay_72 : decode c_Mo_lay 72 = .ok (.imul, 1) := by decide +kernel
theorem d_Mo_lay_73 : decode c_Mo_lay 73 = .ok (.iload_n 3, 1) := by decide +kernel
theorem d_Mo_lay_74 : decode c_Mo_lay 74 = .ok (.iadd, 1) := by decide +kernel
theorem d_Mo_lay_75 : decode c_Mo_lay 75 = .ok (.iaload, 1) := by decide +kernel
theorem d_Mo_lay_76 : decode c_Mo_lay 76 = .ok (.iastore, 1) := by decide +kernel
theorem d_Mo_lay_77 : decode c_Mo_lay 77 = .ok (.iinc 3 1, 3) := by decide +kernel
theorem d_Mo_lay_80 : decode c_Mo_lay 80 = .ok (.goto (-32), 3) := by decide +kernel
theorem d_Mo_lay_83 : decode c_Mo_lay 83 = .ok (.iinc 1 1, 3) := by decide +kernel
theorem d_Mo_lay_86 : decode c_Mo_lay 86 = .ok (.aload_n 0, 1) := by decide +kernel
theorem d_Mo_lay_87 : decode c_Mo_lay 87 = .ok (.getfield 27, 3) := by decide +kernel
theorem d_Mo_lay_90 : decode c_Mo_lay 90 = .ok (.iconst 4, 1) := by decide +kernel
theorem d_Mo_lay_91 : decode c_Mo_lay 91 = .ok (.iload_n 2, 1) := by decide +kernel
theorem d_Mo_lay_92 : decode c_Mo_lay 92 = .ok (.imul, 1) := by decide +kernel
theorem d_Mo_lay_93 : decode c_Mo_lay 93 = .ok (.iaload, 1) := by decide +kernel
theorem d_Mo_lay_94 : decode c_Mo_lay 94 = .ok (.iconst 2, 1) := by decide +kernel
theorem d_Mo_lay_95 : decode c_Mo_lay 95 = .ok (.if_icmp .le 46, 3) := by decide +kernel
theorem d_Mo_lay_98 : decode c_Mo_lay 98 = .ok (.aload_n 0, 1) := by decide +kernel
theorem d_Mo_lay_99 : decode c_Mo_lay 99 = .ok (.getfield 33, 3) := by decide +kernel
theorem d_Mo_lay_102 : decode c_Mo_lay 102 = .ok (.aload_n 0, 1) := by decide +kernel
theorem d_Mo_lay_103 : decode c_Mo_lay 103 = .ok (.getfield 137, 3) := by decide +kernel
theorem d_Mo_lay_106 : decode c_Mo_lay 106 = .ok (.iload_n 2, 1) := by decide +kernel
theorem d_Mo_lay_107 : decode c_Mo_lay 107 = .ok (.iconst 1, 1) := by decide +kernel
theorem d_Mo_lay_108 : decode c_Mo_lay 108 = .ok (.isub, 1) := by decide +kernel
theorem d_Mo_lay_109 : decode c_Mo_lay 109 = .ok (.iastore, 1) := by decide +kernel
theorem d_Mo_lay_110 : decode c_Mo_lay 110 = .ok (.aload_n 0, 1) := by decide +kernel
theorem d_Mo_lay_111 : decode c_Mo_lay 111 = .ok (.getfield 33, 3) := by decide +kernel
theorem d_Mo_lay_114 : decode c_Mo_lay 114 = .ok (.aload_n 0, 1) := by decide +kernel
theorem d_Mo_lay_115 : decode c_Mo_lay 115 = .ok (.getfield 137, 3) := by decide +kernel
theorem d_Mo_lay_118 : decode c_Mo_lay 118 = .ok (.iconst 1, 1) := by decide +kernel
theorem d_Mo_lay_119 : decode c_Mo_lay 119 = .ok (.iadd, 1) := by decide +kernel
theorem d_Mo_lay_120 : decode c_Mo_lay 120 = .ok (.aload_n 0, 1) := by decide +kernel
theorem d_Mo_lay_121 : decode c_Mo_lay 121 = .ok (.getfield 30, 3) := by decide +kernel
theorem d_Mo_lay_124 : decode c_Mo_lay 124 = .ok (.iload_n 2, 1) := by decide +kernel
theorem d_Mo_lay_125 : decode c_Mo_lay 125 = .ok (.iconst 1, 1) := by decide +kernel
theorem d_Mo_lay_126 : decode c_Mo_lay 126 = .ok (.isub, 1) := by decide +kernel
theorem d_Mo_lay_127 : decode c_Mo_lay 127 = .ok (.iaload, 1) := by decide +kernel
theorem d_Mo_lay_128 : decode c_Mo_lay 128 = .ok (.iconst 1, 1) := by decide +kernel
theorem d_Mo_lay_129 : decode c_Mo_lay 129 = .ok (.isub, 1) := by decide +kernel
theorem d_Mo_lay_130 : decode c_Mo_lay 130 = .ok (.iastore, 1) := by decide +kernel
theorem d_Mo_lay_131 : decode c_Mo_lay 131 = .ok (.aload_n 0, 1) := by decide +kernel
theorem d_Mo_lay_132 : decode c_Mo_lay 132 = .ok (.dup, 1) := by decide +kernel
theorem d_Mo_lay_133 : decode c_Mo_lay 133 = .ok (.getfield 137, 3) := by decide +kernel
theorem d_Mo_lay_136 : decode c_Mo_lay 136 = .ok (.iconst 2, 1) := by decide +kernel
theorem d_Mo_lay_137 : decode c_Mo_lay 137 = .ok (.iadd, 1) := by decide +kernel
theorem d_Mo_lay_138 : decode c_Mo_lay 138 = .ok (.putfield 137, 3) := by decide +kernel
theorem d_Mo_lay_141 : decode c_Mo_lay 141 = .ok (.goto (-122), 3) := by decide +kernel
theorem d_Mo_lay_144 : decode c_Mo_lay 144 = .ok (.aload_n 0, 1) := by decide +kernel
theorem d_Mo_lay_145 : decode c_Mo_lay 145 = .ok (.getfield 39, 3) := by decide +kernel
theorem d_Mo_lay_148 : decode c_Mo_lay 148 = .ok (.bipush 10, 2) := by decide +kernel
theorem d_Mo_lay_150 : decode c_Mo_lay 150 = .ok (.iload_n 1, 1) := by decide +kernel
theorem d_Mo_lay_151 : decode c_Mo_lay 151 = .ok (.iastore, 1) := by decide +kernel
theorem d_Mo_lay_152 : decode c_Mo_lay 152 = .ok (.return_, 1) := by decide +kernel
theorem d_Mo_read_0 : decode c_Mo_read 0 = .ok (.aload_n 0, 1) := by decide +kernel
theorem d_Mo_read_1 : decode c_Mo_read 1 = .ok (.iconst 0, 1) := by decide +kernel
theorem d_Mo_read_2 : decode c_Mo_read 2 = .ok (.putfield 70, 3) := by decide +kernel
theorem d_Mo_read_5 : decode c_Mo_read 5 = .ok (.aload_n 0, 1) := by decide +kernel
theorem d_Mo_read_6 : decode c_Mo_read 6 = .ok (.iconst 0, 1) := by decide +kernel
theorem d_Mo_read_7 : decode c_Mo_read 7 = .ok (.putfield 101, 3) := by decide +kernel
theorem d_Mo_read_10 : decode c_Mo_read 10 = .ok (.aload_n 0, 1) := by decide +kernel
theorem d_Mo_read_11 : decode c_Mo_read 11 = .ok (.iconst 0, 1) := by decide +kernel
theorem d_Mo_read_12 : decode c_Mo_read 12 = .ok (.putfield 116, 3) := by decide +kernel
theorem d_Mo_read_15 : decode c_Mo_read 15 = .ok (.aload_n 0, 1) := by decide +kernel
theorem d_Mo_read_16 : decode c_Mo_read 16 = .ok (.iconst 0, 1) := by decide +kernel
theorem d_Mo_read_17 : decode c_Mo_read 17 = .ok (.putfield 137, 3) := by decide +kernel
theorem d_Mo_read_20 : decode c_Mo_read 20 = .ok (.aload_n 0, 1) := by decide +kernel
theorem d_Mo_read_21 : decode c_Mo_read 21 = .ok (.iconst 0, 1) := by decide +kernel
theorem d_Mo_read_22 : decode c_Mo_read 22 = .ok (.putfield 113, 3) := by decide +kernel
theorem d_Mo_read_25 : decode c_Mo_read 25 = .ok (.iload_n 1, 1) := by decide +kernel
theorem d_Mo_read_26 : decode c_Mo_read 26 = .ok (.ifCond .ne 10, 3) := by decide +kernel
theorem d_Mo_read_29 : decode c_Mo_read 29 = .ok (.aload_n 0, 1) := by decide +kernel
theorem d_Mo_read_30 : decode c_Mo_read 30 = .ok (.invokevirtual 163, 3) := by decide +kernel
theorem d_Mo_read_33 : decode c_Mo_read 33 = .ok (.goto 7, 3) := by decide +kernel
theorem d_Mo_read_36 : decode c_Mo_read 36 = .ok (.aload_n 0, 1) := by decide +kernel
theorem d_Mo_read_37 : decode c_Mo_read 37 = .ok (.invokevirtual 166, 3) := by decide +kernel
theorem d_Mo_read_40 : decode c_Mo_read 40 = .ok (.istore_n 2, 1) := by decide +kernel
theorem d_Mo_read_41 : decode c_Mo_read 41 = .ok (.aload_n 0, 1) := by decide +kernel
theorem d_Mo_read_42 : decode c_Mo_read 42 = .ok (.iconst 0, 1) := by decide +kernel
theorem d_Mo_read_43 : decode c_Mo_read 43 = .ok (.putfield 74, 3) := by decide +kernel
theorem d_Mo_read_46 : decode c_Mo_read 46 = .ok (.iload_n 2, 1) := by decide +kernel
theorem d_Mo_read_47 : decode c_Mo_read 47 = .ok (.ifCond .ne 10, 3) := by decide +kernel
theorem d_Mo_read_50 : decode c_Mo_read 50 = .ok (.iconst (-1), 1) := by decide +kernel
theorem d_Mo_read_51 : decode c_Mo_read 51 = .ok (.aload_n 0, 1) := by decide +kernel
theorem d_Mo_read_52 : decode c_Mo_read 52 = .ok (.getfield 98, 3) := by decide +kernel
theorem d_Mo_read_55 : decode c_Mo_read 55 = .ok (.isub, 1) := by decide +kernel
theorem d_Mo_read_56 : decode c_Mo_read 56 = .ok (.ireturn, 1) := by decide +kernel
theorem d_Mo_read_57 : decode c_Mo_read 57 = .ok (.aload_n 0, 1) := by decide +kernel
theorem d_Mo_read_58 : decode c_Mo_read 58 = .ok (.invokevirtual 169, 3) := by decide +kernel
theorem d_Mo_read_61 : decode c_Mo_read 61 = .ok (.aload_n 0, 1) := by decide +kernel
theorem d_Mo_read_62 : decode c_Mo_read 62 = .ok (.getfield 39, 3) := by decide +kernel
theorem d_Mo_read_65 : decode c_Mo_read 65 = .ok (.bipush 10, 2) := by decide +kernel
theorem d_Mo_read_67 : decode c_Mo_read 67 = .ok (.iaload, 1) := by decide +kernel
theorem d_Mo_read_68 : decode c_Mo_read 68 = .ok (.ireturn, 1) := by decide +kernel
theorem d_Mo_node_0 : decode c_Mo_node 0 = .ok (.aload_n 0, 1) := by decide +kernel
theorem d_Mo_node_1 : decode c_Mo_node 1 = .ok (.iconst 0, 1) := by decide +kernel
theorem d_Mo_node_2 : decode c_Mo_node 2 = .ok (.putfield 70, 3) := by decide +kernel
theorem d_Mo_node_5 : decode c_Mo_node 5 = .ok (.iload_n 1, 1) := by decide +kernel
theorem d_Mo_node_6 : decode c_Mo_node 6 = .ok (.ifCond .lt 23, 3) := by decide +kernel
theorem d_Mo_node_9 : decode c_Mo_node 9 = .ok (.iload_n 1, 1) := by decide +kernel
theorem d_Mo_node_10 : decode c_Mo_node 10 = .ok (.aload_n 0, 1) := by decide +kernel
theorem d_Mo_node_11 : decode c_Mo_node 11 = .ok (.getfield 39, 3) := by decide +kernel
theorem d_Mo_node_14 : decode c_Mo_node 14 = .ok (.bipush 10, 2) := by decide +kernel
theorem d_Mo_node_16 : decode c_Mo_node 16 = .ok (.iaload, 1) := by decide +kernel
theorem d_Mo_node_17 : decode c_Mo_node 17 = .ok (.if_icmp .ge 12, 3) := by decide +kernel
theorem d_Mo_node_20 : decode c_Mo_node 20 = .ok (.iload_n 2, 1) := by decide +kernel
theorem d_Mo_node_21 : decode c_Mo_node 21 = .ok (.ifCond .lt 8, 3) := by decide +kernel
theorem d_Mo_node_24 : decode c_Mo_node 24 = .ok (.iload_n 2, 1) := by decide +kernel
theorem d_Mo_node_25 : decode c_Mo_node 25 = .ok (.iconst 3, 1) := by decide +kernel
theorem d_Mo_node_26 : decode c_Mo_node 26 = .ok (.if_icmp .le 7, 3) := by decide +kernel
theorem d_Mo_node_29 : decode c_Mo_node 29 = .ok (.iconst (-1), 1) := by decide +kernel
theorem d_Mo_node_30 : decode c_Mo_node 30 = .ok (.goto 17, 3) := by decide +kernel
theorem d_Mo_node_33 : decode c_Mo_node 33 = .ok (.aload_n 0, 1) := by decide +kernel
theorem d_Mo_node_34 : decode c_Mo_node 34 = .ok (.getfield 36, 3) := by decide +kernel
theorem d_Mo_node_37 : decode c_Mo_node 37 = .ok (.sipush 1600, 3) := by decide +kernel
theorem d_Mo_node_40 : decode c_Mo_node 40 = .ok (.iconst 4, 1) := by decide +kernel
theorem d_Mo_node_41 : decode c_Mo_node 41 = .ok (.iload_n 1, 1) := by decide +kernel
theorem d_Mo_node_42 : decode c_Mo_node 42 = .ok (.imul, 1) := by decide +kernel
theorem d_Mo_node_43 : decode c_Mo_node 43 = .ok (.iadd, 1) := by decide +kernel
theorem d_Mo_node_44 : decode c_Mo_node 44 = .ok (.iload_n 2, 1) := by decide +kernel
theorem d_Mo_node_45 : decode c_Mo_node 45 = .ok (.iadd, 1) := by decide +kernel
theorem d_Mo_node_46 : decode c_Mo_node 46 = .ok (.iaload, 1) := by decide +kernel
theorem d_Mo_node_47 : decode c_Mo_node 47 = .ok (.ireturn, 1) := by decide +kernel
theorem d_Mo_distance_0 : decode c_Mo_distance 0 = .ok (.aload_n 0, 1) := by decide +kernel
theorem d_Mo_distance_1 : decode c_Mo_distance 1 = .ok (.getfield 16, 3) := by decide +kernel
theorem d_Mo_distance_4 : decode c_Mo_distance 4 = .ok (.iload_n 1, 1) := by decide +kernel
theorem d_Mo_distance_5 : decode c_Mo_distance 5 = .ok (.iaload, 1) := by decide +kernel
theorem d_Mo_distance_6 : decode c_Mo_distance 6 = .ok (.istore_n 2, 1) := by decide +kernel
theorem d_Mo_distance_7 : decode c_Mo_distance 7 = .ok (.iconst 0, 1) := by decide +kernel
theorem d_Mo_distance_8 : decode c_Mo_distance 8 = .ok (.istore_n 3, 1) := by decide +kernel
theorem d_Mo_distance_9 : decode c_Mo_distance 9 = .ok (.iload_n 3, 1) := by decide +kernel
theorem d_Mo_distance_10 : decode c_Mo_distance 10 = .ok (.iload_n 2, 1) := by decide +kernel
theorem d_Mo_distance_11 : decode c_Mo_distance 11 = .ok (.if_icmp .gt 16, 3) := by decide +kernel
theorem d_Mo_distance_14 : decode c_Mo_distance 14 = .ok (.aload_n 0, 1) := by decide +kernel
theorem d_Mo_distance_15 : decode c_Mo_distance 15 = .ok (.getfield 64, 3) := by decide +kernel
theorem d_Mo_distance_18 : decode c_Mo_distance 18 = .ok (.iload_n 3, 1) := by decide +kernel
theorem d_Mo_distance_19 : decode c_Mo_distance 19 = .ok (.iload_n 3, 1) := by decide +kernel
theorem d_Mo_distance_20 : decode c_Mo_distance 20 = .ok (.iastore, 1) := by decide +kernel
theorem d_Mo_distance_21 : decode c_Mo_distance 21 = .ok (.iinc 3 1, 3) := by decide +kernel
theorem d_Mo_distance_24 : decode c_Mo_distance 24 = .ok (.goto (-15), 3) := by decide +kernel
theorem d_Mo_distance_27 : decode c_Mo_distance 27 = .ok (.iconst 1, 1) := by decide +kernel
theorem d_Mo_distance_28 : decode c_Mo_distance 28 = .ok (.istore_n 3, 1) := by decide +kernel
theorem d_Mo_distance_29 : decode c_Mo_distance 29 = .ok (.iload_n 3, 1) := by decide +kernel
theorem d_Mo_distance_30 : decode c_Mo_distance 30 = .ok (.aload_n 0, 1) := by decide +kernel
theorem d_Mo_distance_31 : decode c_Mo_distance 31 = .ok (.getfield 113, 3) := by decide +kernel
theorem d_Mo_distance_34 : decode c_Mo_distance 34 = .ok (.if_icmp .gt 165, 3) := by decide +kernel
theorem d_Mo_distance_37 : decode c_Mo_distance 37 = .ok (.aload_n 0, 1) := by decide +kernel
theorem d_Mo_distance_38 : decode c_Mo_distance 38 = .ok (.getfield 67, 3) := by decide +kernel
theorem d_Mo_distance_41 : decode c_Mo_distance 41 = .ok (.iconst 0, 1) := by decide +kernel
theorem d_Mo_distance_42 : decode c_Mo_distance 42 = .ok (.iload_n 3, 1) := by decide +kernel
theorem d_Mo_distance_43 : decode c_Mo_distance 43 = .ok (.iastore, 1) := by decide +kernel
theorem d_Mo_distance_44 : decode c_Mo_distance 44 = .ok (.iconst 1, 1) := by decide +kernel
theorem d_Mo_distance_45 : decode c_Mo_distance 45 = .ok (.istore 4, 2) := by decide +kernel
theorem d_Mo_distance_47 : decode c_Mo_distance 47 = .ok (.iload 4, 2) := by decide +kernel
theorem d_Mo_distance_49 : decode c_Mo_distance 49 = .ok (.iload_n 2, 1) := by decide +kernel
theorem d_Mo_distance_50 : decode c_Mo_distance 50 = .ok (.if_icmp .gt 114, 3) := by decide +kernel
theorem d_Mo_distance_53 : decode c_Mo_distance 53 = .ok (.aload_n 0, 1) := by decide +kernel
theorem d_Mo_distance_54 : decode c_Mo_distance 54 = .ok (.getfield 64, 3) := by decide +kernel
theorem d_Mo_distance_57 : decode c_Mo_distance 57 = .ok (.iload 4, 2) := by decide +kernel
theorem d_Mo_distance_59 : decode c_Mo_distance 59 = .ok (.iconst 1, 1) := by decide +kernel
theorem d_Mo_distance_60 : decode c_Mo_distance 60 = .ok (.isub, 1) := by decide +kernel
theorem d_Mo_distance_61 : decode c_Mo_distance 61 = .ok (.iaload, 1) := by decide +kernel
theorem d_Mo_distance_62 : decode c_Mo_distance 62 = .ok (.aload_n 0, 1) := by decide +kernel
theorem d_Mo_distance_63 : decode c_Mo_distance 63 = .ok (.getfield 24, 3) := by decide +kernel
theorem d_Mo_distance_66 : decode c_Mo_distance 66 = .ok (.iload_n 3, 1) := by decide +kernel
theorem d_Mo_distance_67 : decode c_Mo_distance 67 = .ok (.iconst 1, 1) := by decide +kernel
theorem d_Mo_distance_68 : decode c_Mo_distance 68 = .ok (.isub, 1) := by decide +kernel
theorem d_Mo_distance_69 : decode c_Mo_distance 69 = .ok (.baload, 1) := by decide +kernel
theorem d_Mo_distance_70 : decode c_Mo_distance 70 = .ok (.aload_n 0, 1) := by decide +kernel
theorem d_Mo_distance_71 : decode c_Mo_distance 71 = .ok (.getfield 13, 3) := by decide +kernel
theorem d_Mo_distance_74 : decode c_Mo_distance 74 = .ok (.bipush 8, 2) := by decide +kernel
theorem d_Mo_distance_76 : decode c_Mo_distance 76 = .ok (.iload_n 1, 1) := by decide +kernel
theorem d_Mo_distance_77 : decode c_Mo_distance 77 = .ok (.imul, 1) := by decide +kernel
theorem d_Mo_distance_78 : decode c_Mo_distance 78 = .ok (.iload 4, 2) := by decide +kernel
theorem d_Mo_distance_80 : decode c_Mo_distance 80 = .ok (.iadd, 1) := by decide +kernel
theorem d_Mo_distance_81 : decode c_Mo_distance 81 = .ok (.iconst 1, 1) := by decide +kernel
theorem d_Mo_distance_82 : decode c_Mo_distance 82 = .ok (.isub, 1) := by decide +kernel
theorem d_Mo_distance_83 : decode c_Mo_distance 83 = .ok (.baload, 1) := by decide +kernel
theorem d_Mo_distance_84 : decode c_Mo_distance 84 = .ok (.if_icmp .ne 7, 3) := by decide +kernel
theorem d_Mo_distance_87 : decode c_Mo_distance 87 = .ok (.iconst 0, 1) := by decide +kernel
theorem d_Mo_distance_88 : decode c_Mo_distance 88 = .ok (.goto 4, 3) := by decide +kernel
theorem d_Mo_distance_91 : decode c_Mo_distance 91 = .ok (.iconst 1, 1) := by decide +kernel
theorem d_Mo_distance_92 : decode c_Mo_distance 92 = .ok (.iadd, 1) := by decide +kernel
theorem d_Mo_distance_93 : decode c_Mo_distance 93 = .ok (.istore 5, 2) := by decide +kernel
theorem d_Mo_distance_95 : decode c_Mo_distance 95 = .ok (.aload_n 0, 1) := by decide +kernel
theorem d_Mo_distance_96 : decode c_Mo_distance 96 = .ok (.getfield 64, 3) := by decide +kernel
theorem d_Mo_distance_99 : decode c_Mo_distance 99 = .ok (.iload 4, 2) := by decide +kernel
theorem d_Mo_distance_101 : decode c_Mo_distance 101 = .ok (.iaload, 1) := by decide +kernel
theorem d_Mo_distance_102 : decode c_Mo_distance 102 = .ok (.aload_n 0, 1) := by decide +kernel
theorem d_Mo_distance_103 : decode c_Mo_distance 103 = .ok (.getfield 67, 3) := by decide +kernel
theorem d_Mo_distance_106 : decode c_Mo_distance 106 = .ok (.iload 4, 2) := by decide +kernel
theorem d_Mo_distance_108 : decode c_Mo_distance 108 = .ok (.iconst 1, 1) := by decide +kernel
theorem d_Mo_distance_109 : decode c_Mo_distance 109 = .ok (.isub, 1) := by decide +kernel
theorem d_Mo_distance_110 : decode c_Mo_distance 110 = .ok (.iaload, 1) := by decide +kernel
theorem d_Mo_distance_111 : decode c_Mo_distance 111 = .ok (.if_icmp .ge 13, 3) := by decide +kernel
theorem d_Mo_distance_114 : decode c_Mo_distance 114 = .ok (.aload_n 0, 1) := by decide +kernel
theorem d_Mo_distance_115 : decode c_Mo_distance 115 = .ok (.getfield 64, 3) := by decide +kernel
theorem d_Mo_distance_118 : decode c_Mo_distance 118 = .ok (.iload 4, 2) := by decide +kernel
theorem d_Mo_distance_120 : decode c_Mo_distance 120 = .ok (.iaload, 1) := by decide +kernel
theorem d_Mo_distance_121 : decode c_Mo_distance 121 = .ok (.goto 12, 3) := by decide +kernel
theorem d_Mo_distance_124 : decode c_Mo_distance 124 = .ok (.aload_n 0, 1) := by decide +kernel
theorem d_Mo_distance_125 : decode c_Mo_distance 125 = .ok (.getfield 67, 3) := by decide +kernel
theorem d_Mo_distance_128 : decode c_Mo_distance 128 = .ok (.iload 4, 2) := by decide +kernel
theorem d_Mo_distance_130 : decode c_Mo_distance 130 = .ok (.iconst 1, 1) := by decide +kernel
theorem d_Mo_distance_131 : decode c_Mo_distance 131 = .ok (.isub, 1) := by decide +kernel
theorem d_Mo_distance_132 : decode c_Mo_distance 132 = .ok (.iaload, 1) := by decide +kernel
theorem d_Mo_distance_133 : decode c_Mo_distance 133 = .ok (.iconst 1, 1) := by decide +kernel
theorem d_Mo_distance_134 : decode c_Mo_distance 134 = .ok (.iadd, 1) := by decide +kernel
theorem d_Mo_distance_135 : decode c_Mo_distance 135 = .ok (.istore 6, 2) := by decide +kernel
theorem d_Mo_distance_137 : decode c_Mo_distance 137 = .ok (.aload_n 0, 1) := by decide +kernel
theorem d_Mo_distance_138 : decode c_Mo_distance 138 = .ok (.getfield 67, 3) := by decide +kernel
theorem d_Mo_distance_141 : decode c_Mo_distance 141 = .ok (.iload 4, 2) := by decide +kernel
theorem d_Mo_distance_143 : decode c_Mo_distance 143 = .ok (.iload 5, 2) := by decide +kernel
theorem d_Mo_distance_145 : decode c_Mo_distance 145 = .ok (.iload 6, 2) := by decide +kernel
theorem d_Mo_distance_147 : decode c_Mo_distance 147 = .ok (.if_icmp .ge 8, 3) := by decide +kernel
theorem d_Mo_distance_150 : decode c_Mo_distance 150 = .ok (.iload 5, 2) := by decide +kernel
theorem d_Mo_distance_152 : decode c_Mo_distance 152 = .ok (.goto 5, 3) := by decide +kernel
theorem d_Mo_distance_155 : decode c_Mo_distance 155 = .ok (.iload 6, 2) := by decide +kernel
theorem d_Mo_distance_157 : decode c_Mo_distance 157 = .ok (.iastore, 1) := by decide +kernel
theorem d_Mo_distance_158 : decode c_Mo_distance 158 = .ok (.iinc 4 1, 3) := by decide +kernel
theorem d_Mo_distance_161 : decode c_Mo_distance 161 = .ok (.goto (-114), 3) := by decide +kernel
theorem d_Mo_distance_164 : decode c_Mo_distance 164 = .ok (.iconst 0, 1) := by decide +kernel
theorem d_Mo_distance_165 : decode c_Mo_distance 165 = .ok (.istore 4, 2) := by decide +kernel
theorem d_Mo_distance_167 : decode c_Mo_distance 167 = .ok (.iload 4, 2) := by decide +kernel
theorem d_Mo_distance_169 : decode c_Mo_distance 169 = .ok (.iload_n 2, 1) := by decide +kernel
theorem d_Mo_distance_170 : decode c_Mo_distance 170 = .ok (.if_icmp .gt 23, 3) := by decide +kernel
theorem d_Mo_distance_173 : decode c_Mo_distance 173 = .ok (.aload_n 0, 1) := by decide +kernel
theorem d_Mo_distance_174 : decode c_Mo_distance 174 = .ok (.getfield 64, 3) := by decide +kernel
theorem d_Mo_distance_177 : decode c_Mo_distance 177 = .ok (.iload 4, 2) := by decide +kernel
theorem d_Mo_distance_179 : decode c_Mo_distance 179 = .ok (.aload_n 0, 1) := by decide +kernel
theorem d_Mo_distance_180 : decode c_Mo_distance 180 = .ok (.getfield 67, 3) := by decide +kernel
theorem d_Mo_distance_183 : decode c_Mo_distance 183 = .ok (.iload 4, 2) := by decide +kernel
theorem d_Mo_distance_185 : decode c_Mo_distance 185 = .ok (.iaload, 1) := by decide +kernel
theorem d_Mo_distance_186 : decode c_Mo_distance 186 = .ok (.iastore, 1) := by decide +kernel
theorem d_Mo_distance_187 : decode c_Mo_distance 187 = .ok (.iinc 4 1, 3) := by decide +kernel
theorem d_Mo_distance_190 : decode c_Mo_distance 190 = .ok (.goto (-23), 3) := by decide +kernel
theorem d_Mo_distance_193 : decode c_Mo_distance 193 = .ok (.iinc 3 1, 3) := by decide +kernel
theorem d_Mo_distance_196 : decode c_Mo_distance 196 = .ok (.goto (-167), 3) := by decide +kernel
theorem d_Mo_distance_199 : decode c_Mo_distance 199 = .ok (.aload_n 0, 1) := by decide +kernel
theorem d_Mo_distance_200 : decode c_Mo_distance 200 = .ok (.getfield 64, 3) := by decide +kernel
theorem d_Mo_distance_203 : decode c_Mo_distance 203 = .ok (.iload_n 2, 1) := by decide +kernel
theorem d_Mo_distance_204 : decode c_Mo_distance 204 = .ok (.iaload, 1) := by decide +kernel
theorem d_Mo_distance_205 : decode c_Mo_distance 205 = .ok (.ireturn, 1) := by decide +kernel
theorem d_Mo_near_0 : decode c_Mo_near 0 = .ok (.aload_n 0, 1) := by decide +kernel
theorem d_Mo_near_1 : decode c_Mo_near 1 = .ok (.iconst 0, 1) := by decide +kernel
theorem d_Mo_near_2 : decode c_Mo_near 2 = .ok (.putfield 70, 3) := by decide +kernel
theorem d_Mo_near_5 : decode c_Mo_near 5 = .ok (.iconst (-1), 1) := by decide +kernel
theorem d_Mo_near_6 : decode c_Mo_near 6 = .ok (.istore_n 1, 1) := by decide +kernel
theorem d_Mo_near_7 : decode c_Mo_near 7 = .ok (.sipush 1000, 3) := by decide +kernel
theorem d_Mo_near_10 : decode c_Mo_near 10 = .ok (.istore_n 2, 1) := by decide +kernel
theorem d_Mo_near_11 : decode c_Mo_near 11 = .ok (.iconst 0, 1) := by decide +kernel
theorem d_Mo_near_12 : decode c_Mo_near 12 = .ok (.istore_n 3, 1) := by decide +kernel
theorem d_Mo_near_13 : decode c_Mo_near 13 = .ok (.iload_n 3, 1) := by decide +kernel
theorem d_Mo_near_14 : decode c_Mo_near 14 = .ok (.aload_n 0, 1) := by decide +kernel
theorem d_Mo_near_15 : decode c_Mo_near 15 = .ok (.getfield 85, 3) := by decide +kernel
theorem d_Mo_near_18 : decode c_Mo_near 18 = .ok (.if_icmp .ge 48, 3) := by decide +kernel
theorem d_Mo_near_21 : decode c_Mo_near 21 = .ok (.aload_n 0, 1) := by decide +kernel
theorem d_Mo_near_22 : decode c_Mo_near 22 = .ok (.getfield 113, 3) := by decide +kernel
theorem d_Mo_near_25 : decode c_Mo_near 25 = .ok (.ifCond .le 41, 3) := by decide +kernel
theorem d_Mo_near_28 : decode c_Mo_near 28 = .ok (.aload_n 0, 1) := by decide +kernel
theorem d_Mo_near_29 : decode c_Mo_near 29 = .ok (.iload_n 3, 1) := by decide +kernel
theorem d_Mo_near_30 : decode c_Mo_near 30 = .ok (.invokevirtual 172, 3) := by decide +kernel
theorem d_Mo_near_33 : decode c_Mo_near 33 = .ok (.istore 4, 2) := by decide +kernel
theorem d_Mo_near_35 : decode c_Mo_near 35 = .ok (.iload 4, 2) := by decide +kernel
theorem d_Mo_near_37 : decode c_Mo_near 37 = .ok (.iload_n 2, 1) := by decide +kernel
theorem d_Mo_near_38 : decode c_Mo_near 38 = .ok (.if_icmp .ge 7, 3) := by decide +kernel
theorem d_Mo_near_41 : decode c_Mo_near 41 = .ok (.iload_n 3, 1) := by decide +kernel
theorem d_Mo_near_42 : decode c_Mo_near 42 = .ok (.goto 4, 3) := by decide +kernel
theorem d_Mo_near_45 : decode c_Mo_near 45 = .ok (.iload_n 1, 1) := by decide +kernel
theorem d_Mo_near_46 : decode c_Mo_near 46 = .ok (.istore_n 1, 1) := by decide +kernel
theorem d_Mo_near_47 : decode c_Mo_near 47 = .ok (.iload 4, 2) := by decide +kernel
theorem d_Mo_near_49 : decode c_Mo_near 49 = .ok (.iload_n 2, 1) := by decide +kernel
theorem d_Mo_near_50 : decode c_Mo_near 50 = .ok (.if_icmp .ge 8, 3) := by decide +kernel
theorem d_Mo_near_53 : decode c_Mo_near 53 = .ok (.iload 4, 2) := by decide +kernel
theorem d_Mo_near_55 : decode c_Mo_near 55 = .ok (.goto 4, 3) := by decide +kernel
theorem d_Mo_near_58 : decode c_Mo_near 58 = .ok (.iload_n 2, 1) := by decide +kernel
theorem d_Mo_near_59 : decode c_Mo_near 59 = .ok (.istore_n 2, 1) := by decide +kernel
theorem d_Mo_near_60 : decode c_Mo_near 60 = .ok (.iinc 3 1, 3) := by decide +kernel
theorem d_Mo_near_63 : decode c_Mo_near 63 = .ok (.goto (-50), 3) := by decide +kernel
theorem d_Mo_near_66 : decode c_Mo_near 66 = .ok (.iload_n 1, 1) := by decide +kernel
theorem d_Mo_near_67 : decode c_Mo_near 67 = .ok (.ireturn, 1) := by decide +kernel
theorem d_Mo_record_0 : decode c_Mo_record 0 = .ok (.aload_n 0, 1) := by decide +kernel
theorem d_Mo_record_1 : decode c_Mo_record 1 = .ok (.iconst 0, 1) := by decide +kernel
theorem d_Mo_record_2 : decode c_Mo_record 2 = .ok (.putfield 70, 3) := by decide +kernel
theorem d_Mo_record_5 : decode c_Mo_record 5 = .ok (.aload_n 0, 1) := by decide +kernel
theorem d_Mo_record_6 : decode c_Mo_record 6 = .ok (.getfield 175, 3) := by decide +kernel
theorem d_Mo_record_9 : decode c_Mo_record 9 = .ok (.bipush 60, 2) := by decide +kernel
theorem d_Mo_record_11 : decode c_Mo_record 11 = .ok (.if_icmp .eq 24, 3) := by decide +kernel
theorem d_Mo_record_14 : decode c_Mo_record 14 = .ok (.aload_n 0, 1) := by decide +kernel
theorem d_Mo_record_15 : decode c_Mo_record 15 = .ok (.getfield 175, 3) := by decide +kernel
theorem d_Mo_record_18 : decode c_Mo_record 18 = .ok (.ifCond .le 19, 3) := by decide +kernel
theorem d_Mo_record_21 : decode c_Mo_record 21 = .ok (.lload_n 1, 1) := by decide +kernel
theorem d_Mo_record_22 : decode c_Mo_record 22 = .ok (.aload_n 0, 1) := by decide +kernel
theorem d_Mo_record_23 : decode c_Mo_record 23 = .ok (.getfield 49, 3) := by decide +kernel
theorem d_Mo_record_26 : decode c_Mo_record 26 = .ok (.aload_n 0, 1) := by decide +kernel
theorem d_Mo_record_27 : decode c_Mo_record 27 = .ok (.getfield 175, 3) := by decide +kernel
theorem d_Mo_record_30 : decode c_Mo_record 30 = .ok (.laload, 1) := by decide +kernel
theorem d_Mo_record_31 : decode c_Mo_record 31 = .ok (.lcmp, 1) := by decide +kernel
theorem d_Mo_record_32 : decode c_Mo_record 32 = .ok (.ifCond .ge 5, 3) := by decide +kernel
theorem d_Mo_record_35 : decode c_Mo_record 35 = .ok (.iconst 0, 1) := by decide +kernel
theorem d_Mo_record_36 : decode c_Mo_record 36 = .ok (.ireturn, 1) := by decide +kernel
theorem d_Mo_record_37 : decode c_Mo_record 37 = .ok (.aload_n 0, 1) := by decide +kernel
theorem d_Mo_record_38 : decode c_Mo_record 38 = .ok (.dup, 1) := by decide +kernel
theorem d_Mo_record_39 : decode c_Mo_record 39 = .ok (.getfield 175, 3) := by decide +kernel
theorem d_Mo_record_42 : decode c_Mo_record 42 = .ok (.iconst 1, 1) := by decide +kernel
theorem d_Mo_record_43 : decode c_Mo_record 43 = .ok (.iadd, 1) := by decide +kernel
theorem d_Mo_record_44 : decode c_Mo_record 44 = .ok (.putfield 175, 3) := by decide +kernel
theorem d_Mo_record_47 : decode c_Mo_record 47 = .ok (.aload_n 0, 1) := by decide +kernel
theorem d_Mo_record_48 : decode c_Mo_record 48 = .ok (.getfield 49, 3) := by decide +kernel
theorem d_Mo_record_51 : decode c_Mo_record 51 = .ok (.aload_n 0, 1) := by decide +kernel
theorem d_Mo_record_52 : decode c_Mo_record 52 = .ok (.getfield 175, 3) := by decide +kernel
theorem d_Mo_record_55 : decode c_Mo_record 55 = .ok (.lload_n 1, 1) := by decide +kernel
theorem d_Mo_record_56 : decode c_Mo_record 56 = .ok (.lastore, 1) := by decide +kernel
theorem d_Mo_record_57 : decode c_Mo_record 57 = .ok (.aload_n 0, 1) := by decide +kernel
theorem d_Mo_record_58 : decode c_Mo_record 58 = .ok (.getfield 175, 3) := by decide +kernel
theorem d_Mo_record_61 : decode c_Mo_record 61 = .ok (.ireturn, 1) := by decide +kernel
theorem d_Mo_entry_0 : decode c_Mo_entry 0 = .ok (.aload_n 0, 1) := by decide +kernel
theorem d_Mo_entry_1 : decode c_Mo_entry 1 = .ok (.iconst 0, 1) := by decide +kernel
theorem d_Mo_entry_2 : decode c_Mo_entry 2 = .ok (.putfield 70, 3) := by decide +kernel
theorem d_Mo_entry_5 : decode c_Mo_entry 5 = .ok (.iload_n 1, 1) := by decide +kernel
theorem d_Mo_entry_6 : decode c_Mo_entry 6 = .ok (.iconst 1, 1) := by decide +kernel
theorem d_Mo_entry_7 : decode c_Mo_entry 7 = .ok (.if_icmp .lt 44, 3) := by decide +kernel
theorem d_Mo_entry_10 : decode c_Mo_entry 10 = .ok (.iload_n 1, 1) := by decide +kernel
theorem d_Mo_entry_11 : decode c_Mo_entry 11 = .ok (.aload_n 0, 1) := by decide +kernel
theorem d_Mo_entry_12 : decode c_Mo_entry 12 = .ok (.getfield 175, 3) := by decide +kernel
theorem d_Mo_entry_15 : decode c_Mo_entry 15 = .ok (.if_icmp .gt 36, 3) := by decide +kernel
theorem d_Mo_entry_18 : decode c_Mo_entry 18 = .ok (.iload_n 2, 1) := by decide +kernel
theorem d_Mo_entry_19 : decode c_Mo_entry 19 = .ok (.ifCond .lt 32, 3) := by decide +kernel
theorem d_Mo_entry_22 : decode c_Mo_entry 22 = .ok (.iload_n 2, 1) := by decide +kernel
theorem d_Mo_entry_23 : decode c_Mo_entry 23 = .ok (.aload_n 0, 1) := by decide +kernel
theorem d_Mo_entry_24 : decode c_Mo_entry 24 = .ok (.getfield 85, 3) := by decide +kernel
theorem d_Mo_entry_27 : decode c_Mo_entry 27 = .ok (.if_icmp .ge 24, 3) := by decide +kernel
theorem d_Mo_entry_30 : decode c_Mo_entry 30 = .ok (.iload_n 3, 1) := by decide +kernel
theorem d_Mo_entry_31 : decode c_Mo_entry 31 = .ok (.ifCond .lt 20, 3) := by decide +kernel
theorem d_Mo_entry_34 : decode c_Mo_entry 34 = .ok (.iload_n 3, 1) := by decide +kernel
theorem d_Mo_entry_35 : decode c_Mo_entry 35 = .ok (.ldc 178, 2) := by decide +kernel
theorem d_Mo_entry_37 : decode c_Mo_entry 37 = .ok (.if_icmp .gt 14, 3) := by decide +kernel
theorem d_Mo_entry_40 : decode c_Mo_entry 40 = .ok (.aload_n 0, 1) := by decide +kernel
theorem d_Mo_entry_41 : decode c_Mo_entry 41 = .ok (.getfield 55, 3) := by decide +kernel
theorem d_Mo_entry_44 : decode c_Mo_entry 44 = .ok (.iload_n 1, 1) := by decide +kernel
theorem d_Mo_entry_45 : decode c_Mo_entry 45 = .ok (.iaload, 1) := by decide +kernel
theorem d_Mo_entry_46 : decode c_Mo_entry 46 = .ok (.bipush 8, 2) := by decide +kernel
theorem d_Mo_entry_48 : decode c_Mo_entry 48 = .ok (.if_icmp .ne 5, 3) := by decide +kernel
theorem d_Mo_entry_51 : decode c_Mo_entry 51 = .ok (.iconst 0, 1) := by decide +kernel
theorem d_Mo_entry_52 : decode c_Mo_entry 52 = .ok (.ireturn, 1) := by decide +kernel
theorem d_Mo_entry_53 : decode c_Mo_entry 53 = .ok (.bipush 16, 2) := by decide +kernel
theorem d_Mo_entry_55 : decode c_Mo_entry 55 = .ok (.iload_n 1, 1) := by decide +kernel
theorem d_Mo_entry_56 : decode c_Mo_entry 56 = .ok (.imul, 1) := by decide +kernel
theorem d_Mo_entry_57 : decode c_Mo_entry 57 = .ok (.iconst 2, 1) := by decide +kernel
theorem d_Mo_entry_58 : decode c_Mo_entry 58 = .ok (.aload_n 0, 1) := by decide +kernel
theorem d_Mo_entry_59 : decode c_Mo_entry 59 = .ok (.getfield 55, 3) := by decide +kernel
theorem d_Mo_entry_62 : decode c_Mo_entry 62 = .ok (.iload_n 1, 1) := by decide +kernel
theorem d_Mo_entry_63 : decode c_Mo_entry 63 = .ok (.iaload, 1) := by decide +kernel
theorem d_Mo_entry_64 : decode c_Mo_entry 64 = .ok (.imul, 1) := by decide +kernel
theorem d_Mo_entry_65 : decode c_Mo_entry 65 = .ok (.iadd, 1) := by decide +kernel
theorem d_Mo_entry_66 : decode c_Mo_entry 66 = .ok (.istore 4, 2) := by decide +kernel
theorem d_Mo_entry_68 : decode c_Mo_entry 68 = .ok (.aload_n 0, 1) := by decide +kernel
theorem d_Mo_entry_69 : decode c_Mo_entry 69 = .ok (.getfield 52, 3) := by decide +kernel
theorem d_Mo_entry_72 : decode c_Mo_entry 72 = .ok (.iload 4, 2) := by decide +kernel
theorem d_Mo_entry_74 : decode c_Mo_entry 74 = .ok (.iload_n 2, 1) := by decide +kernel
theorem d_Mo_entry_75 : decode c_Mo_entry 75 = .ok (.iastore, 1) := by decide +kernel
theorem d_Mo_entry_76 : decode c_Mo_entry 76 = .ok (.aload_n 0, 1) := by decide +kernel
theorem d_Mo_entry_77 : decode c_Mo_entry 77 = .ok (.getfield 52, 3) := by decide +kernel
theorem d_Mo_entry_80 : decode c_Mo_entry 80 = .ok (.iload 4, 2) := by decide +kernel
theorem d_Mo_entry_82 : decode c_Mo_entry 82 = .ok (.iconst 1, 1) := by decide +kernel
theorem d_Mo_entry_83 : decode c_Mo_entry 83 = .ok (.iadd, 1) := by decide +kernel
theorem d_Mo_entry_84 : decode c_Mo_entry 84 = .ok (.iload_n 3, 1) := by decide +kernel
theorem d_Mo_entry_85 : decode c_Mo_entry 85 = .ok (.iastore, 1) := by decide +kernel
theorem d_Mo_entry_86 : decode c_Mo_entry 86 = .ok (.aload_n 0, 1) := by decide +kernel
theorem d_Mo_entry_87 : decode c_Mo_entry 87 = .ok (.getfield 55, 3) := by decide +kernel
theorem d_Mo_entry_90 : decode c_Mo_entry 90 = .ok (.iload_n 1, 1) := by decide +kernel
theorem d_Mo_entry_91 : decode c_Mo_entry 91 = .ok (.dup2, 1) := by decide +kernel
theorem d_Mo_entry_92 : decode c_Mo_entry 92 = .ok (.iaload, 1) := by decide +kernel
theorem d_Mo_entry_93 : decode c_Mo_entry 93 = .ok (.iconst 1, 1) := by decide +kernel
theorem d_Mo_entry_94 : decode c_Mo_entry 94 = .ok (.iadd, 1) := by decide +kernel
theorem d_Mo_entry_95 : decode c_Mo_entry 95 = .ok (.iastore, 1) := by decide +kernel
theorem d_Mo_entry_96 : decode c_Mo_entry 96 = .ok (.aload_n 0, 1) := by decide +kernel
theorem d_Mo_entry_97 : decode c_Mo_entry 97 = .ok (.getfield 55, 3) := by decide +kernel
theorem d_Mo_entry_100 : decode c_Mo_entry 100 = .ok (.iload_n 1, 1) := by decide +kernel
theorem d_Mo_entry_101 : decode c_Mo_entry 101 = .ok (.iaload, 1) := by decide +kernel
theorem d_Mo_entry_102 : decode c_Mo_entry 102 = .ok (.ireturn, 1) := by decide +kernel
theorem d_Mo_beginsWith_0 : decode c_Mo_beginsWith 0 = .ok (.iload_n 0, 1) := by decide +kernel
theorem d_Mo_beginsWith_1 : decode c_Mo_beginsWith 1 = .ok (.istore_n 2, 1) := by decide +kernel
theorem d_Mo_beginsWith_2 : decode c_Mo_beginsWith 2 = .ok (.iload_n 2, 1) := by decide +kernel
theorem d_Mo_beginsWith_3 : decode c_Mo_beginsWith 3 = .ok (.iload_n 1, 1) := by decide +kernel
theorem d_Mo_beginsWith_4 : decode c_Mo_beginsWith 4 = .ok (.if_icmp .le 17, 3) := by decide +kernel
theorem d_Mo_beginsWith_7 : decode c_Mo_beginsWith 7 = .ok (.iload_n 2, 1) := by decide +kernel
theorem d_Mo_beginsWith_8 : decode c_Mo_beginsWith 8 = .ok (.bipush 9, 2) := by decide +kernel
theorem d_Mo_beginsWith_10 : decode c_Mo_beginsWith 10 = .ok (.if_icmp .le 11, 3) := by decide +kernel
theorem d_Mo_beginsWith_13 : decode c_Mo_beginsWith 13 = .ok (.iload_n 2, 1) := by decide +kernel
theorem d_Mo_beginsWith_14 : decode c_Mo_beginsWith 14 = .ok (.bipush 10, 2) := by decide +kernel
theorem d_Mo_beginsWith_16 : decode c_Mo_beginsWith 16 = .ok (.idiv, 1) := by decide +kernel
theorem d_Mo_beginsWith_17 : decode c_Mo_beginsWith 17 = .ok (.istore_n 2, 1) := by decide +kernel
theorem d_Mo_beginsWith_18 : decode c_Mo_beginsWith 18 = .ok (.goto (-16), 3) := by decide +kernel
theorem d_Mo_beginsWith_21 : decode c_Mo_beginsWith 21 = .ok (.iload_n 2, 1) := by decide +kernel
theorem d_Mo_beginsWith_22 : decode c_Mo_beginsWith 22 = .ok (.iload_n 1, 1) := by decide +kernel
theorem d_Mo_beginsWith_23 : decode c_Mo_beginsWith 23 = .ok (.if_icmp .ne 7, 3) := by decide +kernel
theorem d_Mo_beginsWith_26 : decode c_Mo_beginsWith 26 = .ok (.iconst 1, 1) := by decide +kernel
theorem d_Mo_beginsWith_27 : decode c_Mo_beginsWith 27 = .ok (.goto 4, 3) := by decide +kernel
theorem d_Mo_beginsWith_30 : decode c_Mo_beginsWith 30 = .ok (.iconst 0, 1) := by decide +kernel
theorem d_Mo_beginsWith_31 : decode c_Mo_beginsWith 31 = .ok (.ireturn, 1) := by decide +kernel
theorem d_Mo_has_0 : decode c_Mo_has 0 = .ok (.iconst 0, 1) := by decide +kernel
theorem d_Mo_has_1 : decode c_Mo_has 1 = .ok (.istore_n 3, 1) := by decide +kernel
theorem d_Mo_has_2 : decode c_Mo_has 2 = .ok (.iconst 0, 1) := by decide +kernel
theorem d_Mo_has_3 : decode c_Mo_has 3 = .ok (.istore 4, 2) := by decide +kernel
theorem d_Mo_has_5 : decode c_Mo_has 5 = .ok (.iload 4, 2) := by decide +kernel
theorem d_Mo_has_7 : decode c_Mo_has 7 = .ok (.aload_n 0, 1) := by decide +kernel
theorem d_Mo_has_8 : decode c_Mo_has 8 = .ok (.getfield 55, 3) := by decide +kernel
theorem d_Mo_has_11 : decode c_Mo_has 11 = .ok (.iload_n 1, 1) := by decide +kernel
theorem d_Mo_has_12 : decode c_Mo_has 12 = .ok (.iaload, 1) := by decide +kernel
theorem d_Mo_has_13 : decode c_Mo_has 13 = .ok (.if_icmp .ge 148, 3) := by decide +kernel
theorem d_Mo_has_16 : decode c_Mo_has 16 = .ok (.aload_n 0, 1) := by decide +kernel
theorem d_Mo_has_17 : decode c_Mo_has 17 = .ok (.getfield 52, 3) := by decide +kernel
theorem d_Mo_has_20 : decode c_Mo_has 20 = .ok (.bipush 16, 2) := by decide +kernel
theorem d_Mo_has_22 : decode c_Mo_has 22 = .ok (.iload_n 1, 1) := by decide +kernel
theorem d_Mo_has_23 : decode c_Mo_has 23 = .ok (.imul, 1) := by decide +kernel
theorem d_Mo_has_24 : decode c_Mo_has 24 = .ok (.iconst 2, 1) := by decide +kernel
theorem d_Mo_has_25 : decode c_Mo_has 25 = .ok (.iload 4, 2) := by decide +kernel
theorem d_Mo_has_27 : decode c_Mo_has 27 = .ok (.imul, 1) := by decide +kernel
theorem d_Mo_has_28 : decode c_Mo_has 28 = .ok (.iadd, 1) := by decide +kernel
theorem d_Mo_has_29 : decode c_Mo_has 29 = .ok (.iconst 1, 1) := by decide +kernel
theorem d_Mo_has_30 : decode c_Mo_has 30 = .ok (.iadd, 1) := by decide +kernel
theorem d_Mo_has_31 : decode c_Mo_has 31 = .ok (.iaload, 1) := by decide +kernel
theorem d_Mo_has_32 : decode c_Mo_has 32 = .ok (.istore 5, 2) := by decide +kernel
theorem d_Mo_has_34 : decode c_Mo_has 34 = .ok (.aload_n 0, 1) := by decide +kernel
theorem d_Mo_has_35 : decode c_Mo_has 35 = .ok (.getfield 36, 3) := by decide +kernel
theorem d_Mo_has_38 : decode c_Mo_has 38 = .ok (.iload_n 2, 1) := by decide +kernel
theorem d_Mo_has_39 : decode c_Mo_has 39 = .ok (.iconst 2, 1) := by decide +kernel
theorem d_Mo_has_40 : decode c_Mo_has 40 = .ok (.iadd, 1) := by decide +kernel
theorem d_Mo_has_41 : decode c_Mo_has 41 = .ok (.iaload, 1) := by decide +kernel
theorem d_Mo_has_42 : decode c_Mo_has 42 = .ok (.istore 6, 2) := by decide +kernel
theorem d_Mo_has_44 : decode c_Mo_has 44 = .ok (.aload_n 0, 1) := by decide +kernel
theorem d_Mo_has_45 : decode c_Mo_has 45 = .ok (.getfield 36, 3) := by decide +kernel
theorem d_Mo_has_48 : decode c_Mo_has 48 = .ok (.iload_n 2, 1) := by decide +kernel
theorem d_Mo_has_49 : decode c_Mo_has 49 = .ok (.iaload, 1) := by decide +kernel
theorem d_Mo_has_50 : decode c_Mo_has 50 = .ok (.ifCond .ne 18, 3) := by decide +kernel
theorem d_Mo_has_53 : decode c_Mo_has 53 = .ok (.iload 5, 2) := by decide +kernel
theorem d_Mo_has_55 : decode c_Mo_has 55 = .ok (.iload 6, 2) := by decide +kernel
theorem d_Mo_has_57 : decode c_Mo_has 57 = .ok (.if_icmp .ne 7, 3) := by decide +kernel
theorem d_Mo_has_60 : decode c_Mo_has 60 = .ok (.iconst 1, 1) := by decide +kernel
theorem d_Mo_has_61 : decode c_Mo_has 61 = .ok (.goto 52, 3) := by decide +kernel
theorem d_Mo_has_64 : decode c_Mo_has 64 = .ok (.iconst 0, 1) := by decide +kernel
theorem d_Mo_has_65 : decode c_Mo_has 65 = .ok (.goto 48, 3) := by decide +kernel
theorem d_Mo_has_68 : decode c_Mo_has 68 = .ok (.aload_n 0, 1) := by decide +kernel
theorem d_Mo_has_69 : decode c_Mo_has 69 = .ok (.getfield 36, 3) := by decide +kernel
theorem d_Mo_has_72 : decode c_Mo_has 72 = .ok (.iload_n 2, 1) := by decide +kernel
theorem d_Mo_has_73 : decode c_Mo_has 73 = .ok (.iaload, 1) := by decide +kernel
theorem d_Mo_has_74 : decode c_Mo_has 74 = .ok (.iconst 1, 1) := by decide +kernel
theorem d_Mo_has_75 : decode c_Mo_has 75 = .ok (.if_icmp .ne 31, 3) := by decide +kernel
theorem d_Mo_has_78 : decode c_Mo_has 78 = .ok (.iload 5, 2) := by decide +kernel
theorem d_Mo_has_80 : decode c_Mo_has 80 = .ok (.iload 6, 2) := by decide +kernel
theorem d_Mo_has_82 : decode c_Mo_has 82 = .ok (.if_icmp .lt 20, 3) := by decide +kernel
theorem d_Mo_has_85 : decode c_Mo_has 85 = .ok (.iload 5, 2) := by decide +kernel
theorem d_Mo_has_87 : decode c_Mo_has 87 = .ok (.aload_n 0, 1) := by decide +kernel
theorem d_Mo_has_88 : decode c_Mo_has 88 = .ok (.getfield 36, 3) := by decide +kernel
theorem d_Mo_has_91 : decode c_Mo_has 91 = .ok (.iload_n 2, 1) := by decide +kernel
theorem d_Mo_has_92 : decode c_Mo_has 92 = .ok (.iconst 3, 1) := by decide +kernel
theorem d_Mo_has_93 : decode c_Mo_has 93 = .ok (.iadd, 1) := by decide +kernel
theorem d_Mo_has_94 : decode c_Mo_has 94 = .ok (.iaload, 1) := by decide +kernel
theorem d_Mo_has_95 : decode c_Mo_has 95 = .ok (.if_icmp .gt 7, 3) := by decide +kernel
theorem d_Mo_has_98 : decode c_Mo_has 98 = .ok (.iconst 1, 1) := by decide +kernel
theorem d_Mo_has_99 : decode c_Mo_has 99 = .ok (.goto 14, 3) := by decide +kernel
theorem d_Mo_has_102 : decode c_Mo_has 102 = .ok (.iconst 0, 1) := by decide +kernel
theorem d_Mo_has_103 : decode c_Mo_has 103 = .ok (.goto 10, 3) := by decide +kernel
theorem d_Mo_has_106 : decode c_Mo_has 106 = .ok (.iload 5, 2) := by decide +kernel
theorem d_Mo_has_108 : decode c_Mo_has 108 = .ok (.iload 6, 2) := by decide +kernel
theorem d_Mo_has_110 : decode c_Mo_has 110 = .ok (.invokestatic 179, 3) := by decide +kernel
theorem d_Mo_has_113 : decode c_Mo_has 113 = .ok (.istore 7, 2) := by decide +kernel
theorem d_Mo_has_115 : decode c_Mo_has 115 = .ok (.iload_n 3, 1) := by decide +kernel
theorem d_Mo_has_116 : decode c_Mo_has 116 = .ok (.ifCond .ne 33, 3) := by decide +kernel
theorem d_Mo_has_119 : decode c_Mo_has 119 = .ok (.aload_n 0, 1) := by decide +kernel
theorem d_Mo_has_120 : decode c_Mo_has 120 = .ok (.getfield 52, 3) := by decide +kernel
theorem d_Mo_has_123 : decode c_Mo_has 123 = .ok (.bipush 16, 2) := by decide +kernel
theorem d_Mo_has_125 : decode c_Mo_has 125 = .ok (.iload_n 1, 1) := by decide +kernel
theorem d_Mo_has_126 : decode c_Mo_has 126 = .ok (.imul, 1) := by decide +kernel
theorem d_Mo_has_127 : decode c_Mo_has 127 = .ok (.iconst 2, 1) := by decide +kernel
theorem d_Mo_has_128 : decode c_Mo_has 128 = .ok (.iload 4, 2) := by decide +kernel
theorem d_Mo_has_130 : decode c_Mo_has 130 = .ok (.imul, 1) := by decide +kernel
theorem d_Mo_has_131 : decode c_Mo_has 131 = .ok (.iadd, 1) := by decide +kernel
theorem d_Mo_has_132 : decode c_Mo_has 132 = .ok (.iaload, 1) := by decide +kernel
theorem d_Mo_has_133 : decode c_Mo_has 133 = .ok (.aload_n 0, 1) := by decide +kernel
theorem d_Mo_has_134 : decode c_Mo_has 134 = .ok (.getfield 36, 3) := by decide +kernel
theorem d_Mo_has_137 : decode c_Mo_has 137 = .ok (.iload_n 2, 1) := by decide +kernel
theorem d_Mo_has_138 : decode c_Mo_has 138 = .ok (.iconst 1, 1) := by decide +kernel
theorem d_Mo_has_139 : decode c_Mo_has 139 = .ok (.iadd, 1) := by decide +kernel
theorem d_Mo_has_140 : decode c_Mo_has 140 = .ok (.iaload, 1) := by decide +kernel
theorem d_Mo_has_141 : decode c_Mo_has 141 = .ok (.if_icmp .ne 12, 3) := by decide +kernel
theorem d_Mo_has_144 : decode c_Mo_has 144 = .ok (.iload 7, 2) := by decide +kernel
theorem d_Mo_has_146 : decode c_Mo_has 146 = .ok (.ifCond .eq 7, 3) := by decide +kernel
theorem d_Mo_has_149 : decode c_Mo_has 149 = .ok (.iconst 1, 1) := by decide +kernel
theorem d_Mo_has_150 : decode c_Mo_has 150 = .ok (.goto 4, 3) := by decide +kernel
theorem d_Mo_has_153 : decode c_Mo_has 153 = .ok (.iconst 0, 1) := by decide +kernel
theorem d_Mo_has_154 : decode c_Mo_has 154 = .ok (.istore_n 3, 1) := by decide +kernel
theorem d_Mo_has_155 : decode c_Mo_has 155 = .ok (.iinc 4 1, 3) := by decide +kernel
theorem d_Mo_has_158 : decode c_Mo_has 158 = .ok (.goto (-153), 3) := by decide +kernel
theorem d_Mo_has_161 : decode c_Mo_has 161 = .ok (.iload_n 3, 1) := by decide +kernel
theorem d_Mo_has_162 : decode c_Mo_has 162 = .ok (.ireturn, 1) := by decide +kernel
theorem d_Mo_meetsAll_0 : decode c_Mo_meetsAll 0 = .ok (.iconst 0, 1) := by decide +kernel
theorem d_Mo_meetsAll_1 : decode c_Mo_meetsAll 1 = .ok (.istore_n 3, 1) := by decide +kernel
theorem d_Mo_meetsAll_2 : decode c_Mo_meetsAll 2 = .ok (.aload_n 0, 1) := by decide +kernel
theorem d_Mo_meetsAll_3 : decode c_Mo_meetsAll 3 = .ok (.getfield 39, 3) := by decide +kernel
theorem d_Mo_meetsAll_6 : decode c_Mo_meetsAll 6 = .ok (.iload_n 2, 1) := by decide +kernel
theorem d_Mo_meetsAll_7 : decode c_Mo_meetsAll 7 = .ok (.iaload, 1) := by decide +kernel
theorem d_Mo_meetsAll_8 : decode c_Mo_meetsAll 8 = .ok (.iconst 1, 1) := by decide +kernel
theorem d_Mo_meetsAll_9 : decode c_Mo_meetsAll 9 = .ok (.isub, 1) := by decide +kernel
theorem d_Mo_meetsAll_10 : decode c_Mo_meetsAll 10 = .ok (.istore 4, 2) := by decide +kernel
theorem d_Mo_meetsAll_12 : decode c_Mo_meetsAll 12 = .ok (.iload 4, 2) := by decide +kernel
theorem d_Mo_meetsAll_14 : decode c_Mo_meetsAll 14 = .ok (.ifCond .lt 149, 3) := by decide +kernel
theorem d_Mo_meetsAll_17 : decode c_Mo_meetsAll 17 = .ok (.sipush 160, 3) := by decide +kernel
theorem d_Mo_meetsAll_20 : decode c_Mo_meetsAll 20 = .ok (.iload_n 2, 1) := by decide +kernel
theorem d_Mo_meetsAll_21 : decode c_Mo_meetsAll 21 = .ok (.imul, 1) := by decide +kernel
theorem d_Mo_meetsAll_22 : decode c_Mo_meetsAll 22 = .ok (.iconst 4, 1) := by decide +kernel
theorem d_Mo_meetsAll_23 : decode c_Mo_meetsAll 23 = .ok (.iload 4, 2) := by decide +kernel
theorem d_Mo_meetsAll_25 : decode c_Mo_meetsAll 25 = .ok (.imul, 1) := by decide +kernel
theorem d_Mo_meetsAll_26 : decode c_Mo_meetsAll 26 = .ok (.iadd, 1) := by decide +kernel
theorem d_Mo_meetsAll_27 : decode c_Mo_meetsAll 27 = .ok (.istore 5, 2) := by decide +kernel
theorem d_Mo_meetsAll_29 : decode c_Mo_meetsAll 29 = .ok (.aload_n 0, 1) := by decide +kernel
theorem d_Mo_meetsAll_30 : decode c_Mo_meetsAll 30 = .ok (.getfield 36, 3) := by decide +kernel
theorem d_Mo_meetsAll_33 : decode c_Mo_meetsAll 33 = .ok (.iload 5, 2) := by decide +kernel
theorem d_Mo_meetsAll_35 : decode c_Mo_meetsAll 35 = .ok (.iaload, 1) := by decide +kernel
theorem d_Mo_meetsAll_36 : decode c_Mo_meetsAll 36 = .ok (.istore 6, 2) := by decide +kernel
theorem d_Mo_meetsAll_38 : decode c_Mo_meetsAll 38 = .ok (.iload 6, 2) := by decide +kernel
theorem d_Mo_meetsAll_40 : decode c_Mo_meetsAll 40 = .ok (.iconst 3, 1) := by decide +kernel
theorem d_Mo_meetsAll_41 : decode c_Mo_meetsAll 41 = .ok (.if_icmp .ge 22, 3) := by decide +kernel
theorem d_Mo_meetsAll_44 : decode c_Mo_meetsAll 44 = .ok (.aload_n 0, 1) := by decide +kernel
theorem d_Mo_meetsAll_45 : decode c_Mo_meetsAll 45 = .ok (.getfield 58, 3) := by decide +kernel
theorem d_Mo_meetsAll_48 : decode c_Mo_meetsAll 48 = .ok (.iload_n 3, 1) := by decide +kernel
theorem d_Mo_meetsAll_49 : decode c_Mo_meetsAll 49 = .ok (.aload_n 0, 1) := by decide +kernel
theorem d_Mo_meetsAll_50 : decode c_Mo_meetsAll 50 = .ok (.iload_n 1, 1) := by decide +kernel
theorem d_Mo_meetsAll_51 : decode c_Mo_meetsAll 51 = .ok (.iload 5, 2) := by decide +kernel
theorem d_Mo_meetsAll_53 : decode c_Mo_meetsAll 53 = .ok (.invokevirtual 182, 3) := by decide +kernel
theorem d_Mo_meetsAll_56 : decode c_Mo_meetsAll 56 = .ok (.bastore, 1) := by decide +kernel
theorem d_Mo_meetsAll_57 : decode c_Mo_meetsAll 57 = .ok (.iinc 3 1, 3) := by decide +kernel
theorem d_Mo_meetsAll_60 : decode c_Mo_meetsAll 60 = .ok (.goto 97, 3) := by decide +kernel
theorem d_Mo_meetsAll_63 : decode c_Mo_meetsAll 63 = .ok (.aload_n 0, 1) := by decide +kernel
theorem d_Mo_meetsAll_64 : decode c_Mo_meetsAll 64 = .ok (.getfield 58, 3) := by decide +kernel
theorem d_Mo_meetsAll_67 : decode c_Mo_meetsAll 67 = .ok (.iload_n 3, 1) := by decide +kernel
theorem d_Mo_meetsAll_68 : decode c_Mo_meetsAll 68 = .ok (.iconst 1, 1) := by decide +kernel
theorem d_Mo_meetsAll_69 : decode c_Mo_meetsAll 69 = .ok (.isub, 1) := by decide +kernel
theorem d_Mo_meetsAll_70 : decode c_Mo_meetsAll 70 = .ok (.baload, 1) := by decide +kernel
theorem d_Mo_meetsAll_71 : decode c_Mo_meetsAll 71 = .ok (.istore 7, 2) := by decide +kernel
theorem d_Mo_meetsAll_73 : decode c_Mo_meetsAll 73 = .ok (.aload_n 0, 1) := by decide +kernel
theorem d_Mo_meetsAll_74 : decode c_Mo_meetsAll 74 = .ok (.getfield 58, 3) := by decide +kernel
theorem d_Mo_meetsAll_77 : decode c_Mo_meetsAll 77 = .ok (.iload_n 3, 1) := by decide +kernel
theorem d_Mo_meetsAll_78 : decode c_Mo_meetsAll 78 = .ok (.iconst 2, 1) := by decide +kernel
theorem d_Mo_meetsAll_79 : decode c_Mo_meetsAll 79 = .ok (.isub, 1) := by decide +kernel
theorem d_Mo_meetsAll_80 : decode c_Mo_meetsAll 80 = .ok (.baload, 1) := by decide +kernel
theorem d_Mo_meetsAll_81 : decode c_Mo_meetsAll 81 = .ok (.istore 8, 2) := by decide +kernel
theorem d_Mo_meetsAll_83 : decode c_Mo_meetsAll 83 = .ok (.iinc 3 (-1), 3) := by decide +kernel
theorem d_Mo_meetsAll_86 : decode c_Mo_meetsAll 86 = .ok (.aload_n 0, 1) := by decide +kernel
theorem d_Mo_meetsAll_87 : decode c_Mo_meetsAll 87 = .ok (.getfield 58, 3) := by decide +kernel
theorem d_Mo_meetsAll_90 : decode c_Mo_meetsAll 90 = .ok (.iload_n 3, 1) := by decide +kernel
theorem d_Mo_meetsAll_91 : decode c_Mo_meetsAll 91 = .ok (.iconst 1, 1) := by decide +kernel
theorem d_Mo_meetsAll_92 : decode c_Mo_meetsAll 92 = .ok (.isub, 1) := by decide +kernel
theorem d_Mo_meetsAll_93 : decode c_Mo_meetsAll 93 = .ok (.iload 6, 2) := by decide +kernel
theorem d_Mo_meetsAll_95 : decode c_Mo_meetsAll 95 = .ok (.iconst 3, 1) := by decide +kernel
theorem d_Mo_meetsAll_96 : decode c_Mo_meetsAll 96 = .ok (.if_icmp .ne 21, 3) := by decide +kernel
theorem d_Mo_meetsAll_99 : decode c_Mo_meetsAll 99 = .ok (.iload 7, 2) := by decide +kernel
theorem d_Mo_meetsAll_101 : decode c_Mo_meetsAll 101 = .ok (.ifCond .eq 12, 3) := by decide +kernel
theorem d_Mo_meetsAll_104 : decode c_Mo_meetsAll 104 = .ok (.iload 8, 2) := by decide +kernel
theorem d_Mo_meetsAll_106 : decode c_Mo_meetsAll 106 = .ok (.ifCond .eq 7, 3) := by decide +kernel
theorem d_Mo_meetsAll_109 : decode c_Mo_meetsAll 109 = .ok (.iconst 1, 1) := by decide +kernel
theorem d_Mo_meetsAll_110 : decode c_Mo_meetsAll 110 = .ok (.goto 46, 3) := by decide +kernel
theorem d_Mo_meetsAll_113 : decode c_Mo_meetsAll 113 = .ok (.iconst 0, 1) := by decide +kernel
theorem d_Mo_meetsAll_114 : decode c_Mo_meetsAll 114 = .ok (.goto 42, 3) := by decide +kernel
theorem d_Mo_meetsAll_117 : decode c_Mo_meetsAll 117 = .ok (.iload 6, 2) := by decide +kernel
theorem d_Mo_meetsAll_119 : decode c_Mo_meetsAll 119 = .ok (.iconst 4, 1) := by decide +kernel
theorem d_Mo_meetsAll_120 : decode c_Mo_meetsAll 120 = .ok (.if_icmp .ne 21, 3) := by decide +kernel
theorem d_Mo_meetsAll_123 : decode c_Mo_meetsAll 123 = .ok (.iload 7, 2) := by decide +kernel
theorem d_Mo_meetsAll_125 : decode c_Mo_meetsAll 125 = .ok (.ifCond .ne 8, 3) := by decide +kernel
theorem d_Mo_meetsAll_128 : decode c_Mo_meetsAll 128 = .ok (.iload 8, 2) := by decide +kernel
theorem d_Mo_meetsAll_130 : decode c_Mo_meetsAll 130 = .ok (.ifCond .eq 7, 3) := by decide +kernel
theorem d_Mo_meetsAll_133 : decode c_Mo_meetsAll 133 = .ok (.iconst 1, 1) := by decide +kernel
theorem d_Mo_meetsAll_134 : decode c_Mo_meetsAll 134 = .ok (.goto 22, 3) := by decide +kernel
theorem d_Mo_meetsAll_137 : decode c_Mo_meetsAll 137 = .ok (.iconst 0, 1) := by decide +kernel
theorem d_Mo_meetsAll_138 : decode c_Mo_meetsAll 138 = .ok (.goto 18, 3) := by decide +kernel
theorem d_Mo_meetsAll_141 : decode c_Mo_meetsAll 141 = .ok (.iload 7, 2) := by decide +kernel
theorem d_Mo_meetsAll_143 : decode c_Mo_meetsAll 143 = .ok (.ifCond .eq 12, 3) := by decide +kernel
theorem d_Mo_meetsAll_146 : decode c_Mo_meetsAll 146 = .ok (.iload 8, 2) := by decide +kernel
theorem d_Mo_meetsAll_148 : decode c_Mo_meetsAll 148 = .ok (.ifCond .ne 7, 3) := by decide +kernel
theorem d_Mo_meetsAll_151 : decode c_Mo_meetsAll 151 = .ok (.iconst 1, 1) := by decide +kernel
theorem d_Mo_meetsAll_152 : decode c_Mo_meetsAll 152 = .ok (.goto 4, 3) := by decide +kernel
theorem d_Mo_meetsAll_155 : decode c_Mo_meetsAll 155 = .ok (.iconst 0, 1) := by decide +kernel
theorem d_Mo_meetsAll_156 : decode c_Mo_meetsAll 156 = .ok (.bastore, 1) := by decide +kernel
theorem d_Mo_meetsAll_157 : decode c_Mo_meetsAll 157 = .ok (.iinc 4 (-1), 3) := by decide +kernel
theorem d_Mo_meetsAll_160 : decode c_Mo_meetsAll 160 = .ok (.goto (-148), 3) := by decide +kernel
theorem d_Mo_meetsAll_163 : decode c_Mo_meetsAll 163 = .ok (.aload_n 0, 1) := by decide +kernel
theorem d_Mo_meetsAll_164 : decode c_Mo_meetsAll 164 = .ok (.getfield 58, 3) := by decide +kernel
theorem d_Mo_meetsAll_167 : decode c_Mo_meetsAll 167 = .ok (.iconst 0, 1) := by decide +kernel
theorem d_Mo_meetsAll_168 : decode c_Mo_meetsAll 168 = .ok (.baload, 1) := by decide +kernel
theorem d_Mo_meetsAll_169 : decode c_Mo_meetsAll 169 = .ok (.ireturn, 1) := by decide +kernel
theorem d_Mo_isSaved_0 : decode c_Mo_isSaved 0 = .ok (.iload_n 1, 1) := by decide +kernel
theorem d_Mo_isSaved_1 : decode c_Mo_isSaved 1 = .ok (.ifCond .lt 22, 3) := by decide +kernel
theorem d_Mo_isSaved_4 : decode c_Mo_isSaved 4 = .ok (.iload_n 1, 1) := by decide +kernel
theorem d_Mo_isSaved_5 : decode c_Mo_isSaved 5 = .ok (.bipush 10, 2) := by decide +kernel
theorem d_Mo_isSaved_7 : decode c_Mo_isSaved 7 = .ok (.if_icmp .ge 16, 3) := by decide +kernel
theorem d_Mo_isSaved_10 : decode c_Mo_isSaved 10 = .ok (.aload_n 0, 1) := by decide +kernel
theorem d_Mo_isSaved_11 : decode c_Mo_isSaved 11 = .ok (.getfield 39, 3) := by decide +kernel
theorem d_Mo_isSaved_14 : decode c_Mo_isSaved 14 = .ok (.iload_n 1, 1) := by decide +kernel
theorem d_Mo_isSaved_15 : decode c_Mo_isSaved 15 = .ok (.iaload, 1) := by decide +kernel
theorem d_Mo_isSaved_16 : decode c_Mo_isSaved 16 = .ok (.ifCond .le 7, 3) := by decide +kernel
theorem d_Mo_isSaved_19 : decode c_Mo_isSaved 19 = .ok (.iconst 1, 1) := by decide +kernel
theorem d_Mo_isSaved_20 : decode c_Mo_isSaved 20 = .ok (.goto 4, 3) := by decide +kernel
theorem d_Mo_isSaved_23 : decode c_Mo_isSaved 23 = .ok (.iconst 0, 1) := by decide +kernel
theorem d_Mo_isSaved_24 : decode c_Mo_isSaved 24 = .ok (.ireturn, 1) := by decide +kernel
theorem d_Mo_isBroken_0 : decode c_Mo_isBroken 0 = .ok (.iconst 0, 1) := by decide +kernel
theorem d_Mo_isBroken_1 : decode c_Mo_isBroken 1 = .ok (.istore_n 2, 1) := by decide +kernel
theorem d_Mo_isBroken_2 : decode c_Mo_isBroken 2 = .ok (.iconst 0, 1) := by decide +kernel
theorem d_Mo_isBroken_3 : decode c_Mo_isBroken 3 = .ok (.istore_n 3, 1) := by decide +kernel
theorem d_Mo_isBroken_4 : decode c_Mo_isBroken 4 = .ok (.iload_n 3, 1) := by decide +kernel
theorem d_Mo_isBroken_5 : decode c_Mo_isBroken 5 = .ok (.aload_n 0, 1) := by decide +kernel
theorem d_Mo_isBroken_6 : decode c_Mo_isBroken 6 = .ok (.getfield 39, 3) := by decide +kernel
theorem d_Mo_isBroken_9 : decode c_Mo_isBroken 9 = .ok (.iload_n 1, 1) := by decide +kernel
theorem d_Mo_isBroken_10 : decode c_Mo_isBroken 10 = .ok (.iaload, 1) := by decide +kernel
theorem d_Mo_isBroken_11 : decode c_Mo_isBroken 11 = .ok (.if_icmp .ge 53, 3) := by decide +kernel
theorem d_Mo_isBroken_14 : decode c_Mo_isBroken 14 = .ok (.aload_n 0, 1) := by decide +kernel
theorem d_Mo_isBroken_15 : decode c_Mo_isBroken 15 = .ok (.getfield 36, 3) := by decide +kernel
theorem d_Mo_isBroken_18 : decode c_Mo_isBroken 18 = .ok (.sipush 160, 3) := by decide +kernel
theorem d_Mo_isBroken_21 : decode c_Mo_isBroken 21 = .ok (.iload_n 1, 1) := by decide +kernel
theorem d_Mo_isBroken_22 : decode c_Mo_isBroken 22 = .ok (.imul, 1) := by decide +kernel
theorem d_Mo_isBroken_23 : decode c_Mo_isBroken 23 = .ok (.iconst 4, 1) := by decide +kernel
theorem d_Mo_isBroken_24 : decode c_Mo_isBroken 24 = .ok (.iload_n 3, 1) := by decide +kernel
theorem d_Mo_isBroken_25 : decode c_Mo_isBroken 25 = .ok (.imul, 1) := by decide +kernel
theorem d_Mo_isBroken_26 : decode c_Mo_isBroken 26 = .ok (.iadd, 1) := by decide +kernel
theorem d_Mo_isBroken_27 : decode c_Mo_isBroken 27 = .ok (.iconst 1, 1) := by decide +kernel
theorem d_Mo_isBroken_28 : decode c_Mo_isBroken 28 = .ok (.iadd, 1) := by decide +kernel
theorem d_Mo_isBroken_29 : decode c_Mo_isBroken 29 = .ok (.iaload, 1) := by decide +kernel
theorem d_Mo_isBroken_30 : decode c_Mo_isBroken 30 = .ok (.istore 4, 2) := by decide +kernel
theorem d_Mo_isBroken_32 : decode c_Mo_isBroken 32 = .ok (.iload_n 2, 1) := by decide +kernel
theorem d_Mo_isBroken_33 : decode c_Mo_isBroken 33 = .ok (.ifCond .ne 19, 3) := by decide +kernel
theorem d_Mo_isBroken_36 : decode c_Mo_isBroken 36 = .ok (.iload 4, 2) := by decide +kernel
theorem d_Mo_isBroken_38 : decode c_Mo_isBroken 38 = .ok (.iconst (-1), 1) := by decide +kernel
theorem d_Mo_isBroken_39 : decode c_Mo_isBroken 39 = .ok (.if_icmp .eq 17, 3) := by decide +kernel
theorem d_Mo_isBroken_42 : decode c_Mo_isBroken 42 = .ok (.aload_n 0, 1) := by decide +kernel
theorem d_Mo_isBroken_43 : decode c_Mo_isBroken 43 = .ok (.getfield 20, 3) := by decide +kernel
theorem d_Mo_isBroken_46 : decode c_Mo_isBroken 46 = .ok (.iload 4, 2) := by decide +kernel
theorem d_Mo_isBroken_48 : decode c_Mo_isBroken 48 = .ok (.baload, 1) := by decide +kernel
theorem d_Mo_isBroken_49 : decode c_Mo_isBroken 49 = .ok (.ifCond .eq 7, 3) := by decide +kernel
theorem d_Mo_isBroken_52 : decode c_Mo_isBroken 52 = .ok (.iconst 1, 1) := by decide +kernel
theorem d_Mo_isBroken_53 : decode c_Mo_isBroken 53 = .ok (.goto 4, 3) := by decide +kernel
theorem d_Mo_isBroken_56 : decode c_Mo_isBroken 56 = .ok (.iconst 0, 1) := by decide +kernel
theorem d_Mo_isBroken_57 : decode c_Mo_isBroken 57 = .ok (.istore_n 2, 1) := by decide +kernel
theorem d_Mo_isBroken_58 : decode c_Mo_isBroken 58 = .ok (.iinc 3 1, 3) := by decide +kernel
theorem d_Mo_isBroken_61 : decode c_Mo_isBroken 61 = .ok (.goto (-57), 3) := by decide +kernel
theorem d_Mo_isBroken_64 : decode c_Mo_isBroken 64 = .ok (.iload_n 2, 1) := by decide +kernel
theorem d_Mo_isBroken_65 : decode c_Mo_isBroken 65 = .ok (.ireturn, 1) := by decide +kernel
theorem d_Mo_save_0 : decode c_Mo_save 0 = .ok (.aload_n 0, 1) := by decide +kernel
theorem d_Mo_save_1 : decode c_Mo_save 1 = .ok (.iconst 0, 1) := by decide +kernel
theorem d_Mo_save_2 : decode c_Mo_save 2 = .ok (.putfield 70, 3) := by decide +kernel
theorem d_Mo_save_5 : decode c_Mo_save 5 = .ok (.iload_n 1, 1) := by decide +kernel
theorem d_Mo_save_6 : decode c_Mo_save 6 = .ok (.ifCond .lt 19, 3) := by decide +kernel
theorem d_Mo_save_9 : decode c_Mo_save 9 = .ok (.iload_n 1, 1) := by decide +kernel
theorem d_Mo_save_10 : decode c_Mo_save 10 = .ok (.bipush 9, 2) := by decide +kernel
theorem d_Mo_save_12 : decode c_Mo_save 12 = .ok (.if_icmp .gt 13, 3) := by decide +kernel
theorem d_Mo_save_15 : decode c_Mo_save 15 = .ok (.aload_n 0, 1) := by decide +kernel
theorem d_Mo_save_16 : decode c_Mo_save 16 = .ok (.getfield 39, 3) := by decide +kernel
theorem d_Mo_save_19 : decode c_Mo_save 19 = .ok (.bipush 10, 2) := by decide +kernel
theorem d_Mo_save_21 : decode c_Mo_save 21 = .ok (.iaload, 1) := by decide +kernel
theorem d_Mo_save_22 : decode c_Mo_save 22 = .ok (.ifCond .ne 5, 3) := by decide +kernel
theorem d_Mo_save_25 : decode c_Mo_save 25 = .ok (.iconst 0, 1) := by decide +kernel
theorem d_Mo_save_26 : decode c_Mo_save 26 = .ok (.ireturn, 1) := by decide +kernel
theorem d_Mo_save_27 : decode c_Mo_save 27 = .ok (.iconst 0, 1) := by decide +kernel
theorem d_Mo_save_28 : decode c_Mo_save 28 = .ok (.istore_n 2, 1) := by decide +kernel
theorem d_Mo_save_29 : decode c_Mo_save 29 = .ok (.iload_n 2, 1) := by decide +kernel
theorem d_Mo_save_30 : decode c_Mo_save 30 = .ok (.sipush 160, 3) := by decide +kernel
theorem d_Mo_save_33 : decode c_Mo_save 33 = .ok (.if_icmp .ge 31, 3) := by decide +kernel
theorem d_Mo_save_36 : decode c_Mo_save 36 = .ok (.aload_n 0, 1) := by decide +kernel
theorem d_Mo_save_37 : decode c_Mo_save 37 = .ok (.getfield 36, 3) := by decide +kernel
theorem d_Mo_save_40 : decode c_Mo_save 40 = .ok (.sipush 160, 3) := by decide +kernel
theorem d_Mo_save_43 : decode c_Mo_save 43 = .ok (.iload_n 1, 1) := by decide +kernel
theorem d_Mo_save_44 : decode c_Mo_save 44 = .ok (.imul, 1) := by decide +kernel
theorem d_Mo_save_45 : decode c_Mo_save 45 = .ok (.iload_n 2, 1) := by decide +kernel
theorem d_Mo_save_46 : decode c_Mo_save 46 = .ok (.iadd, 1) := by decide +kernel
theorem d_Mo_save_47 : decode c_Mo_save 47 = .ok (.aload_n 0, 1) := by decide +kernel
theorem d_Mo_save_48 : decode c_Mo_save 48 = .ok (.getfield 36, 3) := by decide +kernel
theorem d_Mo_save_51 : decode c_Mo_save 51 = .ok (.sipush 1600, 3) := by decide +kernel
theorem d_Mo_save_54 : decode c_Mo_save 54 = .ok (.iload_n 2, 1) := by decide +kernel
theorem d_Mo_save_55 : decode c_Mo_save 55 = .ok (.iadd, 1) := by decide +kernel
theorem d_Mo_save_56 : decode c_Mo_save 56 = .ok (.iaload, 1) := by decide +kernel
theorem d_Mo_save_57 : decode c_Mo_save 57 = .ok (.iastore, 1) := by decide +kernel
theorem d_Mo_save_58 : decode c_Mo_save 58 = .ok (.iinc 2 1, 3) := by decide +kernel
theorem d_Mo_save_61 : decode c_Mo_save 61 = .ok (.goto (-32), 3) := by decide +kernel
theorem d_Mo_save_64 : decode c_Mo_save 64 = .ok (.aload_n 0, 1) := by decide +kernel
theorem d_Mo_save_65 : decode c_Mo_save 65 = .ok (.getfield 39, 3) := by decide +kernel
theorem d_Mo_save_68 : decode c_Mo_save 68 = .ok (.iload_n 1, 1) := by decide +kernel
theorem d_Mo_save_69 : decode c_Mo_save 69 = .ok (.aload_n 0, 1) := by decide +kernel
theorem d_Mo_save_70 : decode c_Mo_save 70 = .ok (.getfield 39, 3) := by decide +kernel
theorem d_Mo_save_73 : decode c_Mo_save 73 = .ok (.bipush 10, 2) := by decide +kernel
theorem d_Mo_save_75 : decode c_Mo_save 75 = .ok (.iaload, 1) := by decide +kernel
theorem d_Mo_save_76 : decode c_Mo_save 76 = .ok (.iastore, 1) := by decide +kernel
theorem d_Mo_save_77 : decode c_Mo_save 77 = .ok (.aload_n 0, 1) := by decide +kernel
theorem d_Mo_save_78 : decode c_Mo_save 78 = .ok (.getfield 42, 3) := by decide +kernel
theorem d_Mo_save_81 : decode c_Mo_save 81 = .ok (.iload_n 1, 1) := by decide +kernel
theorem d_Mo_save_82 : decode c_Mo_save 82 = .ok (.iconst 0, 1) := by decide +kernel
theorem d_Mo_save_83 : decode c_Mo_save 83 = .ok (.bastore, 1) := by decide +kernel
theorem d_Mo_save_84 : decode c_Mo_save 84 = .ok (.iconst 1, 1) := by decide +kernel
theorem d_Mo_save_85 : decode c_Mo_save 85 = .ok (.ireturn, 1) := by decide +kernel
theorem d_Mo_finds_0 : decode c_Mo_finds 0 = .ok (.aload_n 0, 1) := by decide +kernel
theorem d_Mo_finds_1 : decode c_Mo_finds 1 = .ok (.iconst 0, 1) := by decide +kernel
theorem d_Mo_finds_2 : decode c_Mo_finds 2 = .ok (.putfield 185, 3) := by decide +kernel
theorem d_Mo_finds_5 : decode c_Mo_finds 5 = .ok (.aload_n 0, 1) := by decide +kernel
theorem d_Mo_finds_6 : decode c_Mo_finds 6 = .ok (.getfield 175, 3) := by decide +kernel
theorem d_Mo_finds_9 : decode c_Mo_finds 9 = .ok (.istore_n 3, 1) := by decide +kernel
theorem d_Mo_finds_10 : decode c_Mo_finds 10 = .ok (.iload_n 3, 1) := by decide +kernel
theorem d_Mo_finds_11 : decode c_Mo_finds 11 = .ok (.ifCond .le 113, 3) := by decide +kernel
theorem d_Mo_finds_14 : decode c_Mo_finds 14 = .ok (.iload_n 3, 1) := by decide +kernel
theorem d_Mo_finds_15 : decode c_Mo_finds 15 = .ok (.istore 4, 2) := by decide +kernel
theorem d_Mo_finds_17 : decode c_Mo_finds 17 = .ok (.iload 4, 2) := by decide +kernel
theorem d_Mo_finds_19 : decode c_Mo_finds 19 = .ok (.iconst 1, 1) := by decide +kernel
theorem d_Mo_finds_20 : decode c_Mo_finds 20 = .ok (.if_icmp .le 28, 3) := by decide +kernel
theorem d_Mo_finds_23 : decode c_Mo_finds 23 = .ok (.aload_n 0, 1) := by decide +kernel
theorem d_Mo_finds_24 : decode c_Mo_finds 24 = .ok (.getfield 49, 3) := by decide +kernel
theorem d_Mo_finds_27 : decode c_Mo_finds 27 = .ok (.iload 4, 2) := by decide +kernel
theorem d_Mo_finds_29 : decode c_Mo_finds 29 = .ok (.iconst 1, 1) := by decide +kernel
theorem d_Mo_finds_30 : decode c_Mo_finds 30 = .ok (.isub, 1) := by decide +kernel
theorem d_Mo_finds_31 : decode c_Mo_finds 31 = .ok (.laload, 1) := by decide +kernel
theorem d_Mo_finds_32 : decode c_Mo_finds 32 = .ok (.aload_n 0, 1) := by decide +kernel
theorem d_Mo_finds_33 : decode c_Mo_finds 33 = .ok (.getfield 49, 3) := by decide +kernel
theorem d_Mo_finds_36 : decode c_Mo_finds 36 = .ok (.iload_n 3, 1) := by decide +kernel
theorem d_Mo_finds_37 : decode c_Mo_finds 37 = .ok (.laload, 1) := by decide +kernel
theorem d_Mo_finds_38 : decode c_Mo_finds 38 = .ok (.lcmp, 1) := by decide +kernel
theorem d_Mo_finds_39 : decode c_Mo_finds 39 = .ok (.ifCond .ne 9, 3) := by decide +kernel
theorem d_Mo_finds_42 : decode c_Mo_finds 42 = .ok (.iinc 4 (-1), 3) := by decide +kernel
theorem d_Mo_finds_45 : decode c_Mo_finds 45 = .ok (.goto (-28), 3) := by decide +kernel
theorem d_Mo_finds_48 : decode c_Mo_finds 48 = .ok (.iload 4, 2) := by decide +kernel
theorem d_Mo_finds_50 : decode c_Mo_finds 50 = .ok (.istore 5, 2) := by decide +kernel
theorem d_Mo_finds_52 : decode c_Mo_finds 52 = .ok (.iload 5, 2) := by decide +kernel
theorem d_Mo_finds_54 : decode c_Mo_finds 54 = .ok (.iload_n 3, 1) := by decide +kernel
theorem d_Mo_finds_55 : decode c_Mo_finds 55 = .ok (.if_icmp .gt 61, 3) := by decide +kernel
theorem d_Mo_finds_58 : decode c_Mo_finds 58 = .ok (.iload_n 2, 1) := by decide +kernel
theorem d_Mo_finds_59 : decode c_Mo_finds 59 = .ok (.ifCond .ne 20, 3) := by decide +kernel
theorem d_Mo_finds_62 : decode c_Mo_finds 62 = .ok (.aload_n 0, 1) := by decide +kernel
theorem d_Mo_finds_63 : decode c_Mo_finds 63 = .ok (.getfield 49, 3) := by decide +kernel
theorem d_Mo_finds_66 : decode c_Mo_finds 66 = .ok (.iload 5, 2) := by decide +kernel
theorem d_Mo_finds_68 : decode c_Mo_finds 68 = .ok (.laload, 1) := by decide +kernel
theorem d_Mo_finds_69 : decode c_Mo_finds 69 = .ok (.aload_n 0, 1) := by decide +kernel
theorem d_Mo_finds_70 : decode c_Mo_finds 70 = .ok (.getfield 45, 3) := by decide +kernel
theorem d_Mo_finds_73 : decode c_Mo_finds 73 = .ok (.iload_n 1, 1) := by decide +kernel
theorem d_Mo_finds_74 : decode c_Mo_finds 74 = .ok (.laload, 1) := by decide +kernel
theorem d_Mo_finds_75 : decode c_Mo_finds 75 = .ok (.lcmp, 1) := by decide +kernel
theorem d_Mo_finds_76 : decode c_Mo_finds 76 = .ok (.ifCond .le 34, 3) := by decide +kernel
theorem d_Mo_finds_79 : decode c_Mo_finds 79 = .ok (.aload_n 0, 1) := by decide +kernel
theorem d_Mo_finds_80 : decode c_Mo_finds 80 = .ok (.iload 5, 2) := by decide +kernel
theorem d_Mo_finds_82 : decode c_Mo_finds 82 = .ok (.iload_n 1, 1) := by decide +kernel
theorem d_Mo_finds_83 : decode c_Mo_finds 83 = .ok (.invokevirtual 188, 3) := by decide +kernel
theorem d_Mo_finds_86 : decode c_Mo_finds 86 = .ok (.ifCond .eq 24, 3) := by decide +kernel
theorem d_Mo_finds_89 : decode c_Mo_finds 89 = .ok (.aload_n 0, 1) := by decide +kernel
theorem d_Mo_finds_90 : decode c_Mo_finds 90 = .ok (.getfield 61, 3) := by decide +kernel
theorem d_Mo_finds_93 : decode c_Mo_finds 93 = .ok (.aload_n 0, 1) := by decide +kernel
theorem d_Mo_finds_94 : decode c_Mo_finds 94 = .ok (.getfield 185, 3) := by decide +kernel
theorem d_Mo_finds_97 : decode c_Mo_finds 97 = .ok (.iload 5, 2) := by decide +kernel
theorem d_Mo_finds_99 : decode c_Mo_finds 99 = .ok (.iastore, 1) := by decide +kernel
theorem d_Mo_finds_100 : decode c_Mo_finds 100 = .ok (.aload_n 0, 1) := by decide +kernel
theorem d_Mo_finds_101 : decode c_Mo_finds 101 = .ok (.dup, 1) := by decide +kernel
theorem d_Mo_finds_102 : decode c_Mo_finds 102 = .ok (.getfield 185, 3) := by decide +kernel
theorem d_Mo_finds_105 : decode c_Mo_finds 105 = .ok (.iconst 1, 1) := by decide +kernel
theorem d_Mo_finds_106 : decode c_Mo_finds 106 = .ok (.iadd, 1) := by decide +kernel
theorem d_Mo_finds_107 : decode c_Mo_finds 107 = .ok (.putfield 185, 3) := by decide +kernel
theorem d_Mo_finds_110 : decode c_Mo_finds 110 = .ok (.iinc 5 1, 3) := by decide +kernel
theorem d_Mo_finds_113 : decode c_Mo_finds 113 = .ok (.goto (-61), 3) := by decide +kernel
theorem d_Mo_finds_116 : decode c_Mo_finds 116 = .ok (.iload 4, 2) := by decide +kernel
theorem d_Mo_finds_118 : decode c_Mo_finds 118 = .ok (.iconst 1, 1) := by decide +kernel
theorem d_Mo_finds_119 : decode c_Mo_finds 119 = .ok (.isub, 1) := by decide +kernel
theorem d_Mo_finds_120 : decode c_Mo_finds 120 = .ok (.istore_n 3, 1) := by decide +kernel
theorem d_Mo_finds_121 : decode c_Mo_finds 121 = .ok (.goto (-111), 3) := by decide +kernel
theorem d_Mo_finds_124 : decode c_Mo_finds 124 = .ok (.aload_n 0, 1) := by decide +kernel
theorem d_Mo_finds_125 : decode c_Mo_finds 125 = .ok (.getfield 185, 3) := by decide +kernel
theorem d_Mo_finds_128 : decode c_Mo_finds 128 = .ok (.ireturn, 1) := by decide +kernel
theorem d_Mo_run_0 : decode c_Mo_run 0 = .ok (.aload_n 0, 1) := by decide +kernel
theorem d_Mo_run_1 : decode c_Mo_run 1 = .ok (.iconst 0, 1) := by decide +kernel
theorem d_Mo_run_2 : decode c_Mo_run 2 = .ok (.putfield 70, 3) := by decide +kernel
theorem d_Mo_run_5 : decode c_Mo_run 5 = .ok (.aload_n 0, 1) := by decide +kernel
theorem d_Mo_run_6 : decode c_Mo_run 6 = .ok (.iload_n 1, 1) := by decide +kernel
theorem d_Mo_run_7 : decode c_Mo_run 7 = .ok (.invokevirtual 191, 3) := by decide +kernel
theorem d_Mo_run_10 : decode c_Mo_run 10 = .ok (.ifCond .eq 20, 3) := by decide +kernel
theorem d_Mo_run_13 : decode c_Mo_run 13 = .ok (.aload_n 0, 1) := by decide +kernel
theorem d_Mo_run_14 : decode c_Mo_run 14 = .ok (.iload_n 1, 1) := by decide +kernel
theorem d_Mo_run_15 : decode c_Mo_run 15 = .ok (.invokevirtual 194, 3) := by decide +kernel
theorem d_Mo_run_18 : decode c_Mo_run 18 = .ok (.ifCond .ne 12, 3) := by decide +kernel
theorem d_Mo_run_21 : decode c_Mo_run 21 = .ok (.aload_n 0, 1) := by decide +kernel
theorem d_Mo_run_22 : decode c_Mo_run 22 = .ok (.iload_n 1, 1) := by decide +kernel
theorem d_Mo_run_23 : decode c_Mo_run 23 = .ok (.iconst 1, 1) := by decide +kernel
theorem d_Mo_run_24 : decode c_Mo_run 24 = .ok (.invokevirtual 197, 3) := by decide +kernel
theorem d_Mo_run_27 : decode c_Mo_run 27 = .ok (.goto 4, 3) := by decide +kernel
theorem d_Mo_run_30 : decode c_Mo_run 30 = .ok (.iconst (-1), 1) := by decide +kernel
theorem d_Mo_run_31 : decode c_Mo_run 31 = .ok (.ireturn, 1) := by decide +kernel
theorem d_Mo_alert_0 : decode c_Mo_alert 0 = .ok (.aload_n 0, 1) := by decide +kernel
theorem d_Mo_alert_1 : decode c_Mo_alert 1 = .ok (.iconst 0, 1) := by decide +kernel
theorem d_Mo_alert_2 : decode c_Mo_alert 2 = .ok (.putfield 70, 3) := by decide +kernel
theorem d_Mo_alert_5 : decode c_Mo_alert 5 = .ok (.aload_n 0, 1) := by decide +kernel
theorem d_Mo_alert_6 : decode c_Mo_alert 6 = .ok (.iload_n 1, 1) := by decide +kernel
theorem d_Mo_alert_7 : decode c_Mo_alert 7 = .ok (.invokevirtual 191, 3) := by decide +kernel
theorem d_Mo_alert_10 : decode c_Mo_alert 10 = .ok (.ifCond .eq 11, 3) := by decide +kernel
theorem d_Mo_alert_13 : decode c_Mo_alert 13 = .ok (.aload_n 0, 1) := by decide +kernel
theorem d_Mo_alert_14 : decode c_Mo_alert 14 = .ok (.iload_n 1, 1) := by decide +kernel
theorem d_Mo_alert_15 : decode c_Mo_alert 15 = .ok (.invokevirtual 194, 3) := by decide +kernel
theorem d_Mo_alert_18 : decode c_Mo_alert 18 = .ok (.ifCond .eq 5, 3) := by decide +kernel
theorem d_Mo_alert_21 : decode c_Mo_alert 21 = .ok (.iconst (-1), 1) := by decide +kernel
theorem d_Mo_alert_22 : decode c_Mo_alert 22 = .ok (.ireturn, 1) := by decide +kernel
theorem d_Mo_alert_23 : decode c_Mo_alert 23 = .ok (.aload_n 0, 1) := by decide +kernel
theorem d_Mo_alert_24 : decode c_Mo_alert 24 = .ok (.iload_n 1, 1) := by decide +kernel
theorem d_Mo_alert_25 : decode c_Mo_alert 25 = .ok (.aload_n 0, 1) := by decide +kernel
theorem d_Mo_alert_26 : decode c_Mo_alert 26 = .ok (.getfield 42, 3) := by decide +kernel
theorem d_Mo_alert_29 : decode c_Mo_alert 29 = .ok (.iload_n 1, 1) := by decide +kernel
theorem d_Mo_alert_30 : decode c_Mo_alert 30 = .ok (.baload, 1) := by decide +kernel
theorem d_Mo_alert_31 : decode c_Mo_alert 31 = .ok (.ifCond .ne 7, 3) := by decide +kernel
theorem d_Mo_alert_34 : decode c_Mo_alert 34 = .ok (.iconst 1, 1) := by decide +kernel
theorem d_Mo_alert_35 : decode c_Mo_alert 35 = .ok (.goto 4, 3) := by decide +kernel
theorem d_Mo_alert_38 : decode c_Mo_alert 38 = .ok (.iconst 0, 1) := by decide +kernel
theorem d_Mo_alert_39 : decode c_Mo_alert 39 = .ok (.invokevirtual 197, 3) := by decide +kernel
theorem d_Mo_alert_42 : decode c_Mo_alert 42 = .ok (.istore_n 2, 1) := by decide +kernel
theorem d_Mo_alert_43 : decode c_Mo_alert 43 = .ok (.aload_n 0, 1) := by decide +kernel
theorem d_Mo_alert_44 : decode c_Mo_alert 44 = .ok (.getfield 175, 3) := by decide +kernel
theorem d_Mo_alert_47 : decode c_Mo_alert 47 = .ok (.ifCond .le 25, 3) := by decide +kernel
theorem d_Mo_alert_50 : decode c_Mo_alert 50 = .ok (.aload_n 0, 1) := by decide +kernel
theorem d_Mo_alert_51 : decode c_Mo_alert 51 = .ok (.getfield 42, 3) := by decide +kernel
theorem d_Mo_alert_54 : decode c_Mo_alert 54 = .ok (.iload_n 1, 1) := by decide +kernel
theorem d_Mo_alert_55 : decode c_Mo_alert 55 = .ok (.iconst 1, 1) := by decide +kernel
theorem d_Mo_alert_56 : decode c_Mo_alert 56 = .ok (.bastore, 1) := by decide +kernel
theorem d_Mo_alert_57 : decode c_Mo_alert 57 = .ok (.aload_n 0, 1) := by decide +kernel
theorem d_Mo_alert_58 : decode c_Mo_alert 58 = .ok (.getfield 45, 3) := by decide +kernel
theorem d_Mo_alert_61 : decode c_Mo_alert 61 = .ok (.iload_n 1, 1) := by decide +kernel
theorem d_Mo_alert_62 : decode c_Mo_alert 62 = .ok (.aload_n 0, 1) := by decide +kernel
theorem d_Mo_alert_63 : decode c_Mo_alert 63 = .ok (.getfield 49, 3) := by decide +kernel
theorem d_Mo_alert_66 : decode c_Mo_alert 66 = .ok (.aload_n 0, 1) := by decide +kernel
theorem d_Mo_alert_67 : decode c_Mo_alert 67 = .ok (.getfield 175, 3) := by decide +kernel
theorem d_Mo_alert_70 : decode c_Mo_alert 70 = .ok (.laload, 1) := by decide +kernel
theorem d_Mo_alert_71 : decode c_Mo_alert 71 = .ok (.lastore, 1) := by decide +kernel
theorem d_Mo_alert_72 : decode c_Mo_alert 72 = .ok (.iload_n 2, 1) := by decide +kernel
theorem d_Mo_alert_73 : decode c_Mo_alert 73 = .ok (.ireturn, 1) := by decide +kernel
theorem d_Mo_at_0 : decode c_Mo_at 0 = .ok (.aload_n 0, 1) := by decide +kernel
theorem d_Mo_at_1 : decode c_Mo_at 1 = .ok (.iconst 0, 1) := by decide +kernel
theorem d_Mo_at_2 : decode c_Mo_at 2 = .ok (.putfield 70, 3) := by decide +kernel
theorem d_Mo_at_5 : decode c_Mo_at 5 = .ok (.iload_n 1, 1) := by decide +kernel
theorem d_Mo_at_6 : decode c_Mo_at 6 = .ok (.ifCond .lt 11, 3) := by decide +kernel
theorem d_Mo_at_9 : decode c_Mo_at 9 = .ok (.iload_n 1, 1) := by decide +kernel
theorem d_Mo_at_10 : decode c_Mo_at 10 = .ok (.aload_n 0, 1) := by decide +kernel
theorem d_Mo_at_11 : decode c_Mo_at 11 = .ok (.getfield 185, 3) := by decide +kernel
theorem d_Mo_at_14 : decode c_Mo_at 14 = .ok (.if_icmp .lt 7, 3) := by decide +kernel
theorem d_Mo_at_17 : decode c_Mo_at 17 = .ok (.iconst 0, 1) := by decide +kernel
theorem d_Mo_at_18 : decode c_Mo_at 18 = .ok (.goto 9, 3) := by decide +kernel
theorem d_Mo_at_21 : decode c_Mo_at 21 = .ok (.aload_n 0, 1) := by decide +kernel
theorem d_Mo_at_22 : decode c_Mo_at 22 = .ok (.getfield 61, 3) := by decide +kernel
theorem d_Mo_at_25 : decode c_Mo_at 25 = .ok (.iload_n 1, 1) := by decide +kernel
theorem d_Mo_at_26 : decode c_Mo_at 26 = .ok (.iaload, 1) := by decide +kernel
theorem d_Mo_at_27 : decode c_Mo_at 27 = .ok (.ireturn, 1) := by decide +kernel
theorem d_Mo_same_0 : decode c_Mo_same 0 = .ok (.aload_n 0, 1) := by decide +kernel
theorem d_Mo_same_1 : decode c_Mo_same 1 = .ok (.iconst 0, 1) := by decide +kernel
theorem d_Mo_same_2 : decode c_Mo_same 2 = .ok (.putfield 70, 3) := by decide +kernel
theorem d_Mo_same_5 : decode c_Mo_same 5 = .ok (.aload_n 0, 1) := by decide +kernel
theorem d_Mo_same_6 : decode c_Mo_same 6 = .ok (.iload_n 1, 1) := by decide +kernel
theorem d_Mo_same_7 : decode c_Mo_same 7 = .ok (.invokevirtual 191, 3) := by decide +kernel
theorem d_Mo_same_10 : decode c_Mo_same 10 = .ok (.ifCond .eq 26, 3) := by decide +kernel
theorem d_Mo_same_13 : decode c_Mo_same 13 = .ok (.aload_n 0, 1) := by decide +kernel
theorem d_Mo_same_14 : decode c_Mo_same 14 = .ok (.iload_n 2, 1) := by decide +kernel
theorem d_Mo_same_15 : decode c_Mo_same 15 = .ok (.invokevirtual 191, 3) := by decide +kernel
theorem d_Mo_same_18 : decode c_Mo_same 18 = .ok (.ifCond .eq 18, 3) := by decide +kernel
theorem d_Mo_same_21 : decode c_Mo_same 21 = .ok (.aload_n 0, 1) := by decide +kernel
theorem d_Mo_same_22 : decode c_Mo_same 22 = .ok (.getfield 39, 3) := by decide +kernel
theorem d_Mo_same_25 : decode c_Mo_same 25 = .ok (.iload_n 1, 1) := by decide +kernel
theorem d_Mo_same_26 : decode c_Mo_same 26 = .ok (.iaload, 1) := by decide +kernel
theorem d_Mo_same_27 : decode c_Mo_same 27 = .ok (.aload_n 0, 1) := by decide +kernel
theorem d_Mo_same_28 : decode c_Mo_same 28 = .ok (.getfield 39, 3) := by decide +kernel
theorem d_Mo_same_31 : decode c_Mo_same 31 = .ok (.iload_n 2, 1) := by decide +kernel
theorem d_Mo_same_32 : decode c_Mo_same 32 = .ok (.iaload, 1) := by decide +kernel
theorem d_Mo_same_33 : decode c_Mo_same 33 = .ok (.if_icmp .eq 5, 3) := by decide +kernel
theorem d_Mo_same_36 : decode c_Mo_same 36 = .ok (.iconst 0, 1) := by decide +kernel
theorem d_Mo_same_37 : decode c_Mo_same 37 = .ok (.ireturn, 1) := by decide +kernel
theorem d_Mo_same_38 : decode c_Mo_same 38 = .ok (.iconst 1, 1) := by decide +kernel
theorem d_Mo_same_39 : decode c_Mo_same 39 = .ok (.istore_n 3, 1) := by decide +kernel
theorem d_Mo_same_40 : decode c_Mo_same 40 = .ok (.iconst 0, 1) := by decide +kernel
theorem d_Mo_same_41 : decode c_Mo_same 41 = .ok (.istore 4, 2) := by decide +kernel
theorem d_Mo_same_43 : decode c_Mo_same 43 = .ok (.iload 4, 2) := by decide +kernel
theorem d_Mo_same_45 : decode c_Mo_same 45 = .ok (.iconst 4, 1) := by decide +kernel
theorem d_Mo_same_46 : decode c_Mo_same 46 = .ok (.aload_n 0, 1) := by decide +kernel
theorem d_Mo_same_47 : decode c_Mo_same 47 = .ok (.getfield 39, 3) := by decide +kernel
theorem d_Mo_same_50 : decode c_Mo_same 50 = .ok (.iload_n 1, 1) := by decide +kernel
theorem d_Mo_same_51 : decode c_Mo_same 51 = .ok (.iaload, 1) := by decide +kernel
theorem d_Mo_same_52 : decode c_Mo_same 52 = .ok (.imul, 1) := by decide +kernel
theorem d_Mo_same_53 : decode c_Mo_same 53 = .ok (.if_icmp .ge 48, 3) := by decide +kernel
theorem d_Mo_same_56 : decode c_Mo_same 56 = .ok (.iload_n 3, 1) := by decide +kernel
theorem d_Mo_same_57 : decode c_Mo_same 57 = .ok (.ifCond .eq 36, 3) := by decide +kernel
theorem d_Mo_same_60 : decode c_Mo_same 60 = .ok (.aload_n 0, 1) := by decide +kernel
theorem d_Mo_same_61 : decode c_Mo_same 61 = .ok (.getfield 36, 3) := by decide +kernel
theorem d_Mo_same_64 : decode c_Mo_same 64 = .ok (.sipush 160, 3) := by decide +kernel
theorem d_Mo_same_67 : decode c_Mo_same 67 = .ok (.iload_n 1, 1) := by decide +kernel
theorem d_Mo_same_68 : decode c_Mo_same 68 = .ok (.imul, 1) := by decide +kernel
theorem d_Mo_same_69 : decode c_Mo_same 69 = .ok (.iload 4, 2) := by decide +kernel
theorem d_Mo_same_71 : decode c_Mo_same 71 = .ok (.iadd, 1) := by decide +kernel
theorem d_Mo_same_72 : decode c_Mo_same 72 = .ok (.iaload, 1) := by decide +kernel
theorem d_Mo_same_73 : decode c_Mo_same 73 = .ok (.aload_n 0, 1) := by decide +kernel
theorem d_Mo_same_74 : decode c_Mo_same 74 = .ok (.getfield 36, 3) := by decide +kernel
theorem d_Mo_same_77 : decode c_Mo_same 77 = .ok (.sipush 160, 3) := by decide +kernel
theorem d_Mo_same_80 : decode c_Mo_same 80 = .ok (.iload_n 2, 1) := by decide +kernel
theorem d_Mo_same_81 : decode c_Mo_same 81 = .ok (.imul, 1) := by decide +kernel
theorem d_Mo_same_82 : decode c_Mo_same 82 = .ok (.iload 4, 2) := by decide +kernel
theorem d_Mo_same_84 : decode c_Mo_same 84 = .ok (.iadd, 1) := by decide +kernel
theorem d_Mo_same_85 : decode c_Mo_same 85 = .ok (.iaload, 1) := by decide +kernel
theorem d_Mo_same_86 : decode c_Mo_same 86 = .ok (.if_icmp .ne 7, 3) := by decide +kernel
theorem d_Mo_same_89 : decode c_Mo_same 89 = .ok (.iconst 1, 1) := by decide +kernel
theorem d_Mo_same_90 : decode c_Mo_same 90 = .ok (.goto 4, 3) := by decide +kernel
theorem d_Mo_same_93 : decode c_Mo_same 93 = .ok (.iconst 0, 1) := by decide +kernel
theorem d_Mo_same_94 : decode c_Mo_same 94 = .ok (.istore_n 3, 1) := by decide +kernel
theorem d_Mo_same_95 : decode c_Mo_same 95 = .ok (.iinc 4 1, 3) := by decide +kernel
theorem d_Mo_same_98 : decode c_Mo_same 98 = .ok (.goto (-55), 3) := by decide +kernel
theorem d_Mo_same_101 : decode c_Mo_same 101 = .ok (.iload_n 3, 1) := by decide +kernel
theorem d_Mo_same_102 : decode c_Mo_same 102 = .ok (.ireturn, 1) := by decide +kernel
theorem d_Mo_broken_0 : decode c_Mo_broken 0 = .ok (.aload_n 0, 1) := by decide +kernel
theorem d_Mo_broken_1 : decode c_Mo_broken 1 = .ok (.iconst 0, 1) := by decide +kernel
theorem d_Mo_broken_2 : decode c_Mo_broken 2 = .ok (.putfield 70, 3) := by decide +kernel
theorem d_Mo_broken_5 : decode c_Mo_broken 5 = .ok (.iconst 0, 1) := by decide +kernel
theorem d_Mo_broken_6 : decode c_Mo_broken 6 = .ok (.istore_n 1, 1) := by decide +kernel
theorem d_Mo_broken_7 : decode c_Mo_broken 7 = .ok (.iconst 0, 1) := by decide +kernel
theorem d_Mo_broken_8 : decode c_Mo_broken 8 = .ok (.istore_n 2, 1) := by decide +kernel
theorem d_Mo_broken_9 : decode c_Mo_broken 9 = .ok (.iload_n 2, 1) := by decide +kernel
theorem d_Mo_broken_10 : decode c_Mo_broken 10 = .ok (.bipush 10, 2) := by decide +kernel
theorem d_Mo_broken_12 : decode c_Mo_broken 12 = .ok (.if_icmp .ge 34, 3) := by decide +kernel
theorem d_Mo_broken_15 : decode c_Mo_broken 15 = .ok (.iload_n 1, 1) := by decide +kernel
theorem d_Mo_broken_16 : decode c_Mo_broken 16 = .ok (.aload_n 0, 1) := by decide +kernel
theorem d_Mo_broken_17 : decode c_Mo_broken 17 = .ok (.getfield 39, 3) := by decide +kernel
theorem d_Mo_broken_20 : decode c_Mo_broken 20 = .ok (.iload_n 2, 1) := by decide +kernel
theorem d_Mo_broken_21 : decode c_Mo_broken 21 = .ok (.iaload, 1) := by decide +kernel
theorem d_Mo_broken_22 : decode c_Mo_broken 22 = .ok (.ifCond .le 15, 3) := by decide +kernel
theorem d_Mo_broken_25 : decode c_Mo_broken 25 = .ok (.aload_n 0, 1) := by decide +kernel
theorem d_Mo_broken_26 : decode c_Mo_broken 26 = .ok (.iload_n 2, 1) := by decide +kernel
theorem d_Mo_broken_27 : decode c_Mo_broken 27 = .ok (.invokevirtual 194, 3) := by decide +kernel
theorem d_Mo_broken_30 : decode c_Mo_broken 30 = .ok (.ifCond .eq 7, 3) := by decide +kernel
theorem d_Mo_broken_33 : decode c_Mo_broken 33 = .ok (.iconst 1, 1) := by decide +kernel
theorem d_Mo_broken_34 : decode c_Mo_broken 34 = .ok (.goto 4, 3) := by decide +kernel
theorem d_Mo_broken_37 : decode c_Mo_broken 37 = .ok (.iconst 0, 1) := by decide +kernel
theorem d_Mo_broken_38 : decode c_Mo_broken 38 = .ok (.iadd, 1) := by decide +kernel
theorem d_Mo_broken_39 : decode c_Mo_broken 39 = .ok (.istore_n 1, 1) := by decide +kernel
theorem d_Mo_broken_40 : decode c_Mo_broken 40 = .ok (.iinc 2 1, 3) := by decide +kernel
theorem d_Mo_broken_43 : decode c_Mo_broken 43 = .ok (.goto (-34), 3) := by decide +kernel
theorem d_Mo_broken_46 : decode c_Mo_broken 46 = .ok (.iload_n 1, 1) := by decide +kernel
theorem d_Mo_broken_47 : decode c_Mo_broken 47 = .ok (.ireturn, 1) := by decide +kernel
