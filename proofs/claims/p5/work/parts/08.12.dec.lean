theorem dX12_init_0 : decode cX12_init 0 = .ok (.aload_n 0, 1) := by decide +kernel
theorem dX12_init_1 : decode cX12_init 1 = .ok (.invokespecial 1, 3) := by decide +kernel
theorem dX12_init_4 : decode cX12_init 4 = .ok (.aload_n 0, 1) := by decide +kernel
theorem dX12_init_5 : decode cX12_init 5 = .ok (.sipush 1952, 3) := by decide +kernel
theorem dX12_init_8 : decode cX12_init 8 = .ok (.newarray .int, 2) := by decide +kernel
theorem dX12_init_10 : decode cX12_init 10 = .ok (.putfield 7, 3) := by decide +kernel
theorem dX12_init_13 : decode cX12_init 13 = .ok (.aload_n 0, 1) := by decide +kernel
theorem dX12_init_14 : decode cX12_init 14 = .ok (.sipush 1952, 3) := by decide +kernel
theorem dX12_init_17 : decode cX12_init 17 = .ok (.newarray .boolean, 2) := by decide +kernel
theorem dX12_init_19 : decode cX12_init 19 = .ok (.putfield 13, 3) := by decide +kernel
theorem dX12_init_22 : decode cX12_init 22 = .ok (.aload_n 0, 1) := by decide +kernel
theorem dX12_init_23 : decode cX12_init 23 = .ok (.bipush 120, 2) := by decide +kernel
theorem dX12_init_25 : decode cX12_init 25 = .ok (.newarray .int, 2) := by decide +kernel
theorem dX12_init_27 : decode cX12_init 27 = .ok (.putfield 17, 3) := by decide +kernel
theorem dX12_init_30 : decode cX12_init 30 = .ok (.aload_n 0, 1) := by decide +kernel
theorem dX12_init_31 : decode cX12_init 31 = .ok (.bipush 120, 2) := by decide +kernel
theorem dX12_init_33 : decode cX12_init 33 = .ok (.newarray .int, 2) := by decide +kernel
theorem dX12_init_35 : decode cX12_init 35 = .ok (.putfield 20, 3) := by decide +kernel
theorem dX12_init_38 : decode cX12_init 38 = .ok (.aload_n 0, 1) := by decide +kernel
theorem dX12_init_39 : decode cX12_init 39 = .ok (.bipush 120, 2) := by decide +kernel
theorem dX12_init_41 : decode cX12_init 41 = .ok (.newarray .int, 2) := by decide +kernel
theorem dX12_init_43 : decode cX12_init 43 = .ok (.putfield 23, 3) := by decide +kernel
theorem dX12_init_46 : decode cX12_init 46 = .ok (.aload_n 0, 1) := by decide +kernel
theorem dX12_init_47 : decode cX12_init 47 = .ok (.bipush 120, 2) := by decide +kernel
theorem dX12_init_49 : decode cX12_init 49 = .ok (.newarray .int, 2) := by decide +kernel
theorem dX12_init_51 : decode cX12_init 51 = .ok (.putfield 26, 3) := by decide +kernel
theorem dX12_init_54 : decode cX12_init 54 = .ok (.aload_n 0, 1) := by decide +kernel
theorem dX12_init_55 : decode cX12_init 55 = .ok (.bipush 120, 2) := by decide +kernel
theorem dX12_init_57 : decode cX12_init 57 = .ok (.newarray .int, 2) := by decide +kernel
theorem dX12_init_59 : decode cX12_init 59 = .ok (.putfield 29, 3) := by decide +kernel
theorem dX12_init_62 : decode cX12_init 62 = .ok (.aload_n 0, 1) := by decide +kernel
theorem dX12_init_63 : decode cX12_init 63 = .ok (.bipush 120, 2) := by decide +kernel
theorem dX12_init_65 : decode cX12_init 65 = .ok (.newarray .int, 2) := by decide +kernel
theorem dX12_init_67 : decode cX12_init 67 = .ok (.putfield 32, 3) := by decide +kernel
theorem dX12_init_70 : decode cX12_init 70 = .ok (.aload_n 0, 1) := by decide +kernel
theorem dX12_init_71 : decode cX12_init 71 = .ok (.bipush 120, 2) := by decide +kernel
theorem dX12_init_73 : decode cX12_init 73 = .ok (.newarray .int, 2) := by decide +kernel
theorem dX12_init_75 : decode cX12_init 75 = .ok (.putfield 35, 3) := by decide +kernel
theorem dX12_init_78 : decode cX12_init 78 = .ok (.aload_n 0, 1) := by decide +kernel
theorem dX12_init_79 : decode cX12_init 79 = .ok (.bipush 120, 2) := by decide +kernel
theorem dX12_init_81 : decode cX12_init 81 = .ok (.newarray .int, 2) := by decide +kernel
theorem dX12_init_83 : decode cX12_init 83 = .ok (.putfield 38, 3) := by decide +kernel
theorem dX12_init_86 : decode cX12_init 86 = .ok (.aload_n 0, 1) := by decide +kernel
theorem dX12_init_87 : decode cX12_init 87 = .ok (.sipush 7320, 3) := by decide +kernel
theorem dX12_init_90 : decode cX12_init 90 = .ok (.newarray .int, 2) := by decide +kernel
theorem dX12_init_92 : decode cX12_init 92 = .ok (.putfield 41, 3) := by decide +kernel
theorem dX12_init_95 : decode cX12_init 95 = .ok (.aload_n 0, 1) := by decide +kernel
theorem dX12_init_96 : decode cX12_init 96 = .ok (.sipush 7320, 3) := by decide +kernel
theorem dX12_init_99 : decode cX12_init 99 = .ok (.newarray .int, 2) := by decide +kernel
theorem dX12_init_101 : decode cX12_init 101 = .ok (.putfield 44, 3) := by decide +kernel
theorem dX12_init_104 : decode cX12_init 104 = .ok (.aload_n 0, 1) := by decide +kernel
theorem dX12_init_105 : decode cX12_init 105 = .ok (.sipush 7320, 3) := by decide +kernel
theorem dX12_init_108 : decode cX12_init 108 = .ok (.newarray .boolean, 2) := by decide +kernel
theorem dX12_init_110 : decode cX12_init 110 = .ok (.putfield 47, 3) := by decide +kernel
theorem dX12_init_113 : decode cX12_init 113 = .ok (.aload_n 0, 1) := by decide +kernel
theorem dX12_init_114 : decode cX12_init 114 = .ok (.sipush 7320, 3) := by decide +kernel
theorem dX12_init_117 : decode cX12_init 117 = .ok (.newarray .int, 2) := by decide +kernel
theorem dX12_init_119 : decode cX12_init 119 = .ok (.putfield 50, 3) := by decide +kernel
theorem dX12_init_122 : decode cX12_init 122 = .ok (.aload_n 0, 1) := by decide +kernel
theorem dX12_init_123 : decode cX12_init 123 = .ok (.bipush 120, 2) := by decide +kernel
theorem dX12_init_125 : decode cX12_init 125 = .ok (.newarray .int, 2) := by decide +kernel
theorem dX12_init_127 : decode cX12_init 127 = .ok (.putfield 53, 3) := by decide +kernel
theorem dX12_init_130 : decode cX12_init 130 = .ok (.aload_n 0, 1) := by decide +kernel
theorem dX12_init_131 : decode cX12_init 131 = .ok (.bipush 120, 2) := by decide +kernel
theorem dX12_init_133 : decode cX12_init 133 = .ok (.newarray .int, 2) := by decide +kernel
theorem dX12_init_135 : decode cX12_init 135 = .ok (.putfield 56, 3) := by decide +kernel
theorem dX12_init_138 : decode cX12_init 138 = .ok (.aload_n 0, 1) := by decide +kernel
theorem dX12_init_139 : decode cX12_init 139 = .ok (.bipush 120, 2) := by decide +kernel
theorem dX12_init_141 : decode cX12_init 141 = .ok (.newarray .int, 2) := by decide +kernel
theorem dX12_init_143 : decode cX12_init 143 = .ok (.putfield 59, 3) := by decide +kernel
theorem dX12_init_146 : decode cX12_init 146 = .ok (.aload_n 0, 1) := by decide +kernel
theorem dX12_init_147 : decode cX12_init 147 = .ok (.bipush 120, 2) := by decide +kernel
theorem dX12_init_149 : decode cX12_init 149 = .ok (.newarray .boolean, 2) := by decide +kernel
theorem dX12_init_151 : decode cX12_init 151 = .ok (.putfield 62, 3) := by decide +kernel
theorem dX12_init_154 : decode cX12_init 154 = .ok (.aload_n 0, 1) := by decide +kernel
theorem dX12_init_155 : decode cX12_init 155 = .ok (.iconst (-1), 1) := by decide +kernel
theorem dX12_init_156 : decode cX12_init 156 = .ok (.putfield 65, 3) := by decide +kernel
theorem dX12_init_159 : decode cX12_init 159 = .ok (.aload_n 0, 1) := by decide +kernel
theorem dX12_init_160 : decode cX12_init 160 = .ok (.iconst 3, 1) := by decide +kernel
theorem dX12_init_161 : decode cX12_init 161 = .ok (.newarray .int, 2) := by decide +kernel
theorem dX12_init_163 : decode cX12_init 163 = .ok (.dup, 1) := by decide +kernel
theorem dX12_init_164 : decode cX12_init 164 = .ok (.iconst 0, 1) := by decide +kernel
theorem dX12_init_165 : decode cX12_init 165 = .ok (.bipush 20, 2) := by decide +kernel
theorem dX12_init_167 : decode cX12_init 167 = .ok (.iastore, 1) := by decide +kernel
theorem dX12_init_168 : decode cX12_init 168 = .ok (.dup, 1) := by decide +kernel
theorem dX12_init_169 : decode cX12_init 169 = .ok (.iconst 1, 1) := by decide +kernel
theorem dX12_init_170 : decode cX12_init 170 = .ok (.bipush 20, 2) := by decide +kernel
theorem dX12_init_172 : decode cX12_init 172 = .ok (.iastore, 1) := by decide +kernel
theorem dX12_init_173 : decode cX12_init 173 = .ok (.dup, 1) := by decide +kernel
theorem dX12_init_174 : decode cX12_init 174 = .ok (.iconst 2, 1) := by decide +kernel
theorem dX12_init_175 : decode cX12_init 175 = .ok (.bipush 20, 2) := by decide +kernel
theorem dX12_init_177 : decode cX12_init 177 = .ok (.iastore, 1) := by decide +kernel
theorem dX12_init_178 : decode cX12_init 178 = .ok (.putfield 69, 3) := by decide +kernel
theorem dX12_init_181 : decode cX12_init 181 = .ok (.aload_n 0, 1) := by decide +kernel
theorem dX12_init_182 : decode cX12_init 182 = .ok (.iconst 3, 1) := by decide +kernel
theorem dX12_init_183 : decode cX12_init 183 = .ok (.newarray .int, 2) := by decide +kernel
theorem dX12_init_185 : decode cX12_init 185 = .ok (.dup, 1) := by decide +kernel
theorem dX12_init_186 : decode cX12_init 186 = .ok (.iconst 0, 1) := by decide +kernel
theorem dX12_init_187 : decode cX12_init 187 = .ok (.iconst (-1), 1) := by decide +kernel
theorem dX12_init_188 : decode cX12_init 188 = .ok (.iastore, 1) := by decide +kernel
theorem dX12_init_189 : decode cX12_init 189 = .ok (.dup, 1) := by decide +kernel
theorem dX12_init_190 : decode cX12_init 190 = .ok (.iconst 1, 1) := by decide +kernel
theorem dX12_init_191 : decode cX12_init 191 = .ok (.iconst (-1), 1) := by decide +kernel
theorem dX12_init_192 : decode cX12_init 192 = .ok (.iastore, 1) := by decide +kernel
theorem dX12_init_193 : decode cX12_init 193 = .ok (.dup, 1) := by decide +kernel
theorem dX12_init_194 : decode cX12_init 194 = .ok (.iconst 2, 1) := by decide +kernel
theorem dX12_init_195 : decode cX12_init 195 = .ok (.iconst (-1), 1) := by decide +kernel
theorem dX12_init_196 : decode cX12_init 196 = .ok (.iastore, 1) := by decide +kernel
theorem dX12_init_197 : decode cX12_init 197 = .ok (.putfield 72, 3) := by decide +kernel
theorem dX12_init_200 : decode cX12_init 200 = .ok (.aload_n 0, 1) := by decide +kernel
theorem dX12_init_201 : decode cX12_init 201 = .ok (.iconst 3, 1) := by decide +kernel
theorem dX12_init_202 : decode cX12_init 202 = .ok (.newarray .int, 2) := by decide +kernel
theorem dX12_init_204 : decode cX12_init 204 = .ok (.dup, 1) := by decide +kernel
theorem dX12_init_205 : decode cX12_init 205 = .ok (.iconst 0, 1) := by decide +kernel
theorem dX12_init_206 : decode cX12_init 206 = .ok (.iconst (-1), 1) := by decide +kernel
theorem dX12_init_207 : decode cX12_init 207 = .ok (.iastore, 1) := by decide +kernel
theorem dX12_init_208 : decode cX12_init 208 = .ok (.dup, 1) := by decide +kernel
theorem dX12_init_209 : decode cX12_init 209 = .ok (.iconst 1, 1) := by decide +kernel
theorem dX12_init_210 : decode cX12_init 210 = .ok (.iconst (-1), 1) := by decide +kernel
theorem dX12_init_211 : decode cX12_init 211 = .ok (.iastore, 1) := by decide +kernel
theorem dX12_init_212 : decode cX12_init 212 = .ok (.dup, 1) := by decide +kernel
theorem dX12_init_213 : decode cX12_init 213 = .ok (.iconst 2, 1) := by decide +kernel
theorem dX12_init_214 : decode cX12_init 214 = .ok (.iconst (-1), 1) := by decide +kernel
theorem dX12_init_215 : decode cX12_init 215 = .ok (.iastore, 1) := by decide +kernel
theorem dX12_init_216 : decode cX12_init 216 = .ok (.putfield 75, 3) := by decide +kernel
theorem dX12_init_219 : decode cX12_init 219 = .ok (.aload_n 0, 1) := by decide +kernel
theorem dX12_init_220 : decode cX12_init 220 = .ok (.iconst 2, 1) := by decide +kernel
theorem dX12_init_221 : decode cX12_init 221 = .ok (.putfield 78, 3) := by decide +kernel
theorem dX12_init_224 : decode cX12_init 224 = .ok (.aload_n 0, 1) := by decide +kernel
theorem dX12_init_225 : decode cX12_init 225 = .ok (.bipush 8, 2) := by decide +kernel
theorem dX12_init_227 : decode cX12_init 227 = .ok (.newarray .int, 2) := by decide +kernel
theorem dX12_init_229 : decode cX12_init 229 = .ok (.putfield 81, 3) := by decide +kernel
theorem dX12_init_232 : decode cX12_init 232 = .ok (.aload_n 0, 1) := by decide +kernel
theorem dX12_init_233 : decode cX12_init 233 = .ok (.bipush 8, 2) := by decide +kernel
theorem dX12_init_235 : decode cX12_init 235 = .ok (.newarray .int, 2) := by decide +kernel
theorem dX12_init_237 : decode cX12_init 237 = .ok (.putfield 84, 3) := by decide +kernel
theorem dX12_init_240 : decode cX12_init 240 = .ok (.aload_n 0, 1) := by decide +kernel
theorem dX12_init_241 : decode cX12_init 241 = .ok (.bipush 8, 2) := by decide +kernel
theorem dX12_init_243 : decode cX12_init 243 = .ok (.newarray .int, 2) := by decide +kernel
theorem dX12_init_245 : decode cX12_init 245 = .ok (.putfield 87, 3) := by decide +kernel
theorem dX12_init_248 : decode cX12_init 248 = .ok (.aload_n 0, 1) := by decide +kernel
theorem dX12_init_249 : decode cX12_init 249 = .ok (.bipush 8, 2) := by decide +kernel
theorem dX12_init_251 : decode cX12_init 251 = .ok (.newarray .int, 2) := by decide +kernel
theorem dX12_init_253 : decode cX12_init 253 = .ok (.putfield 90, 3) := by decide +kernel
theorem dX12_init_256 : decode cX12_init 256 = .ok (.aload_n 0, 1) := by decide +kernel
theorem dX12_init_257 : decode cX12_init 257 = .ok (.sipush 320, 3) := by decide +kernel
theorem dX12_init_260 : decode cX12_init 260 = .ok (.newarray .int, 2) := by decide +kernel
theorem dX12_init_262 : decode cX12_init 262 = .ok (.putfield 93, 3) := by decide +kernel
theorem dX12_init_265 : decode cX12_init 265 = .ok (.aload_n 0, 1) := by decide +kernel
theorem dX12_init_266 : decode cX12_init 266 = .ok (.sipush 160, 3) := by decide +kernel
theorem dX12_init_269 : decode cX12_init 269 = .ok (.newarray .byte, 2) := by decide +kernel
theorem dX12_init_271 : decode cX12_init 271 = .ok (.putfield 96, 3) := by decide +kernel
theorem dX12_init_274 : decode cX12_init 274 = .ok (.aload_n 0, 1) := by decide +kernel
theorem dX12_init_275 : decode cX12_init 275 = .ok (.bipush 16, 2) := by decide +kernel
theorem dX12_init_277 : decode cX12_init 277 = .ok (.newarray .int, 2) := by decide +kernel
theorem dX12_init_279 : decode cX12_init 279 = .ok (.putfield 100, 3) := by decide +kernel
theorem dX12_init_282 : decode cX12_init 282 = .ok (.aload_n 0, 1) := by decide +kernel
theorem dX12_init_283 : decode cX12_init 283 = .ok (.bipush 16, 2) := by decide +kernel
theorem dX12_init_285 : decode cX12_init 285 = .ok (.newarray .int, 2) := by decide +kernel
theorem dX12_init_287 : decode cX12_init 287 = .ok (.putfield 103, 3) := by decide +kernel
theorem dX12_init_290 : decode cX12_init 290 = .ok (.aload_n 0, 1) := by decide +kernel
theorem dX12_init_291 : decode cX12_init 291 = .ok (.bipush 16, 2) := by decide +kernel
theorem dX12_init_293 : decode cX12_init 293 = .ok (.newarray .int, 2) := by decide +kernel
theorem dX12_init_295 : decode cX12_init 295 = .ok (.putfield 106, 3) := by decide +kernel
theorem dX12_init_298 : decode cX12_init 298 = .ok (.aload_n 0, 1) := by decide +kernel
theorem dX12_init_299 : decode cX12_init 299 = .ok (.bipush 17, 2) := by decide +kernel
theorem dX12_init_301 : decode cX12_init 301 = .ok (.newarray .int, 2) := by decide +kernel
theorem dX12_init_303 : decode cX12_init 303 = .ok (.putfield 109, 3) := by decide +kernel
theorem dX12_init_306 : decode cX12_init 306 = .ok (.aload_n 0, 1) := by decide +kernel
theorem dX12_init_307 : decode cX12_init 307 = .ok (.sipush 1530, 3) := by decide +kernel
theorem dX12_init_310 : decode cX12_init 310 = .ok (.newarray .int, 2) := by decide +kernel
theorem dX12_init_312 : decode cX12_init 312 = .ok (.putfield 112, 3) := by decide +kernel
theorem dX12_init_315 : decode cX12_init 315 = .ok (.aload_n 0, 1) := by decide +kernel
theorem dX12_init_316 : decode cX12_init 316 = .ok (.sipush 1530, 3) := by decide +kernel
theorem dX12_init_319 : decode cX12_init 319 = .ok (.newarray .int, 2) := by decide +kernel
theorem dX12_init_321 : decode cX12_init 321 = .ok (.putfield 115, 3) := by decide +kernel
theorem dX12_init_324 : decode cX12_init 324 = .ok (.aload_n 0, 1) := by decide +kernel
theorem dX12_init_325 : decode cX12_init 325 = .ok (.sipush 2890, 3) := by decide +kernel
theorem dX12_init_328 : decode cX12_init 328 = .ok (.newarray .int, 2) := by decide +kernel
theorem dX12_init_330 : decode cX12_init 330 = .ok (.putfield 118, 3) := by decide +kernel
theorem dX12_init_333 : decode cX12_init 333 = .ok (.aload_n 0, 1) := by decide +kernel
theorem dX12_init_334 : decode cX12_init 334 = .ok (.sipush 2890, 3) := by decide +kernel
theorem dX12_init_337 : decode cX12_init 337 = .ok (.newarray .int, 2) := by decide +kernel
theorem dX12_init_339 : decode cX12_init 339 = .ok (.putfield 121, 3) := by decide +kernel
theorem dX12_init_342 : decode cX12_init 342 = .ok (.aload_n 0, 1) := by decide +kernel
theorem dX12_init_343 : decode cX12_init 343 = .ok (.bipush 8, 2) := by decide +kernel
theorem dX12_init_345 : decode cX12_init 345 = .ok (.newarray .int, 2) := by decide +kernel
theorem dX12_init_347 : decode cX12_init 347 = .ok (.putfield 124, 3) := by decide +kernel
theorem dX12_init_350 : decode cX12_init 350 = .ok (.aload_n 0, 1) := by decide +kernel
theorem dX12_init_351 : decode cX12_init 351 = .ok (.sipush 170, 3) := by decide +kernel
theorem dX12_init_354 : decode cX12_init 354 = .ok (.newarray .int, 2) := by decide +kernel
theorem dX12_init_356 : decode cX12_init 356 = .ok (.putfield 127, 3) := by decide +kernel
theorem dX12_init_359 : decode cX12_init 359 = .ok (.aload_n 0, 1) := by decide +kernel
theorem dX12_init_360 : decode cX12_init 360 = .ok (.bipush 60, 2) := by decide +kernel
theorem dX12_init_362 : decode cX12_init 362 = .ok (.newarray .int, 2) := by decide +kernel
theorem dX12_init_364 : decode cX12_init 364 = .ok (.putfield 130, 3) := by decide +kernel
theorem dX12_init_367 : decode cX12_init 367 = .ok (.aload_n 0, 1) := by decide +kernel
theorem dX12_init_368 : decode cX12_init 368 = .ok (.bipush 60, 2) := by decide +kernel
theorem dX12_init_370 : decode cX12_init 370 = .ok (.newarray .int, 2) := by decide +kernel
theorem dX12_init_372 : decode cX12_init 372 = .ok (.putfield 133, 3) := by decide +kernel
theorem dX12_init_375 : decode cX12_init 375 = .ok (.aload_n 0, 1) := by decide +kernel
theorem dX12_init_376 : decode cX12_init 376 = .ok (.bipush 120, 2) := by decide +kernel
theorem dX12_init_378 : decode cX12_init 378 = .ok (.newarray .boolean, 2) := by decide +kernel
theorem dX12_init_380 : decode cX12_init 380 = .ok (.putfield 136, 3) := by decide +kernel
theorem dX12_init_383 : decode cX12_init 383 = .ok (.aload_n 0, 1) := by decide +kernel
theorem dX12_init_384 : decode cX12_init 384 = .ok (.bipush 120, 2) := by decide +kernel
theorem dX12_init_386 : decode cX12_init 386 = .ok (.newarray .int, 2) := by decide +kernel
theorem dX12_init_388 : decode cX12_init 388 = .ok (.putfield 139, 3) := by decide +kernel
theorem dX12_init_391 : decode cX12_init 391 = .ok (.aload_n 0, 1) := by decide +kernel
theorem dX12_init_392 : decode cX12_init 392 = .ok (.bipush 120, 2) := by decide +kernel
theorem dX12_init_394 : decode cX12_init 394 = .ok (.newarray .int, 2) := by decide +kernel
theorem dX12_init_396 : decode cX12_init 396 = .ok (.putfield 142, 3) := by decide +kernel
theorem dX12_init_399 : decode cX12_init 399 = .ok (.aload_n 0, 1) := by decide +kernel
theorem dX12_init_400 : decode cX12_init 400 = .ok (.bipush 40, 2) := by decide +kernel
theorem dX12_init_402 : decode cX12_init 402 = .ok (.newarray .int, 2) := by decide +kernel
theorem dX12_init_404 : decode cX12_init 404 = .ok (.putfield 145, 3) := by decide +kernel
theorem dX12_init_407 : decode cX12_init 407 = .ok (.aload_n 0, 1) := by decide +kernel
theorem dX12_init_408 : decode cX12_init 408 = .ok (.bipush 40, 2) := by decide +kernel
theorem dX12_init_410 : decode cX12_init 410 = .ok (.newarray .int, 2) := by decide +kernel
theorem dX12_init_412 : decode cX12_init 412 = .ok (.putfield 148, 3) := by decide +kernel
theorem dX12_init_415 : decode cX12_init 415 = .ok (.aload_n 0, 1) := by decide +kernel
theorem dX12_init_416 : decode cX12_init 416 = .ok (.bipush 120, 2) := by decide +kernel
theorem dX12_init_418 : decode cX12_init 418 = .ok (.newarray .int, 2) := by decide +kernel
theorem dX12_init_420 : decode cX12_init 420 = .ok (.putfield 151, 3) := by decide +kernel
theorem dX12_init_423 : decode cX12_init 423 = .ok (.aload_n 0, 1) := by decide +kernel
theorem dX12_init_424 : decode cX12_init 424 = .ok (.bipush 10, 2) := by decide +kernel
theorem dX12_init_426 : decode cX12_init 426 = .ok (.newarray .int, 2) := by decide +kernel
theorem dX12_init_428 : decode cX12_init 428 = .ok (.putfield 154, 3) := by decide +kernel
theorem dX12_init_431 : decode cX12_init 431 = .ok (.aload_n 0, 1) := by decide +kernel
theorem dX12_init_432 : decode cX12_init 432 = .ok (.bipush 10, 2) := by decide +kernel
theorem dX12_init_434 : decode cX12_init 434 = .ok (.newarray .int, 2) := by decide +kernel
theorem dX12_init_436 : decode cX12_init 436 = .ok (.putfield 157, 3) := by decide +kernel
theorem dX12_init_439 : decode cX12_init 439 = .ok (.aload_n 0, 1) := by decide +kernel
theorem dX12_init_440 : decode cX12_init 440 = .ok (.bipush 10, 2) := by decide +kernel
theorem dX12_init_442 : decode cX12_init 442 = .ok (.newarray .int, 2) := by decide +kernel
theorem dX12_init_444 : decode cX12_init 444 = .ok (.putfield 160, 3) := by decide +kernel
theorem dX12_init_447 : decode cX12_init 447 = .ok (.aload_n 0, 1) := by decide +kernel
theorem dX12_init_448 : decode cX12_init 448 = .ok (.bipush 10, 2) := by decide +kernel
theorem dX12_init_450 : decode cX12_init 450 = .ok (.newarray .int, 2) := by decide +kernel
theorem dX12_init_452 : decode cX12_init 452 = .ok (.putfield 163, 3) := by decide +kernel
theorem dX12_init_455 : decode cX12_init 455 = .ok (.aload_n 0, 1) := by decide +kernel
theorem dX12_init_456 : decode cX12_init 456 = .ok (.sipush 1024, 3) := by decide +kernel
theorem dX12_init_459 : decode cX12_init 459 = .ok (.newarray .int, 2) := by decide +kernel
theorem dX12_init_461 : decode cX12_init 461 = .ok (.putfield 166, 3) := by decide +kernel
theorem dX12_init_464 : decode cX12_init 464 = .ok (.aload_n 0, 1) := by decide +kernel
theorem dX12_init_465 : decode cX12_init 465 = .ok (.iconst (-1), 1) := by decide +kernel
theorem dX12_init_466 : decode cX12_init 466 = .ok (.putfield 169, 3) := by decide +kernel
theorem dX12_init_469 : decode cX12_init 469 = .ok (.aload_n 0, 1) := by decide +kernel
theorem dX12_init_470 : decode cX12_init 470 = .ok (.bipush 10, 2) := by decide +kernel
theorem dX12_init_472 : decode cX12_init 472 = .ok (.newarray .int, 2) := by decide +kernel
theorem dX12_init_474 : decode cX12_init 474 = .ok (.putfield 172, 3) := by decide +kernel
theorem dX12_init_477 : decode cX12_init 477 = .ok (.aload_n 0, 1) := by decide +kernel
theorem dX12_init_478 : decode cX12_init 478 = .ok (.iconst (-1), 1) := by decide +kernel
theorem dX12_init_479 : decode cX12_init 479 = .ok (.putfield 175, 3) := by decide +kernel
theorem dX12_init_482 : decode cX12_init 482 = .ok (.aload_n 0, 1) := by decide +kernel
theorem dX12_init_483 : decode cX12_init 483 = .ok (.bipush 9, 2) := by decide +kernel
theorem dX12_init_485 : decode cX12_init 485 = .ok (.newarray .int, 2) := by decide +kernel
theorem dX12_init_487 : decode cX12_init 487 = .ok (.putfield 178, 3) := by decide +kernel
theorem dX12_init_490 : decode cX12_init 490 = .ok (.aload_n 0, 1) := by decide +kernel
theorem dX12_init_491 : decode cX12_init 491 = .ok (.bipush 6, 2) := by decide +kernel
theorem dX12_init_493 : decode cX12_init 493 = .ok (.newarray .int, 2) := by decide +kernel
theorem dX12_init_495 : decode cX12_init 495 = .ok (.putfield 181, 3) := by decide +kernel
theorem dX12_init_498 : decode cX12_init 498 = .ok (.aload_n 0, 1) := by decide +kernel
theorem dX12_init_499 : decode cX12_init 499 = .ok (.bipush 24, 2) := by decide +kernel
theorem dX12_init_501 : decode cX12_init 501 = .ok (.newarray .int, 2) := by decide +kernel
theorem dX12_init_503 : decode cX12_init 503 = .ok (.dup, 1) := by decide +kernel
theorem dX12_init_504 : decode cX12_init 504 = .ok (.iconst 0, 1) := by decide +kernel
theorem dX12_init_505 : decode cX12_init 505 = .ok (.iconst 1, 1) := by decide +kernel
theorem dX12_init_506 : decode cX12_init 506 = .ok (.iastore, 1) := by decide +kernel
theorem dX12_init_507 : decode cX12_init 507 = .ok (.dup, 1) := by decide +kernel
theorem dX12_init_508 : decode cX12_init 508 = .ok (.iconst 1, 1) := by decide +kernel
theorem dX12_init_509 : decode cX12_init 509 = .ok (.iconst 1, 1) := by decide +kernel
theorem dX12_init_510 : decode cX12_init 510 = .ok (.iastore, 1) := by decide +kernel
theorem dX12_init_511 : decode cX12_init 511 = .ok (.dup, 1) := by decide +kernel
theorem dX12_init_512 : decode cX12_init 512 = .ok (.iconst 2, 1) := by decide +kernel
theorem dX12_init_513 : decode cX12_init 513 = .ok (.iconst 1, 1) := by decide +kernel
theorem dX12_init_514 : decode cX12_init 514 = .ok (.iastore, 1) := by decide +kernel
theorem dX12_init_515 : decode cX12_init 515 = .ok (.dup, 1) := by decide +kernel
theorem dX12_init_516 : decode cX12_init 516 = .ok (.iconst 3, 1) := by decide +kernel
theorem dX12_init_517 : decode cX12_init 517 = .ok (.iconst 1, 1) := by decide +kernel
theorem dX12_init_518 : decode cX12_init 518 = .ok (.iastore, 1) := by decide +kernel
theorem dX12_init_519 : decode cX12_init 519 = .ok (.dup, 1) := by decide +kernel
theorem dX12_init_520 : decode cX12_init 520 = .ok (.iconst 4, 1) := by decide +kernel
theorem dX12_init_521 : decode cX12_init 521 = .ok (.iconst 1, 1) := by decide +kernel
theorem dX12_init_522 : decode cX12_init 522 = .ok (.iastore, 1) := by decide +kernel
theorem dX12_init_523 : decode cX12_init 523 = .ok (.dup, 1) := by decide +kernel
theorem dX12_init_524 : decode cX12_init 524 = .ok (.iconst 5, 1) := by decide +kernel
theorem dX12_init_525 : decode cX12_init 525 = .ok (.iconst 1, 1) := by decide +kernel
theorem dX12_init_526 : decode cX12_init 526 = .ok (.iastore, 1) := by decide +kernel
theorem dX12_init_527 : decode cX12_init 527 = .ok (.dup, 1) := by decide +kernel
theorem dX12_init_528 : decode cX12_init 528 = .ok (.bipush 6, 2) := by decide +kernel
theorem dX12_init_530 : decode cX12_init 530 = .ok (.iconst 1, 1) := by decide +kernel
theorem dX12_init_531 : decode cX12_init 531 = .ok (.iastore, 1) := by decide +kernel
theorem dX12_init_532 : decode cX12_init 532 = .ok (.dup, 1) := by decide +kernel
theorem dX12_init_533 : decode cX12_init 533 = .ok (.bipush 7, 2) := by decide +kernel
theorem dX12_init_535 : decode cX12_init 535 = .ok (.iconst 1, 1) := by decide +kernel
theorem dX12_init_536 : decode cX12_init 536 = .ok (.iastore, 1) := by decide +kernel
theorem dX12_init_537 : decode cX12_init 537 = .ok (.dup, 1) := by decide +kernel
theorem dX12_init_538 : decode cX12_init 538 = .ok (.bipush 8, 2) := by decide +kernel
theorem dX12_init_540 : decode cX12_init 540 = .ok (.iconst 1, 1) := by decide +kernel
theorem dX12_init_541 : decode cX12_init 541 = .ok (.iastore, 1) := by decide +kernel
theorem dX12_init_542 : decode cX12_init 542 = .ok (.dup, 1) := by decide +kernel
theorem dX12_init_543 : decode cX12_init 543 = .ok (.bipush 9, 2) := by decide +kernel
theorem dX12_init_545 : decode cX12_init 545 = .ok (.iconst 1, 1) := by decide +kernel
theorem dX12_init_546 : decode cX12_init 546 = .ok (.iastore, 1) := by decide +kernel
theorem dX12_init_547 : decode cX12_init 547 = .ok (.dup, 1) := by decide +kernel
theorem dX12_init_548 : decode cX12_init 548 = .ok (.bipush 10, 2) := by decide +kernel
theorem dX12_init_550 : decode cX12_init 550 = .ok (.iconst 1, 1) := by decide +kernel
theorem dX12_init_551 : decode cX12_init 551 = .ok (.iastore, 1) := by decide +kernel
theorem dX12_init_552 : decode cX12_init 552 = .ok (.dup, 1) := by decide +kernel
theorem dX12_init_553 : decode cX12_init 553 = .ok (.bipush 11, 2) := by decide +kernel
theorem dX12_init_555 : decode cX12_init 555 = .ok (.iconst 1, 1) := by decide +kernel
theorem dX12_init_556 : decode cX12_init 556 = .ok (.iastore, 1) := by decide +kernel
theorem dX12_init_557 : decode cX12_init 557 = .ok (.dup, 1) := by decide +kernel
theorem dX12_init_558 : decode cX12_init 558 = .ok (.bipush 12, 2) := by decide +kernel
theorem dX12_init_560 : decode cX12_init 560 = .ok (.iconst 1, 1) := by decide +kernel
theorem dX12_init_561 : decode cX12_init 561 = .ok (.iastore, 1) := by decide +kernel
theorem dX12_init_562 : decode cX12_init 562 = .ok (.dup, 1) := by decide +kernel
theorem dX12_init_563 : decode cX12_init 563 = .ok (.bipush 13, 2) := by decide +kernel
theorem dX12_init_565 : decode cX12_init 565 = .ok (.iconst 1, 1) := by decide +kernel
theorem dX12_init_566 : decode cX12_init 566 = .ok (.iastore, 1) := by decide +kernel
theorem dX12_init_567 : decode cX12_init 567 = .ok (.dup, 1) := by decide +kernel
theorem dX12_init_568 : decode cX12_init 568 = .ok (.bipush 14, 2) := by decide +kernel
theorem dX12_init_570 : decode cX12_init 570 = .ok (.iconst 1, 1) := by decide +kernel
theorem dX12_init_571 : decode cX12_init 571 = .ok (.iastore, 1) := by decide +kernel
theorem dX12_init_572 : decode cX12_init 572 = .ok (.dup, 1) := by decide +kernel
theorem dX12_init_573 : decode cX12_init 573 = .ok (.bipush 15, 2) := by decide +kernel
theorem dX12_init_575 : decode cX12_init 575 = .ok (.iconst 1, 1) := by decide +kernel
theorem dX12_init_576 : decode cX12_init 576 = .ok (.iastore, 1) := by decide +kernel
theorem dX12_init_577 : decode cX12_init 577 = .ok (.dup, 1) := by decide +kernel
theorem dX12_init_578 : decode cX12_init 578 = .ok (.bipush 16, 2) := by decide +kernel
theorem dX12_init_580 : decode cX12_init 580 = .ok (.iconst 1, 1) := by decide +kernel
theorem dX12_init_581 : decode cX12_init 581 = .ok (.iastore, 1) := by decide +kernel
theorem dX12_init_582 : decode cX12_init 582 = .ok (.dup, 1) := by decide +kernel
theorem dX12_init_583 : decode cX12_init 583 = .ok (.bipush 17, 2) := by decide +kernel
theorem dX12_init_585 : decode cX12_init 585 = .ok (.iconst 1, 1) := by decide +kernel
theorem dX12_init_586 : decode cX12_init 586 = .ok (.iastore, 1) := by decide +kernel
theorem dX12_init_587 : decode cX12_init 587 = .ok (.dup, 1) := by decide +kernel
theorem dX12_init_588 : decode cX12_init 588 = .ok (.bipush 18, 2) := by decide +kernel
theorem dX12_init_590 : decode cX12_init 590 = .ok (.iconst 1, 1) := by decide +kernel
theorem dX12_init_591 : decode cX12_init 591 = .ok (.iastore, 1) := by decide +kernel
theorem dX12_init_592 : decode cX12_init 592 = .ok (.dup, 1) := by decide +kernel
theorem dX12_init_593 : decode cX12_init 593 = .ok (.bipush 19, 2) := by decide +kernel
theorem dX12_init_595 : decode cX12_init 595 = .ok (.iconst 1, 1) := by decide +kernel
theorem dX12_init_596 : decode cX12_init 596 = .ok (.iastore, 1) := by decide +kernel
theorem dX12_init_597 : decode cX12_init 597 = .ok (.dup, 1) := by decide +kernel
theorem dX12_init_598 : decode cX12_init 598 = .ok (.bipush 20, 2) := by decide +kernel
theorem dX12_init_600 : decode cX12_init 600 = .ok (.iconst 1, 1) := by decide +kernel
theorem dX12_init_601 : decode cX12_init 601 = .ok (.iastore, 1) := by decide +kernel
theorem dX12_init_602 : decode cX12_init 602 = .ok (.dup, 1) := by decide +kernel
theorem dX12_init_603 : decode cX12_init 603 = .ok (.bipush 21, 2) := by decide +kernel
theorem dX12_init_605 : decode cX12_init 605 = .ok (.iconst 1, 1) := by decide +kernel
theorem dX12_init_606 : decode cX12_init 606 = .ok (.iastore, 1) := by decide +kernel
theorem dX12_init_607 : decode cX12_init 607 = .ok (.dup, 1) := by decide +kernel
theorem dX12_init_608 : decode cX12_init 608 = .ok (.bipush 22, 2) := by decide +kernel
theorem dX12_init_610 : decode cX12_init 610 = .ok (.iconst 1, 1) := by decide +kernel
theorem dX12_init_611 : decode cX12_init 611 = .ok (.iastore, 1) := by decide +kernel
theorem dX12_init_612 : decode cX12_init 612 = .ok (.dup, 1) := by decide +kernel
theorem dX12_init_613 : decode cX12_init 613 = .ok (.bipush 23, 2) := by decide +kernel
theorem dX12_init_615 : decode cX12_init 615 = .ok (.iconst 1, 1) := by decide +kernel
theorem dX12_init_616 : decode cX12_init 616 = .ok (.iastore, 1) := by decide +kernel
theorem dX12_init_617 : decode cX12_init 617 = .ok (.putfield 184, 3) := by decide +kernel
theorem dX12_init_620 : decode cX12_init 620 = .ok (.aload_n 0, 1) := by decide +kernel
theorem dX12_init_621 : decode cX12_init 621 = .ok (.iconst 2, 1) := by decide +kernel
theorem dX12_init_622 : decode cX12_init 622 = .ok (.newarray .int, 2) := by decide +kernel
theorem dX12_init_624 : decode cX12_init 624 = .ok (.putfield 187, 3) := by decide +kernel
theorem dX12_init_627 : decode cX12_init 627 = .ok (.aload_n 0, 1) := by decide +kernel
theorem dX12_init_628 : decode cX12_init 628 = .ok (.iconst 2, 1) := by decide +kernel
theorem dX12_init_629 : decode cX12_init 629 = .ok (.newarray .int, 2) := by decide +kernel
theorem dX12_init_631 : decode cX12_init 631 = .ok (.putfield 190, 3) := by decide +kernel
theorem dX12_init_634 : decode cX12_init 634 = .ok (.aload_n 0, 1) := by decide +kernel
theorem dX12_init_635 : decode cX12_init 635 = .ok (.iconst (-1), 1) := by decide +kernel
theorem dX12_init_636 : decode cX12_init 636 = .ok (.putfield 193, 3) := by decide +kernel
theorem dX12_init_639 : decode cX12_init 639 = .ok (.aload_n 0, 1) := by decide +kernel
theorem dX12_init_640 : decode cX12_init 640 = .ok (.bipush 120, 2) := by decide +kernel
theorem dX12_init_642 : decode cX12_init 642 = .ok (.newarray .int, 2) := by decide +kernel
theorem dX12_init_644 : decode cX12_init 644 = .ok (.putfield 196, 3) := by decide +kernel
theorem dX12_init_647 : decode cX12_init 647 = .ok (.aload_n 0, 1) := by decide +kernel
theorem dX12_init_648 : decode cX12_init 648 = .ok (.bipush 120, 2) := by decide +kernel
theorem dX12_init_650 : decode cX12_init 650 = .ok (.newarray .int, 2) := by decide +kernel
theorem dX12_init_652 : decode cX12_init 652 = .ok (.putfield 199, 3) := by decide +kernel
theorem dX12_init_655 : decode cX12_init 655 = .ok (.aload_n 0, 1) := by decide +kernel
theorem dX12_init_656 : decode cX12_init 656 = .ok (.bipush 120, 2) := by decide +kernel
theorem dX12_init_658 : decode cX12_init 658 = .ok (.newarray .int, 2) := by decide +kernel
theorem dX12_init_660 : decode cX12_init 660 = .ok (.putfield 202, 3) := by decide +kernel
theorem dX12_init_663 : decode cX12_init 663 = .ok (.aload_n 0, 1) := by decide +kernel
theorem dX12_init_664 : decode cX12_init 664 = .ok (.bipush 24, 2) := by decide +kernel
theorem dX12_init_666 : decode cX12_init 666 = .ok (.newarray .int, 2) := by decide +kernel
theorem dX12_init_668 : decode cX12_init 668 = .ok (.putfield 205, 3) := by decide +kernel
theorem dX12_init_671 : decode cX12_init 671 = .ok (.aload_n 0, 1) := by decide +kernel
theorem dX12_init_672 : decode cX12_init 672 = .ok (.bipush 6, 2) := by decide +kernel
theorem dX12_init_674 : decode cX12_init 674 = .ok (.newarray .int, 2) := by decide +kernel
theorem dX12_init_676 : decode cX12_init 676 = .ok (.dup, 1) := by decide +kernel
theorem dX12_init_677 : decode cX12_init 677 = .ok (.iconst 0, 1) := by decide +kernel
theorem dX12_init_678 : decode cX12_init 678 = .ok (.iconst (-1), 1) := by decide +kernel
theorem dX12_init_679 : decode cX12_init 679 = .ok (.iastore, 1) := by decide +kernel
theorem dX12_init_680 : decode cX12_init 680 = .ok (.dup, 1) := by decide +kernel
theorem dX12_init_681 : decode cX12_init 681 = .ok (.iconst 1, 1) := by decide +kernel
theorem dX12_init_682 : decode cX12_init 682 = .ok (.iconst (-1), 1) := by decide +kernel
theorem dX12_init_683 : decode cX12_init 683 = .ok (.iastore, 1) := by decide +kernel
theorem dX12_init_684 : decode cX12_init 684 = .ok (.dup, 1) := by decide +kernel
theorem dX12_init_685 : decode cX12_init 685 = .ok (.iconst 2, 1) := by decide +kernel
theorem dX12_init_686 : decode cX12_init 686 = .ok (.iconst (-1), 1) := by decide +kernel
theorem dX12_init_687 : decode cX12_init 687 = .ok (.iastore, 1) := by decide +kernel
theorem dX12_init_688 : decode cX12_init 688 = .ok (.dup, 1) := by decide +kernel
theorem dX12_init_689 : decode cX12_init 689 = .ok (.iconst 3, 1) := by decide +kernel
theorem dX12_init_690 : decode cX12_init 690 = .ok (.iconst (-1), 1) := by decide +kernel
theorem dX12_init_691 : decode cX12_init 691 = .ok (.iastore, 1) := by decide +kernel
theorem dX12_init_692 : decode cX12_init 692 = .ok (.dup, 1) := by decide +kernel
theorem dX12_init_693 : decode cX12_init 693 = .ok (.iconst 4, 1) := by decide +kernel
theorem dX12_init_694 : decode cX12_init 694 = .ok (.iconst (-1), 1) := by decide +kernel
theorem dX12_init_695 : decode cX12_init 695 = .ok (.iastore, 1) := by decide +kernel
theorem dX12_init_696 : decode cX12_init 696 = .ok (.dup, 1) := by decide +kernel
theorem dX12_init_697 : decode cX12_init 697 = .ok (.iconst 5, 1) := by decide +kernel
theorem dX12_init_698 : decode cX12_init 698 = .ok (.iconst (-1), 1) := by decide +kernel
theorem dX12_init_699 : decode cX12_init 699 = .ok (.iastore, 1) := by decide +kernel
theorem dX12_init_700 : decode cX12_init 700 = .ok (.putfield 208, 3) := by decide +kernel
theorem dX12_init_703 : decode cX12_init 703 = .ok (.aload_n 0, 1) := by decide +kernel
theorem dX12_init_704 : decode cX12_init 704 = .ok (.bipush 6, 2) := by decide +kernel
theorem dX12_init_706 : decode cX12_init 706 = .ok (.newarray .int, 2) := by decide +kernel
theorem dX12_init_708 : decode cX12_init 708 = .ok (.putfield 211, 3) := by decide +kernel
theorem dX12_init_711 : decode cX12_init 711 = .ok (.aload_n 0, 1) := by decide +kernel
theorem dX12_init_712 : decode cX12_init 712 = .ok (.sipush 360, 3) := by decide +kernel
theorem dX12_init_715 : decode cX12_init 715 = .ok (.newarray .long, 2) := by decide +kernel
theorem dX12_init_717 : decode cX12_init 717 = .ok (.putfield 214, 3) := by decide +kernel
theorem dX12_init_720 : decode cX12_init 720 = .ok (.aload_n 0, 1) := by decide +kernel
theorem dX12_init_721 : decode cX12_init 721 = .ok (.sipush 360, 3) := by decide +kernel
theorem dX12_init_724 : decode cX12_init 724 = .ok (.newarray .boolean, 2) := by decide +kernel
theorem dX12_init_726 : decode cX12_init 726 = .ok (.putfield 218, 3) := by decide +kernel
theorem dX12_init_729 : decode cX12_init 729 = .ok (.aload_n 0, 1) := by decide +kernel
theorem dX12_init_730 : decode cX12_init 730 = .ok (.bipush 60, 2) := by decide +kernel
theorem dX12_init_732 : decode cX12_init 732 = .ok (.newarray .long, 2) := by decide +kernel
theorem dX12_init_734 : decode cX12_init 734 = .ok (.putfield 221, 3) := by decide +kernel
theorem dX12_init_737 : decode cX12_init 737 = .ok (.aload_n 0, 1) := by decide +kernel
theorem dX12_init_738 : decode cX12_init 738 = .ok (.bipush 60, 2) := by decide +kernel
theorem dX12_init_740 : decode cX12_init 740 = .ok (.newarray .boolean, 2) := by decide +kernel
theorem dX12_init_742 : decode cX12_init 742 = .ok (.putfield 224, 3) := by decide +kernel
theorem dX12_init_745 : decode cX12_init 745 = .ok (.return_, 1) := by decide +kernel
theorem dX12_in_0 : decode cX12_in 0 = .ok (.iload_n 0, 1) := by decide +kernel
theorem dX12_in_1 : decode cX12_in 1 = .ok (.iload_n 1, 1) := by decide +kernel
theorem dX12_in_2 : decode cX12_in 2 = .ok (.if_icmp .lt 12, 3) := by decide +kernel
theorem dX12_in_5 : decode cX12_in 5 = .ok (.iload_n 0, 1) := by decide +kernel
theorem dX12_in_6 : decode cX12_in 6 = .ok (.iload_n 2, 1) := by decide +kernel
theorem dX12_in_7 : decode cX12_in 7 = .ok (.if_icmp .gt 7, 3) := by decide +kernel
theorem dX12_in_10 : decode cX12_in 10 = .ok (.iconst 1, 1) := by decide +kernel
theorem dX12_in_11 : decode cX12_in 11 = .ok (.goto 4, 3) := by decide +kernel
theorem dX12_in_14 : decode cX12_in 14 = .ok (.iconst 0, 1) := by decide +kernel
theorem dX12_in_15 : decode cX12_in 15 = .ok (.ireturn, 1) := by decide +kernel
theorem dX12_isHour_0 : decode cX12_isHour 0 = .ok (.iload_n 0, 1) := by decide +kernel
theorem dX12_isHour_1 : decode cX12_isHour 1 = .ok (.iconst 0, 1) := by decide +kernel
theorem dX12_isHour_2 : decode cX12_isHour 2 = .ok (.sipush 1699, 3) := by decide +kernel
theorem dX12_isHour_5 : decode cX12_isHour 5 = .ok (.invokestatic 230, 3) := by decide +kernel
theorem dX12_isHour_8 : decode cX12_isHour 8 = .ok (.ireturn, 1) := by decide +kernel
theorem dX12_held_0 : decode cX12_held 0 = .ok (.iload_n 0, 1) := by decide +kernel
theorem dX12_held_1 : decode cX12_held 1 = .ok (.iload_n 1, 1) := by decide +kernel
theorem dX12_held_2 : decode cX12_held 2 = .ok (.if_icmp .ge 7, 3) := by decide +kernel
theorem dX12_held_5 : decode cX12_held 5 = .ok (.iload_n 1, 1) := by decide +kernel
theorem dX12_held_6 : decode cX12_held 6 = .ok (.goto 13, 3) := by decide +kernel
theorem dX12_held_9 : decode cX12_held 9 = .ok (.iload_n 0, 1) := by decide +kernel
theorem dX12_held_10 : decode cX12_held 10 = .ok (.iload_n 2, 1) := by decide +kernel
theorem dX12_held_11 : decode cX12_held 11 = .ok (.if_icmp .le 7, 3) := by decide +kernel
theorem dX12_held_14 : decode cX12_held 14 = .ok (.iload_n 2, 1) := by decide +kernel
theorem dX12_held_15 : decode cX12_held 15 = .ok (.goto 4, 3) := by decide +kernel
theorem dX12_held_18 : decode cX12_held 18 = .ok (.iload_n 0, 1) := by decide +kernel
theorem dX12_held_19 : decode cX12_held 19 = .ok (.ireturn, 1) := by decide +kernel
theorem dX12_isCell_0 : decode cX12_isCell 0 = .ok (.iload_n 0, 1) := by decide +kernel
theorem dX12_isCell_1 : decode cX12_isCell 1 = .ok (.ifCond .lt 29, 3) := by decide +kernel
theorem dX12_isCell_4 : decode cX12_isCell 4 = .ok (.iload_n 0, 1) := by decide +kernel
theorem dX12_isCell_5 : decode cX12_isCell 5 = .ok (.bipush 100, 2) := by decide +kernel
theorem dX12_isCell_7 : decode cX12_isCell 7 = .ok (.idiv, 1) := by decide +kernel
theorem dX12_isCell_8 : decode cX12_isCell 8 = .ok (.bipush 32, 2) := by decide +kernel
theorem dX12_isCell_10 : decode cX12_isCell 10 = .ok (.if_icmp .ge 20, 3) := by decide +kernel
theorem dX12_isCell_13 : decode cX12_isCell 13 = .ok (.iload_n 0, 1) := by decide +kernel
theorem dX12_isCell_14 : decode cX12_isCell 14 = .ok (.bipush 100, 2) := by decide +kernel
theorem dX12_isCell_16 : decode cX12_isCell 16 = .ok (.irem, 1) := by decide +kernel
theorem dX12_isCell_17 : decode cX12_isCell 17 = .ok (.iconst 1, 1) := by decide +kernel
theorem dX12_isCell_18 : decode cX12_isCell 18 = .ok (.bipush 60, 2) := by decide +kernel
theorem dX12_isCell_20 : decode cX12_isCell 20 = .ok (.invokestatic 230, 3) := by decide +kernel
theorem dX12_isCell_23 : decode cX12_isCell 23 = .ok (.ifCond .eq 7, 3) := by decide +kernel
theorem dX12_isCell_26 : decode cX12_isCell 26 = .ok (.iconst 1, 1) := by decide +kernel
theorem dX12_isCell_27 : decode cX12_isCell 27 = .ok (.goto 4, 3) := by decide +kernel
theorem dX12_isCell_30 : decode cX12_isCell 30 = .ok (.iconst 0, 1) := by decide +kernel
theorem dX12_isCell_31 : decode cX12_isCell 31 = .ok (.ireturn, 1) := by decide +kernel
theorem dX12_placeOf_0 : decode cX12_placeOf 0 = .ok (.bipush 61, 2) := by decide +kernel
theorem dX12_placeOf_2 : decode cX12_placeOf 2 = .ok (.iload_n 0, 1) := by decide +kernel
theorem dX12_placeOf_3 : decode cX12_placeOf 3 = .ok (.bipush 100, 2) := by decide +kernel
theorem dX12_placeOf_5 : decode cX12_placeOf 5 = .ok (.idiv, 1) := by decide +kernel
theorem dX12_placeOf_6 : decode cX12_placeOf 6 = .ok (.imul, 1) := by decide +kernel
theorem dX12_placeOf_7 : decode cX12_placeOf 7 = .ok (.iload_n 0, 1) := by decide +kernel
theorem dX12_placeOf_8 : decode cX12_placeOf 8 = .ok (.bipush 100, 2) := by decide +kernel
theorem dX12_placeOf_10 : decode cX12_placeOf 10 = .ok (.irem, 1) := by decide +kernel
theorem dX12_placeOf_11 : decode cX12_placeOf 11 = .ok (.iadd, 1) := by decide +kernel
theorem dX12_placeOf_12 : decode cX12_placeOf 12 = .ok (.ireturn, 1) := by decide +kernel
theorem dX12_hard_0 : decode cX12_hard 0 = .ok (.iload_n 1, 1) := by decide +kernel
theorem dX12_hard_1 : decode cX12_hard 1 = .ok (.invokestatic 234, 3) := by decide +kernel
theorem dX12_hard_4 : decode cX12_hard 4 = .ok (.ifCond .eq 13, 3) := by decide +kernel
theorem dX12_hard_7 : decode cX12_hard 7 = .ok (.iload_n 2, 1) := by decide +kernel
theorem dX12_hard_8 : decode cX12_hard 8 = .ok (.iconst 1, 1) := by decide +kernel
theorem dX12_hard_9 : decode cX12_hard 9 = .ok (.bipush 9, 2) := by decide +kernel
theorem dX12_hard_11 : decode cX12_hard 11 = .ok (.invokestatic 230, 3) := by decide +kernel
theorem dX12_hard_14 : decode cX12_hard 14 = .ok (.ifCond .ne 5, 3) := by decide +kernel
theorem dX12_hard_17 : decode cX12_hard 17 = .ok (.iconst (-1), 1) := by decide +kernel
theorem dX12_hard_18 : decode cX12_hard 18 = .ok (.ireturn, 1) := by decide +kernel
theorem dX12_hard_19 : decode cX12_hard 19 = .ok (.iconst 3, 1) := by decide +kernel
theorem dX12_hard_20 : decode cX12_hard 20 = .ok (.aload_n 0, 1) := by decide +kernel
theorem dX12_hard_21 : decode cX12_hard 21 = .ok (.getfield 7, 3) := by decide +kernel
theorem dX12_hard_24 : decode cX12_hard 24 = .ok (.iload_n 1, 1) := by decide +kernel
theorem dX12_hard_25 : decode cX12_hard 25 = .ok (.invokestatic 238, 3) := by decide +kernel
theorem dX12_hard_28 : decode cX12_hard 28 = .ok (.iaload, 1) := by decide +kernel
theorem dX12_hard_29 : decode cX12_hard 29 = .ok (.iadd, 1) := by decide +kernel
theorem dX12_hard_30 : decode cX12_hard 30 = .ok (.istore_n 3, 1) := by decide +kernel
theorem dX12_hard_31 : decode cX12_hard 31 = .ok (.aload_n 0, 1) := by decide +kernel
theorem dX12_hard_32 : decode cX12_hard 32 = .ok (.getfield 7, 3) := by decide +kernel
theorem dX12_hard_35 : decode cX12_hard 35 = .ok (.iload_n 1, 1) := by decide +kernel
theorem dX12_hard_36 : decode cX12_hard 36 = .ok (.invokestatic 238, 3) := by decide +kernel
theorem dX12_hard_39 : decode cX12_hard 39 = .ok (.iload_n 2, 1) := by decide +kernel
theorem dX12_hard_40 : decode cX12_hard 40 = .ok (.iconst 3, 1) := by decide +kernel
theorem dX12_hard_41 : decode cX12_hard 41 = .ok (.isub, 1) := by decide +kernel
theorem dX12_hard_42 : decode cX12_hard 42 = .ok (.iastore, 1) := by decide +kernel
theorem dX12_hard_43 : decode cX12_hard 43 = .ok (.iload_n 3, 1) := by decide +kernel
theorem dX12_hard_44 : decode cX12_hard 44 = .ok (.ireturn, 1) := by decide +kernel
theorem dX12_open_0 : decode cX12_open 0 = .ok (.iload_n 1, 1) := by decide +kernel
theorem dX12_open_1 : decode cX12_open 1 = .ok (.invokestatic 234, 3) := by decide +kernel
theorem dX12_open_4 : decode cX12_open 4 = .ok (.ifCond .eq 12, 3) := by decide +kernel
theorem dX12_open_7 : decode cX12_open 7 = .ok (.iload_n 2, 1) := by decide +kernel
theorem dX12_open_8 : decode cX12_open 8 = .ok (.iconst 0, 1) := by decide +kernel
theorem dX12_open_9 : decode cX12_open 9 = .ok (.iconst 1, 1) := by decide +kernel
theorem dX12_open_10 : decode cX12_open 10 = .ok (.invokestatic 230, 3) := by decide +kernel
theorem dX12_open_13 : decode cX12_open 13 = .ok (.ifCond .ne 5, 3) := by decide +kernel
theorem dX12_open_16 : decode cX12_open 16 = .ok (.iconst (-1), 1) := by decide +kernel
theorem dX12_open_17 : decode cX12_open 17 = .ok (.ireturn, 1) := by decide +kernel
theorem dX12_open_18 : decode cX12_open 18 = .ok (.aload_n 0, 1) := by decide +kernel
theorem dX12_open_19 : decode cX12_open 19 = .ok (.getfield 13, 3) := by decide +kernel
theorem dX12_open_22 : decode cX12_open 22 = .ok (.iload_n 1, 1) := by decide +kernel
theorem dX12_open_23 : decode cX12_open 23 = .ok (.invokestatic 238, 3) := by decide +kernel
theorem dX12_open_26 : decode cX12_open 26 = .ok (.baload, 1) := by decide +kernel
theorem dX12_open_27 : decode cX12_open 27 = .ok (.ifCond .eq 7, 3) := by decide +kernel
theorem dX12_open_30 : decode cX12_open 30 = .ok (.iconst 1, 1) := by decide +kernel
theorem dX12_open_31 : decode cX12_open 31 = .ok (.goto 4, 3) := by decide +kernel
theorem dX12_open_34 : decode cX12_open 34 = .ok (.iconst 0, 1) := by decide +kernel
theorem dX12_open_35 : decode cX12_open 35 = .ok (.istore_n 3, 1) := by decide +kernel
theorem dX12_open_36 : decode cX12_open 36 = .ok (.aload_n 0, 1) := by decide +kernel
theorem dX12_open_37 : decode cX12_open 37 = .ok (.getfield 13, 3) := by decide +kernel
theorem dX12_open_40 : decode cX12_open 40 = .ok (.iload_n 1, 1) := by decide +kernel
theorem dX12_open_41 : decode cX12_open 41 = .ok (.invokestatic 238, 3) := by decide +kernel
theorem dX12_open_44 : decode cX12_open 44 = .ok (.iload_n 2, 1) := by decide +kernel
theorem dX12_open_45 : decode cX12_open 45 = .ok (.iconst 1, 1) := by decide +kernel
theorem dX12_open_46 : decode cX12_open 46 = .ok (.if_icmp .ne 7, 3) := by decide +kernel
theorem dX12_open_49 : decode cX12_open 49 = .ok (.iconst 1, 1) := by decide +kernel
theorem dX12_open_50 : decode cX12_open 50 = .ok (.goto 4, 3) := by decide +kernel
theorem dX12_open_53 : decode cX12_open 53 = .ok (.iconst 0, 1) := by decide +kernel
theorem dX12_open_54 : decode cX12_open 54 = .ok (.bastore, 1) := by decide +kernel
theorem dX12_open_55 : decode cX12_open 55 = .ok (.iload_n 3, 1) := by decide +kernel
theorem dX12_open_56 : decode cX12_open 56 = .ok (.ireturn, 1) := by decide +kernel
theorem dX12_ofCell_0 : decode cX12_ofCell 0 = .ok (.iload_n 1, 1) := by decide +kernel
theorem dX12_ofCell_1 : decode cX12_ofCell 1 = .ok (.invokestatic 234, 3) := by decide +kernel
theorem dX12_ofCell_4 : decode cX12_ofCell 4 = .ok (.ifCond .eq 12, 3) := by decide +kernel
theorem dX12_ofCell_7 : decode cX12_ofCell 7 = .ok (.iload_n 2, 1) := by decide +kernel
theorem dX12_ofCell_8 : decode cX12_ofCell 8 = .ok (.iconst 0, 1) := by decide +kernel
theorem dX12_ofCell_9 : decode cX12_ofCell 9 = .ok (.iconst 1, 1) := by decide +kernel
theorem dX12_ofCell_10 : decode cX12_ofCell 10 = .ok (.invokestatic 230, 3) := by decide +kernel
theorem dX12_ofCell_13 : decode cX12_ofCell 13 = .ok (.ifCond .ne 7, 3) := by decide +kernel
theorem dX12_ofCell_16 : decode cX12_ofCell 16 = .ok (.iconst (-1), 1) := by decide +kernel
theorem dX12_ofCell_17 : decode cX12_ofCell 17 = .ok (.goto 38, 3) := by decide +kernel
theorem dX12_ofCell_20 : decode cX12_ofCell 20 = .ok (.iload_n 2, 1) := by decide +kernel
theorem dX12_ofCell_21 : decode cX12_ofCell 21 = .ok (.ifCond .ne 17, 3) := by decide +kernel
theorem dX12_ofCell_24 : decode cX12_ofCell 24 = .ok (.iconst 3, 1) := by decide +kernel
theorem dX12_ofCell_25 : decode cX12_ofCell 25 = .ok (.aload_n 0, 1) := by decide +kernel
theorem dX12_ofCell_26 : decode cX12_ofCell 26 = .ok (.getfield 7, 3) := by decide +kernel
theorem dX12_ofCell_29 : decode cX12_ofCell 29 = .ok (.iload_n 1, 1) := by decide +kernel
theorem dX12_ofCell_30 : decode cX12_ofCell 30 = .ok (.invokestatic 238, 3) := by decide +kernel
theorem dX12_ofCell_33 : decode cX12_ofCell 33 = .ok (.iaload, 1) := by decide +kernel
theorem dX12_ofCell_34 : decode cX12_ofCell 34 = .ok (.iadd, 1) := by decide +kernel
theorem dX12_ofCell_35 : decode cX12_ofCell 35 = .ok (.goto 20, 3) := by decide +kernel
theorem dX12_ofCell_38 : decode cX12_ofCell 38 = .ok (.aload_n 0, 1) := by decide +kernel
theorem dX12_ofCell_39 : decode cX12_ofCell 39 = .ok (.getfield 13, 3) := by decide +kernel
theorem dX12_ofCell_42 : decode cX12_ofCell 42 = .ok (.iload_n 1, 1) := by decide +kernel
theorem dX12_ofCell_43 : decode cX12_ofCell 43 = .ok (.invokestatic 238, 3) := by decide +kernel
theorem dX12_ofCell_46 : decode cX12_ofCell 46 = .ok (.baload, 1) := by decide +kernel
theorem dX12_ofCell_47 : decode cX12_ofCell 47 = .ok (.ifCond .eq 7, 3) := by decide +kernel
theorem dX12_ofCell_50 : decode cX12_ofCell 50 = .ok (.iconst 1, 1) := by decide +kernel
theorem dX12_ofCell_51 : decode cX12_ofCell 51 = .ok (.goto 4, 3) := by decide +kernel
theorem dX12_ofCell_54 : decode cX12_ofCell 54 = .ok (.iconst 0, 1) := by decide +kernel
theorem dX12_ofCell_55 : decode cX12_ofCell 55 = .ok (.ireturn, 1) := by decide +kernel
theorem dX12_isBody_0 : decode cX12_isBody 0 = .ok (.iload_n 1, 1) := by decide +kernel
theorem dX12_isBody_1 : decode cX12_isBody 1 = .ok (.iconst 0, 1) := by decide +kernel
theorem dX12_isBody_2 : decode cX12_isBody 2 = .ok (.aload_n 0, 1) := by decide +kernel
theorem dX12_isBody_3 : decode cX12_isBody 3 = .ok (.getfield 242, 3) := by decide +kernel
theorem dX12_isBody_6 : decode cX12_isBody 6 = .ok (.iconst 1, 1) := by decide +kernel
theorem dX12_isBody_7 : decode cX12_isBody 7 = .ok (.isub, 1) := by decide +kernel
theorem dX12_isBody_8 : decode cX12_isBody 8 = .ok (.invokestatic 230, 3) := by decide +kernel
theorem dX12_isBody_11 : decode cX12_isBody 11 = .ok (.ireturn, 1) := by decide +kernel
theorem dX12_isUnder_0 : decode cX12_isUnder 0 = .ok (.iload_n 1, 1) := by decide +kernel
theorem dX12_isUnder_1 : decode cX12_isUnder 1 = .ok (.ifCond .eq 8, 3) := by decide +kernel
theorem dX12_isUnder_4 : decode cX12_isUnder 4 = .ok (.iload_n 0, 1) := by decide +kernel
theorem dX12_isUnder_5 : decode cX12_isUnder 5 = .ok (.iload_n 1, 1) := by decide +kernel
theorem dX12_isUnder_6 : decode cX12_isUnder 6 = .ok (.if_icmp .ne 5, 3) := by decide +kernel
theorem dX12_isUnder_9 : decode cX12_isUnder 9 = .ok (.iconst 1, 1) := by decide +kernel
theorem dX12_isUnder_10 : decode cX12_isUnder 10 = .ok (.ireturn, 1) := by decide +kernel
theorem dX12_isUnder_11 : decode cX12_isUnder 11 = .ok (.iload_n 1, 1) := by decide +kernel
theorem dX12_isUnder_12 : decode cX12_isUnder 12 = .ok (.iconst 1, 1) := by decide +kernel
theorem dX12_isUnder_13 : decode cX12_isUnder 13 = .ok (.if_icmp .ne 35, 3) := by decide +kernel
theorem dX12_isUnder_16 : decode cX12_isUnder 16 = .ok (.iload_n 0, 1) := by decide +kernel
theorem dX12_isUnder_17 : decode cX12_isUnder 17 = .ok (.iconst 2, 1) := by decide +kernel
theorem dX12_isUnder_18 : decode cX12_isUnder 18 = .ok (.if_icmp .eq 24, 3) := by decide +kernel
theorem dX12_isUnder_21 : decode cX12_isUnder 21 = .ok (.iload_n 0, 1) := by decide +kernel
theorem dX12_isUnder_22 : decode cX12_isUnder 22 = .ok (.iconst 3, 1) := by decide +kernel
theorem dX12_isUnder_23 : decode cX12_isUnder 23 = .ok (.if_icmp .eq 19, 3) := by decide +kernel
theorem dX12_isUnder_26 : decode cX12_isUnder 26 = .ok (.iload_n 0, 1) := by decide +kernel
theorem dX12_isUnder_27 : decode cX12_isUnder 27 = .ok (.iconst 4, 1) := by decide +kernel
theorem dX12_isUnder_28 : decode cX12_isUnder 28 = .ok (.if_icmp .eq 14, 3) := by decide +kernel
theorem dX12_isUnder_31 : decode cX12_isUnder 31 = .ok (.iload_n 0, 1) := by decide +kernel
theorem dX12_isUnder_32 : decode cX12_isUnder 32 = .ok (.iconst 5, 1) := by decide +kernel
theorem dX12_isUnder_33 : decode cX12_isUnder 33 = .ok (.if_icmp .eq 9, 3) := by decide +kernel
theorem dX12_isUnder_36 : decode cX12_isUnder 36 = .ok (.iload_n 0, 1) := by decide +kernel
theorem dX12_isUnder_37 : decode cX12_isUnder 37 = .ok (.bipush 6, 2) := by decide +kernel
theorem dX12_isUnder_39 : decode cX12_isUnder 39 = .ok (.if_icmp .ne 7, 3) := by decide +kernel
theorem dX12_isUnder_42 : decode cX12_isUnder 42 = .ok (.iconst 1, 1) := by decide +kernel
theorem dX12_isUnder_43 : decode cX12_isUnder 43 = .ok (.goto 4, 3) := by decide +kernel
theorem dX12_isUnder_46 : decode cX12_isUnder 46 = .ok (.iconst 0, 1) := by decide +kernel
theorem dX12_isUnder_47 : decode cX12_isUnder 47 = .ok (.ireturn, 1) := by decide +kernel
theorem dX12_isUnder_48 : decode cX12_isUnder 48 = .ok (.iload_n 1, 1) := by decide +kernel
theorem dX12_isUnder_49 : decode cX12_isUnder 49 = .ok (.iconst 2, 1) := by decide +kernel
theorem dX12_isUnder_50 : decode cX12_isUnder 50 = .ok (.if_icmp .ne 24, 3) := by decide +kernel
theorem dX12_isUnder_53 : decode cX12_isUnder 53 = .ok (.iload_n 0, 1) := by decide +kernel
theorem dX12_isUnder_54 : decode cX12_isUnder 54 = .ok (.iconst 3, 1) := by decide +kernel
theorem dX12_isUnder_55 : decode cX12_isUnder 55 = .ok (.if_icmp .eq 13, 3) := by decide +kernel
theorem dX12_isUnder_58 : decode cX12_isUnder 58 = .ok (.iload_n 0, 1) := by decide +kernel
theorem dX12_isUnder_59 : decode cX12_isUnder 59 = .ok (.iconst 4, 1) := by decide +kernel
theorem dX12_isUnder_60 : decode cX12_isUnder 60 = .ok (.if_icmp .eq 8, 3) := by decide +kernel
theorem dX12_isUnder_63 : decode cX12_isUnder 63 = .ok (.iload_n 0, 1) := by decide +kernel
theorem dX12_isUnder_64 : decode cX12_isUnder 64 = .ok (.iconst 5, 1) := by decide +kernel
theorem dX12_isUnder_65 : decode cX12_isUnder 65 = .ok (.if_icmp .ne 7, 3) := by decide +kernel
theorem dX12_isUnder_68 : decode cX12_isUnder 68 = .ok (.iconst 1, 1) := by decide +kernel
theorem dX12_isUnder_69 : decode cX12_isUnder 69 = .ok (.goto 4, 3) := by decide +kernel
theorem dX12_isUnder_72 : decode cX12_isUnder 72 = .ok (.iconst 0, 1) := by decide +kernel
theorem dX12_isUnder_73 : decode cX12_isUnder 73 = .ok (.ireturn, 1) := by decide +kernel
theorem dX12_isUnder_74 : decode cX12_isUnder 74 = .ok (.iload_n 1, 1) := by decide +kernel
theorem dX12_isUnder_75 : decode cX12_isUnder 75 = .ok (.iconst 4, 1) := by decide +kernel
theorem dX12_isUnder_76 : decode cX12_isUnder 76 = .ok (.if_icmp .ne 12, 3) := by decide +kernel
theorem dX12_isUnder_79 : decode cX12_isUnder 79 = .ok (.iload_n 0, 1) := by decide +kernel
theorem dX12_isUnder_80 : decode cX12_isUnder 80 = .ok (.iconst 5, 1) := by decide +kernel
theorem dX12_isUnder_81 : decode cX12_isUnder 81 = .ok (.if_icmp .ne 7, 3) := by decide +kernel
theorem dX12_isUnder_84 : decode cX12_isUnder 84 = .ok (.iconst 1, 1) := by decide +kernel
theorem dX12_isUnder_85 : decode cX12_isUnder 85 = .ok (.goto 4, 3) := by decide +kernel
theorem dX12_isUnder_88 : decode cX12_isUnder 88 = .ok (.iconst 0, 1) := by decide +kernel
theorem dX12_isUnder_89 : decode cX12_isUnder 89 = .ok (.ireturn, 1) := by decide +kernel
theorem dX12_isHole_0 : decode cX12_isHole 0 = .ok (.aload_n 0, 1) := by decide +kernel
theorem dX12_isHole_1 : decode cX12_isHole 1 = .ok (.iload_n 1, 1) := by decide +kernel
theorem dX12_isHole_2 : decode cX12_isHole 2 = .ok (.invokevirtual 245, 3) := by decide +kernel
theorem dX12_isHole_5 : decode cX12_isHole 5 = .ok (.ifCond .eq 20, 3) := by decide +kernel
theorem dX12_isHole_8 : decode cX12_isHole 8 = .ok (.aload_n 0, 1) := by decide +kernel
theorem dX12_isHole_9 : decode cX12_isHole 9 = .ok (.getfield 17, 3) := by decide +kernel
theorem dX12_isHole_12 : decode cX12_isHole 12 = .ok (.iload_n 1, 1) := by decide +kernel
theorem dX12_isHole_13 : decode cX12_isHole 13 = .ok (.iaload, 1) := by decide +kernel
theorem dX12_isHole_14 : decode cX12_isHole 14 = .ok (.iconst 2, 1) := by decide +kernel
theorem dX12_isHole_15 : decode cX12_isHole 15 = .ok (.invokestatic 248, 3) := by decide +kernel
theorem dX12_isHole_18 : decode cX12_isHole 18 = .ok (.ifCond .eq 7, 3) := by decide +kernel
theorem dX12_isHole_21 : decode cX12_isHole 21 = .ok (.iconst 1, 1) := by decide +kernel
theorem dX12_isHole_22 : decode cX12_isHole 22 = .ok (.goto 4, 3) := by decide +kernel
theorem dX12_isHole_25 : decode cX12_isHole 25 = .ok (.iconst 0, 1) := by decide +kernel
theorem dX12_isHole_26 : decode cX12_isHole 26 = .ok (.ireturn, 1) := by decide +kernel
theorem dX12_isMan_0 : decode cX12_isMan 0 = .ok (.aload_n 0, 1) := by decide +kernel
theorem dX12_isMan_1 : decode cX12_isMan 1 = .ok (.iload_n 1, 1) := by decide +kernel
theorem dX12_isMan_2 : decode cX12_isMan 2 = .ok (.invokevirtual 245, 3) := by decide +kernel
theorem dX12_isMan_5 : decode cX12_isMan 5 = .ok (.ifCond .eq 18, 3) := by decide +kernel
theorem dX12_isMan_8 : decode cX12_isMan 8 = .ok (.aload_n 0, 1) := by decide +kernel
theorem dX12_isMan_9 : decode cX12_isMan 9 = .ok (.getfield 17, 3) := by decide +kernel
theorem dX12_isMan_12 : decode cX12_isMan 12 = .ok (.iload_n 1, 1) := by decide +kernel
theorem dX12_isMan_13 : decode cX12_isMan 13 = .ok (.iaload, 1) := by decide +kernel
theorem dX12_isMan_14 : decode cX12_isMan 14 = .ok (.bipush 7, 2) := by decide +kernel
theorem dX12_isMan_16 : decode cX12_isMan 16 = .ok (.if_icmp .ne 7, 3) := by decide +kernel
theorem dX12_isMan_19 : decode cX12_isMan 19 = .ok (.iconst 1, 1) := by decide +kernel
theorem dX12_isMan_20 : decode cX12_isMan 20 = .ok (.goto 4, 3) := by decide +kernel
theorem dX12_isMan_23 : decode cX12_isMan 23 = .ok (.iconst 0, 1) := by decide +kernel
theorem dX12_isMan_24 : decode cX12_isMan 24 = .ok (.ireturn, 1) := by decide +kernel
theorem dX12_add_0 : decode cX12_add 0 = .ok (.aload_n 0, 1) := by decide +kernel
theorem dX12_add_1 : decode cX12_add 1 = .ok (.getfield 17, 3) := by decide +kernel
theorem dX12_add_4 : decode cX12_add 4 = .ok (.aload_n 0, 1) := by decide +kernel
theorem dX12_add_5 : decode cX12_add 5 = .ok (.getfield 242, 3) := by decide +kernel
theorem dX12_add_8 : decode cX12_add 8 = .ok (.iload_n 1, 1) := by decide +kernel
theorem dX12_add_9 : decode cX12_add 9 = .ok (.iastore, 1) := by decide +kernel
theorem dX12_add_10 : decode cX12_add 10 = .ok (.aload_n 0, 1) := by decide +kernel
theorem dX12_add_11 : decode cX12_add 11 = .ok (.dup, 1) := by decide +kernel
theorem dX12_add_12 : decode cX12_add 12 = .ok (.getfield 242, 3) := by decide +kernel
theorem dX12_add_15 : decode cX12_add 15 = .ok (.iconst 1, 1) := by decide +kernel
theorem dX12_add_16 : decode cX12_add 16 = .ok (.iadd, 1) := by decide +kernel
theorem dX12_add_17 : decode cX12_add 17 = .ok (.putfield 242, 3) := by decide +kernel
theorem dX12_add_20 : decode cX12_add 20 = .ok (.aload_n 0, 1) := by decide +kernel
theorem dX12_add_21 : decode cX12_add 21 = .ok (.getfield 242, 3) := by decide +kernel
theorem dX12_add_24 : decode cX12_add 24 = .ok (.iconst 1, 1) := by decide +kernel
theorem dX12_add_25 : decode cX12_add 25 = .ok (.isub, 1) := by decide +kernel
theorem dX12_add_26 : decode cX12_add 26 = .ok (.ireturn, 1) := by decide +kernel
theorem dX12_body_0 : decode cX12_body 0 = .ok (.iload_n 1, 1) := by decide +kernel
theorem dX12_body_1 : decode cX12_body 1 = .ok (.iconst 0, 1) := by decide +kernel
theorem dX12_body_2 : decode cX12_body 2 = .ok (.iconst 1, 1) := by decide +kernel
theorem dX12_body_3 : decode cX12_body 3 = .ok (.invokestatic 230, 3) := by decide +kernel
theorem dX12_body_6 : decode cX12_body 6 = .ok (.ifCond .ne 5, 3) := by decide +kernel
theorem dX12_body_9 : decode cX12_body 9 = .ok (.iconst (-1), 1) := by decide +kernel
theorem dX12_body_10 : decode cX12_body 10 = .ok (.ireturn, 1) := by decide +kernel
