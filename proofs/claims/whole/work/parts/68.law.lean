theorem d_L_law_0 : decode code 0 = .ok (.new 7, 3) := by decide +kernel
theorem d_L_law_3 : decode code 3 = .ok (.dup, 1) := by decide +kernel
theorem d_L_law_4 : decode code 4 = .ok (.invokespecial 9, 3) := by decide +kernel
theorem d_L_law_7 : decode code 7 = .ok (.astore_n 1, 1) := by decide +kernel
theorem d_L_law_8 : decode code 8 = .ok (.new 10, 3) := by decide +kernel
theorem d_L_law_11 : decode code 11 = .ok (.dup, 1) := by decide +kernel
theorem d_L_law_12 : decode code 12 = .ok (.invokespecial 12, 3) := by decide +kernel
theorem d_L_law_15 : decode code 15 = .ok (.astore_n 2, 1) := by decide +kernel
theorem d_L_law_16 : decode code 16 = .ok (.iconst 0, 1) := by decide +kernel
theorem d_L_law_17 : decode code 17 = .ok (.istore_n 3, 1) := by decide +kernel
theorem d_L_law_18 : decode code 18 = .ok (.iload_n 3, 1) := by decide +kernel
theorem d_L_law_19 : decode code 19 = .ok (.aload_n 0, 1) := by decide +kernel
theorem d_L_law_20 : decode code 20 = .ok (.arraylength, 1) := by decide +kernel
theorem d_L_law_21 : decode code 21 = .ok (.iconst 5, 1) := by decide +kernel
theorem d_L_law_22 : decode code 22 = .ok (.isub, 1) := by decide +kernel
theorem d_L_law_23 : decode code 23 = .ok (.if_icmp .gt 406, 3) := by decide +kernel
theorem d_L_law_26 : decode code 26 = .ok (.aload_n 0, 1) := by decide +kernel
theorem d_L_law_27 : decode code 27 = .ok (.iload_n 3, 1) := by decide +kernel
theorem d_L_law_28 : decode code 28 = .ok (.iaload, 1) := by decide +kernel
theorem d_L_law_29 : decode code 29 = .ok (.bipush 15, 2) := by decide +kernel
theorem d_L_law_31 : decode code 31 = .ok (.iand, 1) := by decide +kernel
theorem d_L_law_32 : decode code 32 = .ok (.tableswitch 391 0 12 #[68, 91, 102, 125, 178, 201, 214, 227, 260, 309, 332, 345, 368], 68) := by decide +kernel
theorem d_L_law_100 : decode code 100 = .ok (.aload_n 1, 1) := by decide +kernel
theorem d_L_law_101 : decode code 101 = .ok (.aload_n 0, 1) := by decide +kernel
theorem d_L_law_102 : decode code 102 = .ok (.iload_n 3, 1) := by decide +kernel
theorem d_L_law_103 : decode code 103 = .ok (.iconst 1, 1) := by decide +kernel
theorem d_L_law_104 : decode code 104 = .ok (.iadd, 1) := by decide +kernel
theorem d_L_law_105 : decode code 105 = .ok (.iaload, 1) := by decide +kernel
theorem d_L_law_106 : decode code 106 = .ok (.invokevirtual 13, 3) := by decide +kernel
theorem d_L_law_109 : decode code 109 = .ok (.aload_n 2, 1) := by decide +kernel
theorem d_L_law_110 : decode code 110 = .ok (.aload_n 0, 1) := by decide +kernel
theorem d_L_law_111 : decode code 111 = .ok (.iload_n 3, 1) := by decide +kernel
theorem d_L_law_112 : decode code 112 = .ok (.iconst 1, 1) := by decide +kernel
theorem d_L_law_113 : decode code 113 = .ok (.iadd, 1) := by decide +kernel
theorem d_L_law_114 : decode code 114 = .ok (.iaload, 1) := by decide +kernel
theorem d_L_law_115 : decode code 115 = .ok (.invokevirtual 17, 3) := by decide +kernel
theorem d_L_law_118 : decode code 118 = .ok (.if_icmp .eq 305, 3) := by decide +kernel
theorem d_L_law_121 : decode code 121 = .ok (.iconst 0, 1) := by decide +kernel
theorem d_L_law_122 : decode code 122 = .ok (.ireturn, 1) := by decide +kernel
theorem d_L_law_123 : decode code 123 = .ok (.aload_n 1, 1) := by decide +kernel
theorem d_L_law_124 : decode code 124 = .ok (.invokevirtual 18, 3) := by decide +kernel
theorem d_L_law_127 : decode code 127 = .ok (.aload_n 2, 1) := by decide +kernel
theorem d_L_law_128 : decode code 128 = .ok (.invokevirtual 21, 3) := by decide +kernel
theorem d_L_law_131 : decode code 131 = .ok (.goto 292, 3) := by decide +kernel
theorem d_L_law_134 : decode code 134 = .ok (.aload_n 1, 1) := by decide +kernel
theorem d_L_law_135 : decode code 135 = .ok (.aload_n 0, 1) := by decide +kernel
theorem d_L_law_136 : decode code 136 = .ok (.iload_n 3, 1) := by decide +kernel
theorem d_L_law_137 : decode code 137 = .ok (.iconst 1, 1) := by decide +kernel
theorem d_L_law_138 : decode code 138 = .ok (.iadd, 1) := by decide +kernel
theorem d_L_law_139 : decode code 139 = .ok (.iaload, 1) := by decide +kernel
theorem d_L_law_140 : decode code 140 = .ok (.invokevirtual 22, 3) := by decide +kernel
theorem d_L_law_143 : decode code 143 = .ok (.aload_n 2, 1) := by decide +kernel
theorem d_L_law_144 : decode code 144 = .ok (.aload_n 0, 1) := by decide +kernel
theorem d_L_law_145 : decode code 145 = .ok (.iload_n 3, 1) := by decide +kernel
theorem d_L_law_146 : decode code 146 = .ok (.iconst 1, 1) := by decide +kernel
theorem d_L_law_147 : decode code 147 = .ok (.iadd, 1) := by decide +kernel
theorem d_L_law_148 : decode code 148 = .ok (.iaload, 1) := by decide +kernel
theorem d_L_law_149 : decode code 149 = .ok (.invokevirtual 25, 3) := by decide +kernel
theorem d_L_law_152 : decode code 152 = .ok (.if_icmp .eq 271, 3) := by decide +kernel
theorem d_L_law_155 : decode code 155 = .ok (.iconst 0, 1) := by decide +kernel
theorem d_L_law_156 : decode code 156 = .ok (.ireturn, 1) := by decide +kernel
theorem d_L_law_157 : decode code 157 = .ok (.aload_n 1, 1) := by decide +kernel
theorem d_L_law_158 : decode code 158 = .ok (.aload_n 0, 1) := by decide +kernel
theorem d_L_law_159 : decode code 159 = .ok (.iload_n 3, 1) := by decide +kernel
theorem d_L_law_160 : decode code 160 = .ok (.iconst 1, 1) := by decide +kernel
theorem d_L_law_161 : decode code 161 = .ok (.iadd, 1) := by decide +kernel
theorem d_L_law_162 : decode code 162 = .ok (.iaload, 1) := by decide +kernel
theorem d_L_law_163 : decode code 163 = .ok (.aload_n 0, 1) := by decide +kernel
theorem d_L_law_164 : decode code 164 = .ok (.iload_n 3, 1) := by decide +kernel
theorem d_L_law_165 : decode code 165 = .ok (.iconst 2, 1) := by decide +kernel
theorem d_L_law_166 : decode code 166 = .ok (.iadd, 1) := by decide +kernel
theorem d_L_law_167 : decode code 167 = .ok (.iaload, 1) := by decide +kernel
theorem d_L_law_168 : decode code 168 = .ok (.aload_n 0, 1) := by decide +kernel
theorem d_L_law_169 : decode code 169 = .ok (.iload_n 3, 1) := by decide +kernel
theorem d_L_law_170 : decode code 170 = .ok (.iconst 3, 1) := by decide +kernel
theorem d_L_law_171 : decode code 171 = .ok (.iadd, 1) := by decide +kernel
theorem d_L_law_172 : decode code 172 = .ok (.iaload, 1) := by decide +kernel
theorem d_L_law_173 : decode code 173 = .ok (.aload_n 0, 1) := by decide +kernel
theorem d_L_law_174 : decode code 174 = .ok (.iload_n 3, 1) := by decide +kernel
theorem d_L_law_175 : decode code 175 = .ok (.iconst 4, 1) := by decide +kernel
theorem d_L_law_176 : decode code 176 = .ok (.iadd, 1) := by decide +kernel
theorem d_L_law_177 : decode code 177 = .ok (.iaload, 1) := by decide +kernel
theorem d_L_law_178 : decode code 178 = .ok (.invokevirtual 26, 3) := by decide +kernel
theorem d_L_law_181 : decode code 181 = .ok (.aload_n 2, 1) := by decide +kernel
theorem d_L_law_182 : decode code 182 = .ok (.aload_n 0, 1) := by decide +kernel
theorem d_L_law_183 : decode code 183 = .ok (.iload_n 3, 1) := by decide +kernel
theorem d_L_law_184 : decode code 184 = .ok (.iconst 1, 1) := by decide +kernel
theorem d_L_law_185 : decode code 185 = .ok (.iadd, 1) := by decide +kernel
theorem d_L_law_186 : decode code 186 = .ok (.iaload, 1) := by decide +kernel
theorem d_L_law_187 : decode code 187 = .ok (.aload_n 0, 1) := by decide +kernel
theorem d_L_law_188 : decode code 188 = .ok (.iload_n 3, 1) := by decide +kernel
theorem d_L_law_189 : decode code 189 = .ok (.iconst 2, 1) := by decide +kernel
theorem d_L_law_190 : decode code 190 = .ok (.iadd, 1) := by decide +kernel
theorem d_L_law_191 : decode code 191 = .ok (.iaload, 1) := by decide +kernel
theorem d_L_law_192 : decode code 192 = .ok (.aload_n 0, 1) := by decide +kernel
theorem d_L_law_193 : decode code 193 = .ok (.iload_n 3, 1) := by decide +kernel
theorem d_L_law_194 : decode code 194 = .ok (.iconst 3, 1) := by decide +kernel
theorem d_L_law_195 : decode code 195 = .ok (.iadd, 1) := by decide +kernel
theorem d_L_law_196 : decode code 196 = .ok (.iaload, 1) := by decide +kernel
theorem d_L_law_197 : decode code 197 = .ok (.aload_n 0, 1) := by decide +kernel
theorem d_L_law_198 : decode code 198 = .ok (.iload_n 3, 1) := by decide +kernel
theorem d_L_law_199 : decode code 199 = .ok (.iconst 4, 1) := by decide +kernel
theorem d_L_law_200 : decode code 200 = .ok (.iadd, 1) := by decide +kernel
theorem d_L_law_201 : decode code 201 = .ok (.iaload, 1) := by decide +kernel
theorem d_L_law_202 : decode code 202 = .ok (.invokevirtual 30, 3) := by decide +kernel
theorem d_L_law_205 : decode code 205 = .ok (.if_icmp .eq 218, 3) := by decide +kernel
theorem d_L_law_208 : decode code 208 = .ok (.iconst 0, 1) := by decide +kernel
theorem d_L_law_209 : decode code 209 = .ok (.ireturn, 1) := by decide +kernel
theorem d_L_law_210 : decode code 210 = .ok (.aload_n 1, 1) := by decide +kernel
theorem d_L_law_211 : decode code 211 = .ok (.aload_n 0, 1) := by decide +kernel
theorem d_L_law_212 : decode code 212 = .ok (.iload_n 3, 1) := by decide +kernel
theorem d_L_law_213 : decode code 213 = .ok (.iconst 1, 1) := by decide +kernel
theorem d_L_law_214 : decode code 214 = .ok (.iadd, 1) := by decide +kernel
theorem d_L_law_215 : decode code 215 = .ok (.iaload, 1) := by decide +kernel
theorem d_L_law_216 : decode code 216 = .ok (.invokevirtual 31, 3) := by decide +kernel
theorem d_L_law_219 : decode code 219 = .ok (.aload_n 2, 1) := by decide +kernel
theorem d_L_law_220 : decode code 220 = .ok (.aload_n 0, 1) := by decide +kernel
theorem d_L_law_221 : decode code 221 = .ok (.iload_n 3, 1) := by decide +kernel
theorem d_L_law_222 : decode code 222 = .ok (.iconst 1, 1) := by decide +kernel
theorem d_L_law_223 : decode code 223 = .ok (.iadd, 1) := by decide +kernel
theorem d_L_law_224 : decode code 224 = .ok (.iaload, 1) := by decide +kernel
theorem d_L_law_225 : decode code 225 = .ok (.invokevirtual 35, 3) := by decide +kernel
theorem d_L_law_228 : decode code 228 = .ok (.if_icmp .eq 195, 3) := by decide +kernel
theorem d_L_law_231 : decode code 231 = .ok (.iconst 0, 1) := by decide +kernel
theorem d_L_law_232 : decode code 232 = .ok (.ireturn, 1) := by decide +kernel
theorem d_L_law_233 : decode code 233 = .ok (.aload_n 1, 1) := by decide +kernel
theorem d_L_law_234 : decode code 234 = .ok (.invokevirtual 36, 3) := by decide +kernel
theorem d_L_law_237 : decode code 237 = .ok (.aload_n 2, 1) := by decide +kernel
theorem d_L_law_238 : decode code 238 = .ok (.invokevirtual 40, 3) := by decide +kernel
theorem d_L_law_241 : decode code 241 = .ok (.if_icmp .eq 182, 3) := by decide +kernel
theorem d_L_law_244 : decode code 244 = .ok (.iconst 0, 1) := by decide +kernel
theorem d_L_law_245 : decode code 245 = .ok (.ireturn, 1) := by decide +kernel
theorem d_L_law_246 : decode code 246 = .ok (.aload_n 1, 1) := by decide +kernel
theorem d_L_law_247 : decode code 247 = .ok (.invokevirtual 41, 3) := by decide +kernel
theorem d_L_law_250 : decode code 250 = .ok (.aload_n 2, 1) := by decide +kernel
theorem d_L_law_251 : decode code 251 = .ok (.invokevirtual 44, 3) := by decide +kernel
theorem d_L_law_254 : decode code 254 = .ok (.if_icmp .eq 169, 3) := by decide +kernel
theorem d_L_law_257 : decode code 257 = .ok (.iconst 0, 1) := by decide +kernel
theorem d_L_law_258 : decode code 258 = .ok (.ireturn, 1) := by decide +kernel
theorem d_L_law_259 : decode code 259 = .ok (.aload_n 1, 1) := by decide +kernel
theorem d_L_law_260 : decode code 260 = .ok (.aload_n 0, 1) := by decide +kernel
theorem d_L_law_261 : decode code 261 = .ok (.iload_n 3, 1) := by decide +kernel
theorem d_L_law_262 : decode code 262 = .ok (.iconst 1, 1) := by decide +kernel
theorem d_L_law_263 : decode code 263 = .ok (.iadd, 1) := by decide +kernel
theorem d_L_law_264 : decode code 264 = .ok (.iaload, 1) := by decide +kernel
theorem d_L_law_265 : decode code 265 = .ok (.aload_n 0, 1) := by decide +kernel
theorem d_L_law_266 : decode code 266 = .ok (.iload_n 3, 1) := by decide +kernel
theorem d_L_law_267 : decode code 267 = .ok (.iconst 2, 1) := by decide +kernel
theorem d_L_law_268 : decode code 268 = .ok (.iadd, 1) := by decide +kernel
theorem d_L_law_269 : decode code 269 = .ok (.iaload, 1) := by decide +kernel
theorem d_L_law_270 : decode code 270 = .ok (.invokevirtual 45, 3) := by decide +kernel
theorem d_L_law_273 : decode code 273 = .ok (.aload_n 2, 1) := by decide +kernel
theorem d_L_law_274 : decode code 274 = .ok (.aload_n 0, 1) := by decide +kernel
theorem d_L_law_275 : decode code 275 = .ok (.iload_n 3, 1) := by decide +kernel
theorem d_L_law_276 : decode code 276 = .ok (.iconst 1, 1) := by decide +kernel
theorem d_L_law_277 : decode code 277 = .ok (.iadd, 1) := by decide +kernel
theorem d_L_law_278 : decode code 278 = .ok (.iaload, 1) := by decide +kernel
theorem d_L_law_279 : decode code 279 = .ok (.aload_n 0, 1) := by decide +kernel
theorem d_L_law_280 : decode code 280 = .ok (.iload_n 3, 1) := by decide +kernel
theorem d_L_law_281 : decode code 281 = .ok (.iconst 2, 1) := by decide +kernel
theorem d_L_law_282 : decode code 282 = .ok (.iadd, 1) := by decide +kernel
theorem d_L_law_283 : decode code 283 = .ok (.iaload, 1) := by decide +kernel
theorem d_L_law_284 : decode code 284 = .ok (.invokevirtual 49, 3) := by decide +kernel
theorem d_L_law_287 : decode code 287 = .ok (.if_icmp .eq 136, 3) := by decide +kernel
theorem d_L_law_290 : decode code 290 = .ok (.iconst 0, 1) := by decide +kernel
theorem d_L_law_291 : decode code 291 = .ok (.ireturn, 1) := by decide +kernel
theorem d_L_law_292 : decode code 292 = .ok (.aload_n 1, 1) := by decide +kernel
theorem d_L_law_293 : decode code 293 = .ok (.aload_n 0, 1) := by decide +kernel
theorem d_L_law_294 : decode code 294 = .ok (.iload_n 3, 1) := by decide +kernel
theorem d_L_law_295 : decode code 295 = .ok (.iconst 1, 1) := by decide +kernel
theorem d_L_law_296 : decode code 296 = .ok (.iadd, 1) := by decide +kernel
theorem d_L_law_297 : decode code 297 = .ok (.iaload, 1) := by decide +kernel
theorem d_L_law_298 : decode code 298 = .ok (.aload_n 0, 1) := by decide +kernel
theorem d_L_law_299 : decode code 299 = .ok (.iload_n 3, 1) := by decide +kernel
theorem d_L_law_300 : decode code 300 = .ok (.iconst 2, 1) := by decide +kernel
theorem d_L_law_301 : decode code 301 = .ok (.iadd, 1) := by decide +kernel
theorem d_L_law_302 : decode code 302 = .ok (.iaload, 1) := by decide +kernel
theorem d_L_law_303 : decode code 303 = .ok (.ifCond .eq 7, 3) := by decide +kernel
theorem d_L_law_306 : decode code 306 = .ok (.iconst 1, 1) := by decide +kernel
theorem d_L_law_307 : decode code 307 = .ok (.goto 4, 3) := by decide +kernel
theorem d_L_law_310 : decode code 310 = .ok (.iconst 0, 1) := by decide +kernel
theorem d_L_law_311 : decode code 311 = .ok (.invokevirtual 50, 3) := by decide +kernel
theorem d_L_law_314 : decode code 314 = .ok (.aload_n 2, 1) := by decide +kernel
theorem d_L_law_315 : decode code 315 = .ok (.aload_n 0, 1) := by decide +kernel
theorem d_L_law_316 : decode code 316 = .ok (.iload_n 3, 1) := by decide +kernel
theorem d_L_law_317 : decode code 317 = .ok (.iconst 1, 1) := by decide +kernel
theorem d_L_law_318 : decode code 318 = .ok (.iadd, 1) := by decide +kernel
theorem d_L_law_319 : decode code 319 = .ok (.iaload, 1) := by decide +kernel
theorem d_L_law_320 : decode code 320 = .ok (.aload_n 0, 1) := by decide +kernel
theorem d_L_law_321 : decode code 321 = .ok (.iload_n 3, 1) := by decide +kernel
theorem d_L_law_322 : decode code 322 = .ok (.iconst 2, 1) := by decide +kernel
theorem d_L_law_323 : decode code 323 = .ok (.iadd, 1) := by decide +kernel
theorem d_L_law_324 : decode code 324 = .ok (.iaload, 1) := by decide +kernel
theorem d_L_law_325 : decode code 325 = .ok (.ifCond .eq 7, 3) := by decide +kernel
theorem d_L_law_328 : decode code 328 = .ok (.iconst 1, 1) := by decide +kernel
theorem d_L_law_329 : decode code 329 = .ok (.goto 4, 3) := by decide +kernel
theorem d_L_law_332 : decode code 332 = .ok (.iconst 0, 1) := by decide +kernel
theorem d_L_law_333 : decode code 333 = .ok (.invokevirtual 54, 3) := by decide +kernel
theorem d_L_law_336 : decode code 336 = .ok (.if_icmp .eq 87, 3) := by decide +kernel
theorem d_L_law_339 : decode code 339 = .ok (.iconst 0, 1) := by decide +kernel
theorem d_L_law_340 : decode code 340 = .ok (.ireturn, 1) := by decide +kernel
theorem d_L_law_341 : decode code 341 = .ok (.aload_n 1, 1) := by decide +kernel
theorem d_L_law_342 : decode code 342 = .ok (.aload_n 0, 1) := by decide +kernel
theorem d_L_law_343 : decode code 343 = .ok (.iload_n 3, 1) := by decide +kernel
theorem d_L_law_344 : decode code 344 = .ok (.iconst 1, 1) := by decide +kernel
theorem d_L_law_345 : decode code 345 = .ok (.iadd, 1) := by decide +kernel
theorem d_L_law_346 : decode code 346 = .ok (.iaload, 1) := by decide +kernel
theorem d_L_law_347 : decode code 347 = .ok (.invokevirtual 55, 3) := by decide +kernel
theorem d_L_law_350 : decode code 350 = .ok (.aload_n 2, 1) := by decide +kernel
theorem d_L_law_351 : decode code 351 = .ok (.aload_n 0, 1) := by decide +kernel
theorem d_L_law_352 : decode code 352 = .ok (.iload_n 3, 1) := by decide +kernel
theorem d_L_law_353 : decode code 353 = .ok (.iconst 1, 1) := by decide +kernel
theorem d_L_law_354 : decode code 354 = .ok (.iadd, 1) := by decide +kernel
theorem d_L_law_355 : decode code 355 = .ok (.iaload, 1) := by decide +kernel
theorem d_L_law_356 : decode code 356 = .ok (.invokevirtual 58, 3) := by decide +kernel
theorem d_L_law_359 : decode code 359 = .ok (.if_icmp .eq 64, 3) := by decide +kernel
theorem d_L_law_362 : decode code 362 = .ok (.iconst 0, 1) := by decide +kernel
theorem d_L_law_363 : decode code 363 = .ok (.ireturn, 1) := by decide +kernel
theorem d_L_law_364 : decode code 364 = .ok (.aload_n 1, 1) := by decide +kernel
theorem d_L_law_365 : decode code 365 = .ok (.invokevirtual 59, 3) := by decide +kernel
theorem d_L_law_368 : decode code 368 = .ok (.aload_n 2, 1) := by decide +kernel
theorem d_L_law_369 : decode code 369 = .ok (.invokevirtual 62, 3) := by decide +kernel
theorem d_L_law_372 : decode code 372 = .ok (.if_icmp .eq 51, 3) := by decide +kernel
theorem d_L_law_375 : decode code 375 = .ok (.iconst 0, 1) := by decide +kernel
theorem d_L_law_376 : decode code 376 = .ok (.ireturn, 1) := by decide +kernel
theorem d_L_law_377 : decode code 377 = .ok (.aload_n 1, 1) := by decide +kernel
theorem d_L_law_378 : decode code 378 = .ok (.aload_n 0, 1) := by decide +kernel
theorem d_L_law_379 : decode code 379 = .ok (.iload_n 3, 1) := by decide +kernel
theorem d_L_law_380 : decode code 380 = .ok (.iconst 1, 1) := by decide +kernel
theorem d_L_law_381 : decode code 381 = .ok (.iadd, 1) := by decide +kernel
theorem d_L_law_382 : decode code 382 = .ok (.iaload, 1) := by decide +kernel
theorem d_L_law_383 : decode code 383 = .ok (.invokevirtual 63, 3) := by decide +kernel
theorem d_L_law_386 : decode code 386 = .ok (.aload_n 2, 1) := by decide +kernel
theorem d_L_law_387 : decode code 387 = .ok (.aload_n 0, 1) := by decide +kernel
theorem d_L_law_388 : decode code 388 = .ok (.iload_n 3, 1) := by decide +kernel
theorem d_L_law_389 : decode code 389 = .ok (.iconst 1, 1) := by decide +kernel
theorem d_L_law_390 : decode code 390 = .ok (.iadd, 1) := by decide +kernel
theorem d_L_law_391 : decode code 391 = .ok (.iaload, 1) := by decide +kernel
theorem d_L_law_392 : decode code 392 = .ok (.invokevirtual 66, 3) := by decide +kernel
theorem d_L_law_395 : decode code 395 = .ok (.if_icmp .eq 28, 3) := by decide +kernel
theorem d_L_law_398 : decode code 398 = .ok (.iconst 0, 1) := by decide +kernel
theorem d_L_law_399 : decode code 399 = .ok (.ireturn, 1) := by decide +kernel
theorem d_L_law_400 : decode code 400 = .ok (.aload_n 1, 1) := by decide +kernel
theorem d_L_law_401 : decode code 401 = .ok (.aload_n 0, 1) := by decide +kernel
theorem d_L_law_402 : decode code 402 = .ok (.iload_n 3, 1) := by decide +kernel
theorem d_L_law_403 : decode code 403 = .ok (.iconst 1, 1) := by decide +kernel
theorem d_L_law_404 : decode code 404 = .ok (.iadd, 1) := by decide +kernel
theorem d_L_law_405 : decode code 405 = .ok (.iaload, 1) := by decide +kernel
theorem d_L_law_406 : decode code 406 = .ok (.invokevirtual 67, 3) := by decide +kernel
theorem d_L_law_409 : decode code 409 = .ok (.aload_n 2, 1) := by decide +kernel
theorem d_L_law_410 : decode code 410 = .ok (.aload_n 0, 1) := by decide +kernel
theorem d_L_law_411 : decode code 411 = .ok (.iload_n 3, 1) := by decide +kernel
theorem d_L_law_412 : decode code 412 = .ok (.iconst 1, 1) := by decide +kernel
theorem d_L_law_413 : decode code 413 = .ok (.iadd, 1) := by decide +kernel
theorem d_L_law_414 : decode code 414 = .ok (.iaload, 1) := by decide +kernel
theorem d_L_law_415 : decode code 415 = .ok (.invokevirtual 70, 3) := by decide +kernel
theorem d_L_law_418 : decode code 418 = .ok (.if_icmp .eq 5, 3) := by decide +kernel
theorem d_L_law_421 : decode code 421 = .ok (.iconst 0, 1) := by decide +kernel
theorem d_L_law_422 : decode code 422 = .ok (.ireturn, 1) := by decide +kernel
theorem d_L_law_423 : decode code 423 = .ok (.iinc 3 5, 3) := by decide +kernel
theorem d_L_law_426 : decode code 426 = .ok (.goto (-408), 3) := by decide +kernel
theorem d_L_law_429 : decode code 429 = .ok (.iconst 1, 1) := by decide +kernel
theorem d_L_law_430 : decode code 430 = .ok (.ireturn, 1) := by decide +kernel

set_option maxHeartbeats 40000000 in
set_option maxRecDepth 100000 in
theorem law_loop {p : Program} {e : Env} {s : State} {m : MethodId} {args : Array Value} {below : List Frame} {meth : Method} {c : Code} (l : Launch) (E : kE) (A : Nat → Prop) (Q : State → Prop) {b L : Nat} {xs : Nat → Int32} (hL : L ≤ 2560) (hx : p.tables.exec = Jvm.exec) (hb : c.code = code) (hts : ∀ w ∈ kT, w.before args s = true) (hown : s.vm.findClass "WideStackLaw" = some m.cls) (hml : c.maxLocals = 4) (hK : va_K E.1 vwCl (kY E) s) (hG : kG E A s) (hA : ∀ q : Nat, s.heap.size ≤ q → A q) (hX : va_X b L xs s s.heap) (hbl : b < s.heap.size) (hbA : ¬ A b) (hret : ∀ (H : Heap) (locs : List Loc) (ls : Array Slot), va_S A s.heap H locs → W p l e room_1 s m args below meth c H locs 49 1936 Q (F0 m 430 ls [.int (nI 1)])) (mo mb mm mw mh ml : Nat) (ad ra : Nat → Nat) (n0 : Nat) (i : Nat) (sb on ay : Bool) (fh fl fn : Nat → Int32) (w0 : xSS) (len : Nat) (lat nxt : Int32) (fb fg ff : Nat → Int32) (bb nb : Nat → Nat) (y0 : rS) (fM lM : Nat → Int32) (hc hm : Nat → Nat) (H : Heap) (locs : List Loc) (ls : Array Slot) (hn0 : L ≤ i + n0) (hI0 : lwI sb on ay w0 y0 len bb nb lat nxt fb fg ff hc hm fh fM ∧ i ≤ L) (hl : lv_has ls 4 [(3, .int (nI i)), (0, .ref b), (1, .ref (ad 0)), (2, .ref mo)]) (hP : va_P E.1 vwCl ([(mo, .inr (8, [.int (nI len), .ref mb, .int (kb on), .int (nI y0.1.1), .int (nI y0.1.2.1), .int (nI y0.1.2.2.1), .int (nI y0.1.2.2.2.1), .int (nI y0.1.2.2.2.2.1), .int (nI y0.2.1), .int (nI y0.1.2.2.2.2.2.2.1), .ref mm, .ref mw, .ref mh, .ref ml, .int (kb ay)])), (mb, .inl (E.2.1 0, 96, .inl (nF nb))), (mm, .inl (E.2.1 0, 160, .inl (nF y0.1.2.2.2.2.2.2.2.2))), (mw, .inl (E.2.1 0, 370, .inl (nF y0.2.2))), (mh, .inl (E.2.1 0, 144, .inl fM)), (ml, .inl (E.2.1 1, 144, .inl lM))] ++ cW E ad ra sb fh fl fn w0 len lat nxt fb fg ff) H) (hD : va_D A ([(mo, .inr (8, [.int (nI len), .ref mb, .int (kb on), .int (nI y0.1.1), .int (nI y0.1.2.1), .int (nI y0.1.2.2.1), .int (nI y0.1.2.2.2.1), .int (nI y0.1.2.2.2.2.1), .int (nI y0.2.1), .int (nI y0.1.2.2.2.2.2.2.1), .ref mm, .ref mw, .ref mh, .ref ml, .int (kb ay)])), (mb, .inl (E.2.1 0, 96, .inl (nF nb))), (mm, .inl (E.2.1 0, 160, .inl (nF y0.1.2.2.2.2.2.2.2.2))), (mw, .inl (E.2.1 0, 370, .inl (nF y0.2.2))), (mh, .inl (E.2.1 0, 144, .inl fM)), (ml, .inl (E.2.1 1, 144, .inl lM))] ++ cW E ad ra sb fh fl fn w0 len lat nxt fb fg ff)) (hS : va_S A s.heap H locs) : W p l e room_1 s m args below meth c H locs 49 1936 Q (F0 m 18 ls []) := by
  have key18 : ∀ (n : Nat) (i : Nat) (sb on ay : Bool) (fh fl fn : Nat → Int32) (w0 : xSS) (len : Nat) (lat nxt : Int32) (fb fg ff : Nat → Int32) (bb nb : Nat → Nat) (y0 : rS) (fM lM : Nat → Int32) (hc hm : Nat → Nat) (H : Heap) (locs : List Loc) (ls : Array Slot), L ≤ i + n → (lwI sb on ay w0 y0 len bb nb lat nxt fb fg ff hc hm fh fM ∧ i ≤ L) → lv_has ls 4 [(3, .int (nI i)), (0, .ref b), (1, .ref (ad 0)), (2, .ref mo)] → va_P E.1 vwCl ([(mo, .inr (8, [.int (nI len), .ref mb, .int (kb on), .int (nI y0.1.1), .int (nI y0.1.2.1), .int (nI y0.1.2.2.1), .int (nI y0.1.2.2.2.1), .int (nI y0.1.2.2.2.2.1), .int (nI y0.2.1), .int (nI y0.1.2.2.2.2.2.2.1), .ref mm, .ref mw, .ref mh, .ref ml, .int (kb ay)])), (mb, .inl (E.2.1 0, 96, .inl (nF nb))), (mm, .inl (E.2.1 0, 160, .inl (nF y0.1.2.2.2.2.2.2.2.2))), (mw, .inl (E.2.1 0, 370, .inl (nF y0.2.2))), (mh, .inl (E.2.1 0, 144, .inl fM)), (ml, .inl (E.2.1 1, 144, .inl lM))] ++ cW E ad ra sb fh fl fn w0 len lat nxt fb fg ff) H → va_D A ([(mo, .inr (8, [.int (nI len), .ref mb, .int (kb on), .int (nI y0.1.1), .int (nI y0.1.2.1), .int (nI y0.1.2.2.1), .int (nI y0.1.2.2.2.1), .int (nI y0.1.2.2.2.2.1), .int (nI y0.2.1), .int (nI y0.1.2.2.2.2.2.2.1), .ref mm, .ref mw, .ref mh, .ref ml, .int (kb ay)])), (mb, .inl (E.2.1 0, 96, .inl (nF nb))), (mm, .inl (E.2.1 0, 160, .inl (nF y0.1.2.2.2.2.2.2.2.2))), (mw, .inl (E.2.1 0, 370, .inl (nF y0.2.2))), (mh, .inl (E.2.1 0, 144, .inl fM)), (ml, .inl (E.2.1 1, 144, .inl lM))] ++ cW E ad ra sb fh fl fn w0 len lat nxt fb fg ff) → va_S A s.heap H locs → W p l e room_1 s m args below meth c H locs 49 1936 Q (F0 m 18 ls []) := by
    intro n
    induction n using Nat.strongRecOn with
    | ind n ih =>
      intro i sb on ay fh fl fn w0 len lat nxt fb fg ff bb nb y0 fM lM hc hm H locs ls hn hI hl hP hD hS
      obtain ⟨I, hiL⟩ := hI
      have ok := I.2.2.1
      have okb := I.2.2.2.1
      refine lv_iload_n hx hb d_L_law_18 rfl (lv_at hl 0 rfl) ?_
      refine lv_aload_n hx hb d_L_law_19 rfl (lv_at hl 1 rfl) ?_
      refine va_slen hx hb hX hbl hbA hS d_L_law_20 ?_
      refine lv_iconst (v := nI 5) hx hb d_L_law_21 (by decide) ?_
      by_cases hL5 : 5 ≤ L
      · skip
        refine lv_isub hx hb d_L_law_22 ?_
        refine k_top (pk_sub hL5) ?_
        refine kn_gt (tgt := 429) hx hb (by omega) (by omega) d_L_law_23 (by decide) (fun h23 => ?_) (fun h23 => ?_)
        · refine lv_iconst (v := nI 1) hx hb d_L_law_429 (by decide) ?_
          exact hret _ _ ls hS
        · refine lv_aload_n hx hb d_L_law_26 rfl (lv_at hl 1 rfl) ?_
          refine lv_iload_n hx hb d_L_law_27 rfl (lv_at hl 0 rfl) ?_
          refine va_sld hx hb hX hbl hbA hS (i := nI i) (vp_in_nI (by omega) (by omega)) d_L_law_28 ?_
          refine k_top (congrArg xs (nI_clamp (by omega))) ?_
          refine lv_bipush (v := nI 15) hx hb d_L_law_29 (by decide) ?_
          refine lv_iand hx hb d_L_law_31 ?_
          obtain ⟨o, ho, heq⟩ := pk_andE (xs i) (m := nI 15) 4 (by decide)
          refine k_top heq ?_
          rcases (by omega : o = 0 ∨ o = 1 ∨ o = 2 ∨ o = 3 ∨ o = 4 ∨ o = 5 ∨ o = 6 ∨ o = 7 ∨ o = 8 ∨ o = 9 ∨ o = 10 ∨ o = 11 ∨ o = 12 ∨ o = 13 ∨ o = 14 ∨ o = 15) with rfl | rfl | rfl | rfl | rfl | rfl | rfl | rfl | rfl | rfl | rfl | rfl | rfl | rfl | rfl | rfl
          · refine lv_tableIn (off := 68) (tgt := 100) hx hb d_L_law_32 (by decide) (by decide) (by decide) (by decide) ?_
            refine lv_aload_n hx hb d_L_law_100 rfl (lv_at hl 2 rfl) ?_
            refine lv_aload_n hx hb d_L_law_101 rfl (lv_at hl 1 rfl) ?_
            refine lv_iload_n hx hb d_L_law_102 rfl (lv_at hl 0 rfl) ?_
            refine lv_iconst (v := nI 1) hx hb d_L_law_103 (by decide) ?_
            refine lv_iadd hx hb d_L_law_104 ?_
            refine k_top (nI_add _ _) ?_
            refine va_sld hx hb hX hbl hbA hS (i := nI (i + 1)) (vp_in_nI (by omega) (by omega)) d_L_law_105 ?_
            refine k_top (congrArg xs (nI_clamp (by omega))) ?_
            have hcon := X_code l E ad ra sb fh fl fn w0 len lat nxt fb fg ff bb ok (xs (i + 1))
            refine k_ViF (rm := rm_c_X_code) (Z := [(mo, .inr (8, [.int (nI len), .ref mb, .int (kb on), .int (nI y0.1.1), .int (nI y0.1.2.1), .int (nI y0.1.2.2.1), .int (nI y0.1.2.2.2.1), .int (nI y0.1.2.2.2.2.1), .int (nI y0.2.1), .int (nI y0.1.2.2.2.2.2.2.1), .ref mm, .ref mw, .ref mh, .ref ml, .int (kb ay)])), (mb, .inl (E.2.1 0, 96, .inl (nF nb))), (mm, .inl (E.2.1 0, 160, .inl (nF y0.1.2.2.2.2.2.2.2.2))), (mw, .inl (E.2.1 0, 370, .inl (nF y0.2.2))), (mh, .inl (E.2.1 0, 144, .inl fM)), (ml, .inl (E.2.1 1, 144, .inl lM))]) (T := cW E ad ra sb fh fl fn w0 len lat nxt fb fg ff) (As := [.int (xs (i + 1))]) (rest := []) ⟨hx, hb, hml, hown, hts⟩ hcon (k_cwV 1 hts t_255 t_256 t_257 t_62 t_258 (by decide +kernel) ⟨Nat.le_of_ble_eq_true rfl, Nat.le_of_ble_eq_true rfl⟩) hK hG hA hP hD hS 0 rfl rfl (by exact fun _ => cW_fst) rfl hl.1 rfl (Nat.le_of_ble_eq_true rfl) d_L_law_106 ⟨Nat.le_of_ble_eq_true rfl, Nat.le_of_ble_eq_true rfl⟩ (fun r1 u1 H locs hu1 hP hD hS => ?_)
            have hP : va_P E.1 vwCl ([(mo, .inr (8, [.int (nI len), .ref mb, .int (kb on), .int (nI y0.1.1), .int (nI y0.1.2.1), .int (nI y0.1.2.2.1), .int (nI y0.1.2.2.2.1), .int (nI y0.1.2.2.2.2.1), .int (nI y0.2.1), .int (nI y0.1.2.2.2.2.2.2.1), .ref mm, .ref mw, .ref mh, .ref ml, .int (kb ay)])), (mb, .inl (E.2.1 0, 96, .inl (nF nb))), (mm, .inl (E.2.1 0, 160, .inl (nF y0.1.2.2.2.2.2.2.2.2))), (mw, .inl (E.2.1 0, 370, .inl (nF y0.2.2))), (mh, .inl (E.2.1 0, 144, .inl fM)), (ml, .inl (E.2.1 1, 144, .inl lM))] ++ cW E ad ra sb fh fl fn w0 u1.2.2.2.1 u1.2.2.2.2.1 u1.2.2.2.2.2 u1.1 u1.2.1 u1.2.2.1) H := hP
            have hD : va_D A ([(mo, .inr (8, [.int (nI len), .ref mb, .int (kb on), .int (nI y0.1.1), .int (nI y0.1.2.1), .int (nI y0.1.2.2.1), .int (nI y0.1.2.2.2.1), .int (nI y0.1.2.2.2.2.1), .int (nI y0.2.1), .int (nI y0.1.2.2.2.2.2.2.1), .ref mm, .ref mw, .ref mh, .ref ml, .int (kb ay)])), (mb, .inl (E.2.1 0, 96, .inl (nF nb))), (mm, .inl (E.2.1 0, 160, .inl (nF y0.1.2.2.2.2.2.2.2.2))), (mw, .inl (E.2.1 0, 370, .inl (nF y0.2.2))), (mh, .inl (E.2.1 0, 144, .inl fM)), (ml, .inl (E.2.1 1, 144, .inl lM))] ++ cW E ad ra sb fh fl fn w0 u1.2.2.2.1 u1.2.2.2.2.1 u1.2.2.2.2.2 u1.1 u1.2.1 u1.2.2.1) := hD
            refine lv_aload_n hx hb d_L_law_109 rfl (lv_at hl 3 rfl) ?_
            refine lv_aload_n hx hb d_L_law_110 rfl (lv_at hl 1 rfl) ?_
            refine lv_iload_n hx hb d_L_law_111 rfl (lv_at hl 0 rfl) ?_
            refine lv_iconst (v := nI 1) hx hb d_L_law_112 (by decide) ?_
            refine lv_iadd hx hb d_L_law_113 ?_
            refine k_top (nI_add _ _) ?_
            refine va_sld hx hb hX hbl hbA hS (i := nI (i + 1)) (vp_in_nI (by omega) (by omega)) d_L_law_114 ?_
            refine k_top (congrArg xs (nI_clamp (by omega))) ?_
            refine k_Vi (As := [.int (xs (i + 1))]) (rest := [.int r1]) ⟨hx, hb, hml, hown, hts⟩ (c_MX_code l E mo mb mm mw mh ml on ay y0 len nb bb okb fM lM (xs (i + 1))) (k_cwV 1 hts t_793 t_794 t_795 t_71 t_796 (by decide +kernel) ⟨Nat.le_of_ble_eq_true rfl, Nat.le_of_ble_eq_true rfl⟩) hK hG hA hP hD hS [0, 1, 2, 3, 4, 5] rfl (by decide) 0 rfl rfl (fun _ => rfl) rfl hl.1 rfl (Nat.le_of_ble_eq_true rfl) d_L_law_115 ⟨Nat.le_of_ble_eq_true rfl, Nat.le_of_ble_eq_true rfl⟩ (fun r2 u2 H locs hu2 hP hD hS => ?_)
            have hP : va_P E.1 vwCl ([(mo, .inr (8, [.int (nI u2.1), .ref mb, .int (kb on), .int (nI y0.1.1), .int (nI y0.1.2.1), .int (nI y0.1.2.2.1), .int (nI y0.1.2.2.2.1), .int (nI y0.1.2.2.2.2.1), .int (nI y0.2.1), .int (nI y0.1.2.2.2.2.2.2.1), .ref mm, .ref mw, .ref mh, .ref ml, .int (kb ay)])), (mb, .inl (E.2.1 0, 96, .inl (nF u2.2))), (mm, .inl (E.2.1 0, 160, .inl (nF y0.1.2.2.2.2.2.2.2.2))), (mw, .inl (E.2.1 0, 370, .inl (nF y0.2.2))), (mh, .inl (E.2.1 0, 144, .inl fM)), (ml, .inl (E.2.1 1, 144, .inl lM))] ++ cW E ad ra sb fh fl fn w0 u1.2.2.2.1 u1.2.2.2.2.1 u1.2.2.2.2.2 u1.1 u1.2.1 u1.2.2.1) H := hP
            have hD : va_D A ([(mo, .inr (8, [.int (nI u2.1), .ref mb, .int (kb on), .int (nI y0.1.1), .int (nI y0.1.2.1), .int (nI y0.1.2.2.1), .int (nI y0.1.2.2.2.1), .int (nI y0.1.2.2.2.2.1), .int (nI y0.2.1), .int (nI y0.1.2.2.2.2.2.2.1), .ref mm, .ref mw, .ref mh, .ref ml, .int (kb ay)])), (mb, .inl (E.2.1 0, 96, .inl (nF u2.2))), (mm, .inl (E.2.1 0, 160, .inl (nF y0.1.2.2.2.2.2.2.2.2))), (mw, .inl (E.2.1 0, 370, .inl (nF y0.2.2))), (mh, .inl (E.2.1 0, 144, .inl fM)), (ml, .inl (E.2.1 1, 144, .inl lM))] ++ cW E ad ra sb fh fl fn w0 u1.2.2.2.1 u1.2.2.2.2.1 u1.2.2.2.2.2 u1.1 u1.2.1 u1.2.2.1) := hD
            obtain ⟨L2, nb2⟩ := u2
            obtain ⟨hr, bb2, hl2, I2⟩ := lw_code I hu1 hu2
            replace hl2 : L2 = u1.2.2.2.1 := hl2
            clear hu1 hu2
            subst hl2
            have hP : va_P E.1 vwCl ([(mo, .inr (8, [.int (nI u1.2.2.2.1), .ref mb, .int (kb on), .int (nI y0.1.1), .int (nI y0.1.2.1), .int (nI y0.1.2.2.1), .int (nI y0.1.2.2.2.1), .int (nI y0.1.2.2.2.2.1), .int (nI y0.2.1), .int (nI y0.1.2.2.2.2.2.2.1), .ref mm, .ref mw, .ref mh, .ref ml, .int (kb ay)])), (mb, .inl (E.2.1 0, 96, .inl (nF nb2))), (mm, .inl (E.2.1 0, 160, .inl (nF y0.1.2.2.2.2.2.2.2.2))), (mw, .inl (E.2.1 0, 370, .inl (nF y0.2.2))), (mh, .inl (E.2.1 0, 144, .inl fM)), (ml, .inl (E.2.1 1, 144, .inl lM))] ++ cW E ad ra sb fh fl fn w0 u1.2.2.2.1 u1.2.2.2.2.1 u1.2.2.2.2.2 u1.1 u1.2.1 u1.2.2.1) H := hP
            have hD : va_D A ([(mo, .inr (8, [.int (nI u1.2.2.2.1), .ref mb, .int (kb on), .int (nI y0.1.1), .int (nI y0.1.2.1), .int (nI y0.1.2.2.1), .int (nI y0.1.2.2.2.1), .int (nI y0.1.2.2.2.2.1), .int (nI y0.2.1), .int (nI y0.1.2.2.2.2.2.2.1), .ref mm, .ref mw, .ref mh, .ref ml, .int (kb ay)])), (mb, .inl (E.2.1 0, 96, .inl (nF nb2))), (mm, .inl (E.2.1 0, 160, .inl (nF y0.1.2.2.2.2.2.2.2.2))), (mw, .inl (E.2.1 0, 370, .inl (nF y0.2.2))), (mh, .inl (E.2.1 0, 144, .inl fM)), (ml, .inl (E.2.1 1, 144, .inl lM))] ++ cW E ad ra sb fh fl fn w0 u1.2.2.2.1 u1.2.2.2.2.1 u1.2.2.2.2.2 u1.1 u1.2.1 u1.2.2.1) := hD
            refine lv_icmp_eq (tgt := 423) hx hb d_L_law_118 (by decide) (fun h118 => ?_) (fun h118 => ?_)
            · refine lv_iinc (k := 0) (v := nI (i + 5)) (lv' := [(3, .int (nI (i + 5))), (0, .ref b), (1, .ref (ad 0)), (2, .ref mo)]) hx hb d_L_law_423 hl rfl (k_inc5 _) (by decide) rfl (fun ls hl => ?_)
              refine lv_goto (tgt := 18) hx hb d_L_law_426 (by decide) ?_
              exact ih (n - 5) (by omega) (i + 5) sb on ay fh fl fn w0 u1.2.2.2.1 u1.2.2.2.2.1 u1.2.2.2.2.2 u1.1 u1.2.1 u1.2.2.1 bb2 nb2 y0 fM lM hc hm _ _ ls (by omega) ⟨I2, by omega⟩ (lv_sub hl [0, 1, 2, 3] rfl) hP hD hS
            · exact absurd hr h118
          · refine lv_tableIn (off := 91) (tgt := 123) hx hb d_L_law_32 (by decide) (by decide) (by decide) (by decide) ?_
            refine lv_aload_n hx hb d_L_law_123 rfl (lv_at hl 2 rfl) ?_
            have hcon := X_clear l E ad ra sb fh fl fn w0 len lat nxt fb fg ff bb ok I.1
            refine k_VvF (rm := rm_c_X_clear) (Z := [(mo, .inr (8, [.int (nI len), .ref mb, .int (kb on), .int (nI y0.1.1), .int (nI y0.1.2.1), .int (nI y0.1.2.2.1), .int (nI y0.1.2.2.2.1), .int (nI y0.1.2.2.2.2.1), .int (nI y0.2.1), .int (nI y0.1.2.2.2.2.2.2.1), .ref mm, .ref mw, .ref mh, .ref ml, .int (kb ay)])), (mb, .inl (E.2.1 0, 96, .inl (nF nb))), (mm, .inl (E.2.1 0, 160, .inl (nF y0.1.2.2.2.2.2.2.2.2))), (mw, .inl (E.2.1 0, 370, .inl (nF y0.2.2))), (mh, .inl (E.2.1 0, 144, .inl fM)), (ml, .inl (E.2.1 1, 144, .inl lM))]) (T := cW E ad ra sb fh fl fn w0 len lat nxt fb fg ff) (As := []) (rest := []) ⟨hx, hb, hml, hown, hts⟩ hcon (k_cwV 0 hts t_266 t_267 t_268 t_62 t_269 (by decide +kernel) ⟨Nat.le_of_ble_eq_true rfl, Nat.le_of_ble_eq_true rfl⟩) hK hG hA hP hD hS 0 rfl rfl (by exact fun _ => cW_fst) rfl hl.1 rfl (Nat.le_of_ble_eq_true rfl) d_L_law_124 ⟨Nat.le_of_ble_eq_true rfl, Nat.le_of_ble_eq_true rfl⟩ (fun u1 H locs hu1 hP hD hS => ?_)
            have hP : va_P E.1 vwCl ([(mo, .inr (8, [.int (nI len), .ref mb, .int (kb on), .int (nI y0.1.1), .int (nI y0.1.2.1), .int (nI y0.1.2.2.1), .int (nI y0.1.2.2.2.1), .int (nI y0.1.2.2.2.2.1), .int (nI y0.2.1), .int (nI y0.1.2.2.2.2.2.2.1), .ref mm, .ref mw, .ref mh, .ref ml, .int (kb ay)])), (mb, .inl (E.2.1 0, 96, .inl (nF nb))), (mm, .inl (E.2.1 0, 160, .inl (nF y0.1.2.2.2.2.2.2.2.2))), (mw, .inl (E.2.1 0, 370, .inl (nF y0.2.2))), (mh, .inl (E.2.1 0, 144, .inl fM)), (ml, .inl (E.2.1 1, 144, .inl lM))] ++ cW E ad ra false u1.2.1 u1.2.2 fn u1.1 0 (-1) (nI 0) fb fg ff) H := hP
            have hD : va_D A ([(mo, .inr (8, [.int (nI len), .ref mb, .int (kb on), .int (nI y0.1.1), .int (nI y0.1.2.1), .int (nI y0.1.2.2.1), .int (nI y0.1.2.2.2.1), .int (nI y0.1.2.2.2.2.1), .int (nI y0.2.1), .int (nI y0.1.2.2.2.2.2.2.1), .ref mm, .ref mw, .ref mh, .ref ml, .int (kb ay)])), (mb, .inl (E.2.1 0, 96, .inl (nF nb))), (mm, .inl (E.2.1 0, 160, .inl (nF y0.1.2.2.2.2.2.2.2.2))), (mw, .inl (E.2.1 0, 370, .inl (nF y0.2.2))), (mh, .inl (E.2.1 0, 144, .inl fM)), (ml, .inl (E.2.1 1, 144, .inl lM))] ++ cW E ad ra false u1.2.1 u1.2.2 fn u1.1 0 (-1) (nI 0) fb fg ff) := hD
            refine lv_aload_n hx hb d_L_law_127 rfl (lv_at hl 3 rfl) ?_
            refine k_Vv (As := []) (rest := []) ⟨hx, hb, hml, hown, hts⟩ (c_MX_clear l E mo mb mm mw mh ml on ay y0 len nb bb okb fM lM ) (k_cwV 0 hts t_797 t_798 t_799 t_71 t_800 (by decide +kernel) ⟨Nat.le_of_ble_eq_true rfl, Nat.le_of_ble_eq_true rfl⟩) hK hG hA hP hD hS [0, 1, 2, 3, 4, 5] rfl (by decide) 0 rfl rfl (fun _ => rfl) rfl hl.1 rfl (Nat.le_of_ble_eq_true rfl) d_L_law_128 ⟨Nat.le_of_ble_eq_true rfl, Nat.le_of_ble_eq_true rfl⟩ (fun u2 H locs hu2 hP hD hS => ?_)
            have hP : va_P E.1 vwCl ([(mo, .inr (8, [.int (nI 0), .ref mb, .int (kb false), .int (nI y0.1.1), .int (nI y0.1.2.1), .int (nI y0.1.2.2.1), .int (nI y0.1.2.2.2.1), .int (nI y0.1.2.2.2.2.1), .int (nI y0.2.1), .int (nI y0.1.2.2.2.2.2.2.1), .ref mm, .ref mw, .ref mh, .ref ml, .int (kb false)])), (mb, .inl (E.2.1 0, 96, .inl (nF nb))), (mm, .inl (E.2.1 0, 160, .inl (nF y0.1.2.2.2.2.2.2.2.2))), (mw, .inl (E.2.1 0, 370, .inl (nF y0.2.2))), (mh, .inl (E.2.1 0, 144, .inl fM)), (ml, .inl (E.2.1 1, 144, .inl lM))] ++ cW E ad ra false u1.2.1 u1.2.2 fn u1.1 0 (-1) (nI 0) fb fg ff) H := hP
            have hD : va_D A ([(mo, .inr (8, [.int (nI 0), .ref mb, .int (kb false), .int (nI y0.1.1), .int (nI y0.1.2.1), .int (nI y0.1.2.2.1), .int (nI y0.1.2.2.2.1), .int (nI y0.1.2.2.2.2.1), .int (nI y0.2.1), .int (nI y0.1.2.2.2.2.2.2.1), .ref mm, .ref mw, .ref mh, .ref ml, .int (kb false)])), (mb, .inl (E.2.1 0, 96, .inl (nF nb))), (mm, .inl (E.2.1 0, 160, .inl (nF y0.1.2.2.2.2.2.2.2.2))), (mw, .inl (E.2.1 0, 370, .inl (nF y0.2.2))), (mh, .inl (E.2.1 0, 144, .inl fM)), (ml, .inl (E.2.1 1, 144, .inl lM))] ++ cW E ad ra false u1.2.1 u1.2.2 fn u1.1 0 (-1) (nI 0) fb fg ff) := hD
            have I2 := lw_clear I hu1
            refine lv_goto (tgt := 423) hx hb d_L_law_131 (by decide) ?_
            refine lv_iinc (k := 0) (v := nI (i + 5)) (lv' := [(3, .int (nI (i + 5))), (0, .ref b), (1, .ref (ad 0)), (2, .ref mo)]) hx hb d_L_law_423 hl rfl (k_inc5 _) (by decide) rfl (fun ls hl => ?_)
            refine lv_goto (tgt := 18) hx hb d_L_law_426 (by decide) ?_
            exact ih (n - 5) (by omega) (i + 5) false false false u1.2.1 u1.2.2 fn u1.1 0 (-1) (nI 0) fb fg ff (fun _ => 0) nb y0 fM lM (fun _ => 0) hm _ _ ls (by omega) ⟨I2, by omega⟩ (lv_sub hl [0, 1, 2, 3] rfl) hP hD hS
          · refine lv_tableIn (off := 102) (tgt := 134) hx hb d_L_law_32 (by decide) (by decide) (by decide) (by decide) ?_
            refine lv_aload_n hx hb d_L_law_134 rfl (lv_at hl 2 rfl) ?_
            refine lv_aload_n hx hb d_L_law_135 rfl (lv_at hl 1 rfl) ?_
            refine lv_iload_n hx hb d_L_law_136 rfl (lv_at hl 0 rfl) ?_
            refine lv_iconst (v := nI 1) hx hb d_L_law_137 (by decide) ?_
            refine lv_iadd hx hb d_L_law_138 ?_
            refine k_top (nI_add _ _) ?_
            refine va_sld hx hb hX hbl hbA hS (i := nI (i + 1)) (vp_in_nI (by omega) (by omega)) d_L_law_139 ?_
            refine k_top (congrArg xs (nI_clamp (by omega))) ?_
            have hcon := X_start l E ad ra sb fh fl fn w0 len lat nxt fb fg ff bb ok (xs (i + 1)) I.1
            refine k_ViF (rm := rm_c_X_start) (Z := [(mo, .inr (8, [.int (nI len), .ref mb, .int (kb on), .int (nI y0.1.1), .int (nI y0.1.2.1), .int (nI y0.1.2.2.1), .int (nI y0.1.2.2.2.1), .int (nI y0.1.2.2.2.2.1), .int (nI y0.2.1), .int (nI y0.1.2.2.2.2.2.2.1), .ref mm, .ref mw, .ref mh, .ref ml, .int (kb ay)])), (mb, .inl (E.2.1 0, 96, .inl (nF nb))), (mm, .inl (E.2.1 0, 160, .inl (nF y0.1.2.2.2.2.2.2.2.2))), (mw, .inl (E.2.1 0, 370, .inl (nF y0.2.2))), (mh, .inl (E.2.1 0, 144, .inl fM)), (ml, .inl (E.2.1 1, 144, .inl lM))]) (T := cW E ad ra sb fh fl fn w0 len lat nxt fb fg ff) (As := [.int (xs (i + 1))]) (rest := []) ⟨hx, hb, hml, hown, hts⟩ hcon (k_cwV 1 hts t_295 t_296 t_297 t_62 t_298 (by decide +kernel) ⟨Nat.le_of_ble_eq_true rfl, Nat.le_of_ble_eq_true rfl⟩) hK hG hA hP hD hS 0 rfl rfl (by exact fun _ => cW_fst) rfl hl.1 rfl (Nat.le_of_ble_eq_true rfl) d_L_law_140 ⟨Nat.le_of_ble_eq_true rfl, Nat.le_of_ble_eq_true rfl⟩ (fun r1 u1 H locs hu1 hP hD hS => ?_)
            have hP : va_P E.1 vwCl ([(mo, .inr (8, [.int (nI len), .ref mb, .int (kb on), .int (nI y0.1.1), .int (nI y0.1.2.1), .int (nI y0.1.2.2.1), .int (nI y0.1.2.2.2.1), .int (nI y0.1.2.2.2.2.1), .int (nI y0.2.1), .int (nI y0.1.2.2.2.2.2.2.1), .ref mm, .ref mw, .ref mh, .ref ml, .int (kb ay)])), (mb, .inl (E.2.1 0, 96, .inl (nF nb))), (mm, .inl (E.2.1 0, 160, .inl (nF y0.1.2.2.2.2.2.2.2.2))), (mw, .inl (E.2.1 0, 370, .inl (nF y0.2.2))), (mh, .inl (E.2.1 0, 144, .inl fM)), (ml, .inl (E.2.1 1, 144, .inl lM))] ++ cW E ad ra u1.1 fh fl fn u1.2 len lat nxt fb fg ff) H := hP
            have hD : va_D A ([(mo, .inr (8, [.int (nI len), .ref mb, .int (kb on), .int (nI y0.1.1), .int (nI y0.1.2.1), .int (nI y0.1.2.2.1), .int (nI y0.1.2.2.2.1), .int (nI y0.1.2.2.2.2.1), .int (nI y0.2.1), .int (nI y0.1.2.2.2.2.2.2.1), .ref mm, .ref mw, .ref mh, .ref ml, .int (kb ay)])), (mb, .inl (E.2.1 0, 96, .inl (nF nb))), (mm, .inl (E.2.1 0, 160, .inl (nF y0.1.2.2.2.2.2.2.2.2))), (mw, .inl (E.2.1 0, 370, .inl (nF y0.2.2))), (mh, .inl (E.2.1 0, 144, .inl fM)), (ml, .inl (E.2.1 1, 144, .inl lM))] ++ cW E ad ra u1.1 fh fl fn u1.2 len lat nxt fb fg ff) := hD
            refine lv_aload_n hx hb d_L_law_143 rfl (lv_at hl 3 rfl) ?_
            refine lv_aload_n hx hb d_L_law_144 rfl (lv_at hl 1 rfl) ?_
            refine lv_iload_n hx hb d_L_law_145 rfl (lv_at hl 0 rfl) ?_
            refine lv_iconst (v := nI 1) hx hb d_L_law_146 (by decide) ?_
            refine lv_iadd hx hb d_L_law_147 ?_
            refine k_top (nI_add _ _) ?_
            refine va_sld hx hb hX hbl hbA hS (i := nI (i + 1)) (vp_in_nI (by omega) (by omega)) d_L_law_148 ?_
            refine k_top (congrArg xs (nI_clamp (by omega))) ?_
            refine k_Vi (As := [.int (xs (i + 1))]) (rest := [.int r1]) ⟨hx, hb, hml, hown, hts⟩ (c_MX_start l E mo mb mm mw mh ml on ay y0 len nb bb okb fM lM (xs (i + 1)) I.2.1) (k_cwV 1 hts t_819 t_820 t_821 t_71 t_822 (by decide +kernel) ⟨Nat.le_of_ble_eq_true rfl, Nat.le_of_ble_eq_true rfl⟩) hK hG hA hP hD hS [0, 1, 2, 3, 4, 5] rfl (by decide) 0 rfl rfl (fun _ => rfl) rfl hl.1 rfl (Nat.le_of_ble_eq_true rfl) d_L_law_149 ⟨Nat.le_of_ble_eq_true rfl, Nat.le_of_ble_eq_true rfl⟩ (fun r2 u2 H locs hu2 hP hD hS => ?_)
            have hP : va_P E.1 vwCl ([(mo, .inr (8, [.int (nI len), .ref mb, .int (kb u2.1), .int (nI u2.2.1.1), .int (nI u2.2.1.2.1), .int (nI u2.2.1.2.2.1), .int (nI u2.2.1.2.2.2.1), .int (nI u2.2.1.2.2.2.2.1), .int (nI u2.2.2.1), .int (nI u2.2.1.2.2.2.2.2.2.1), .ref mm, .ref mw, .ref mh, .ref ml, .int (kb ay)])), (mb, .inl (E.2.1 0, 96, .inl (nF nb))), (mm, .inl (E.2.1 0, 160, .inl (nF u2.2.1.2.2.2.2.2.2.2.2))), (mw, .inl (E.2.1 0, 370, .inl (nF u2.2.2.2))), (mh, .inl (E.2.1 0, 144, .inl fM)), (ml, .inl (E.2.1 1, 144, .inl lM))] ++ cW E ad ra u1.1 fh fl fn u1.2 len lat nxt fb fg ff) H := hP
            have hD : va_D A ([(mo, .inr (8, [.int (nI len), .ref mb, .int (kb u2.1), .int (nI u2.2.1.1), .int (nI u2.2.1.2.1), .int (nI u2.2.1.2.2.1), .int (nI u2.2.1.2.2.2.1), .int (nI u2.2.1.2.2.2.2.1), .int (nI u2.2.2.1), .int (nI u2.2.1.2.2.2.2.2.2.1), .ref mm, .ref mw, .ref mh, .ref ml, .int (kb ay)])), (mb, .inl (E.2.1 0, 96, .inl (nF nb))), (mm, .inl (E.2.1 0, 160, .inl (nF u2.2.1.2.2.2.2.2.2.2.2))), (mw, .inl (E.2.1 0, 370, .inl (nF u2.2.2.2))), (mh, .inl (E.2.1 0, 144, .inl fM)), (ml, .inl (E.2.1 1, 144, .inl lM))] ++ cW E ad ra u1.1 fh fl fn u1.2 len lat nxt fb fg ff) := hD
            obtain ⟨hr, I2⟩ := lw_start I hu1 hu2
            refine lv_icmp_eq (tgt := 423) hx hb d_L_law_152 (by decide) (fun h152 => ?_) (fun h152 => ?_)
            · refine lv_iinc (k := 0) (v := nI (i + 5)) (lv' := [(3, .int (nI (i + 5))), (0, .ref b), (1, .ref (ad 0)), (2, .ref mo)]) hx hb d_L_law_423 hl rfl (k_inc5 _) (by decide) rfl (fun ls hl => ?_)
              refine lv_goto (tgt := 18) hx hb d_L_law_426 (by decide) ?_
              exact ih (n - 5) (by omega) (i + 5) u1.1 u2.1 ay fh fl fn u1.2 len lat nxt fb fg ff bb nb u2.2 fM lM hc hm _ _ ls (by omega) ⟨I2, by omega⟩ (lv_sub hl [0, 1, 2, 3] rfl) hP hD hS
            · exact absurd hr h152
          · refine lv_tableIn (off := 125) (tgt := 157) hx hb d_L_law_32 (by decide) (by decide) (by decide) (by decide) ?_
            refine lv_aload_n hx hb d_L_law_157 rfl (lv_at hl 2 rfl) ?_
            refine lv_aload_n hx hb d_L_law_158 rfl (lv_at hl 1 rfl) ?_
            refine lv_iload_n hx hb d_L_law_159 rfl (lv_at hl 0 rfl) ?_
            refine lv_iconst (v := nI 1) hx hb d_L_law_160 (by decide) ?_
            refine lv_iadd hx hb d_L_law_161 ?_
            refine k_top (nI_add _ _) ?_
            refine va_sld hx hb hX hbl hbA hS (i := nI (i + 1)) (vp_in_nI (by omega) (by omega)) d_L_law_162 ?_
            refine k_top (congrArg xs (nI_clamp (by omega))) ?_
            refine lv_aload_n hx hb d_L_law_163 rfl (lv_at hl 1 rfl) ?_
            refine lv_iload_n hx hb d_L_law_164 rfl (lv_at hl 0 rfl) ?_
            refine lv_iconst (v := nI 2) hx hb d_L_law_165 (by decide) ?_
            refine lv_iadd hx hb d_L_law_166 ?_
            refine k_top (nI_add _ _) ?_
            refine va_sld hx hb hX hbl hbA hS (i := nI (i + 2)) (vp_in_nI (by omega) (by omega)) d_L_law_167 ?_
            refine k_top (congrArg xs (nI_clamp (by omega))) ?_
            refine lv_aload_n hx hb d_L_law_168 rfl (lv_at hl 1 rfl) ?_
            refine lv_iload_n hx hb d_L_law_169 rfl (lv_at hl 0 rfl) ?_
            refine lv_iconst (v := nI 3) hx hb d_L_law_170 (by decide) ?_
            refine lv_iadd hx hb d_L_law_171 ?_
            refine k_top (nI_add _ _) ?_
            refine va_sld hx hb hX hbl hbA hS (i := nI (i + 3)) (vp_in_nI (by omega) (by omega)) d_L_law_172 ?_
            refine k_top (congrArg xs (nI_clamp (by omega))) ?_
            refine lv_aload_n hx hb d_L_law_173 rfl (lv_at hl 1 rfl) ?_
            refine lv_iload_n hx hb d_L_law_174 rfl (lv_at hl 0 rfl) ?_
            refine lv_iconst (v := nI 4) hx hb d_L_law_175 (by decide) ?_
            refine lv_iadd hx hb d_L_law_176 ?_
            refine k_top (nI_add _ _) ?_
            refine va_sld hx hb hX hbl hbA hS (i := nI (i + 4)) (vp_in_nI (by omega) (by omega)) d_L_law_177 ?_
            refine k_top (congrArg xs (nI_clamp (by omega))) ?_
            have hcon := X_push l E ad ra sb fh fl fn w0 len lat nxt fb fg ff bb ok (xs (i + 1)) (xs (i + 2)) (xs (i + 3)) (xs (i + 4)) I.1
            refine k_ViF (rm := rm_c_X_push) (Z := [(mo, .inr (8, [.int (nI len), .ref mb, .int (kb on), .int (nI y0.1.1), .int (nI y0.1.2.1), .int (nI y0.1.2.2.1), .int (nI y0.1.2.2.2.1), .int (nI y0.1.2.2.2.2.1), .int (nI y0.2.1), .int (nI y0.1.2.2.2.2.2.2.1), .ref mm, .ref mw, .ref mh, .ref ml, .int (kb ay)])), (mb, .inl (E.2.1 0, 96, .inl (nF nb))), (mm, .inl (E.2.1 0, 160, .inl (nF y0.1.2.2.2.2.2.2.2.2))), (mw, .inl (E.2.1 0, 370, .inl (nF y0.2.2))), (mh, .inl (E.2.1 0, 144, .inl fM)), (ml, .inl (E.2.1 1, 144, .inl lM))]) (T := cW E ad ra sb fh fl fn w0 len lat nxt fb fg ff) (As := [.int (xs (i + 1)), .int (xs (i + 2)), .int (xs (i + 3)), .int (xs (i + 4))]) (rest := []) ⟨hx, hb, hml, hown, hts⟩ hcon (k_cwV 4 hts t_300 t_301 t_302 t_62 t_303 (by decide +kernel) ⟨Nat.le_of_ble_eq_true rfl, Nat.le_of_ble_eq_true rfl⟩) hK hG hA hP hD hS 0 rfl rfl (by exact fun _ => cW_fst) rfl hl.1 rfl (Nat.le_of_ble_eq_true rfl) d_L_law_178 ⟨Nat.le_of_ble_eq_true rfl, Nat.le_of_ble_eq_true rfl⟩ (fun r1 u1 H locs hu1 hP hD hS => ?_)
            have hP : va_P E.1 vwCl ([(mo, .inr (8, [.int (nI len), .ref mb, .int (kb on), .int (nI y0.1.1), .int (nI y0.1.2.1), .int (nI y0.1.2.2.1), .int (nI y0.1.2.2.2.1), .int (nI y0.1.2.2.2.2.1), .int (nI y0.2.1), .int (nI y0.1.2.2.2.2.2.2.1), .ref mm, .ref mw, .ref mh, .ref ml, .int (kb ay)])), (mb, .inl (E.2.1 0, 96, .inl (nF nb))), (mm, .inl (E.2.1 0, 160, .inl (nF y0.1.2.2.2.2.2.2.2.2))), (mw, .inl (E.2.1 0, 370, .inl (nF y0.2.2))), (mh, .inl (E.2.1 0, 144, .inl fM)), (ml, .inl (E.2.1 1, 144, .inl lM))] ++ cW E ad ra sb fh fl fn u1 len lat nxt fb fg ff) H := hP
            have hD : va_D A ([(mo, .inr (8, [.int (nI len), .ref mb, .int (kb on), .int (nI y0.1.1), .int (nI y0.1.2.1), .int (nI y0.1.2.2.1), .int (nI y0.1.2.2.2.1), .int (nI y0.1.2.2.2.2.1), .int (nI y0.2.1), .int (nI y0.1.2.2.2.2.2.2.1), .ref mm, .ref mw, .ref mh, .ref ml, .int (kb ay)])), (mb, .inl (E.2.1 0, 96, .inl (nF nb))), (mm, .inl (E.2.1 0, 160, .inl (nF y0.1.2.2.2.2.2.2.2.2))), (mw, .inl (E.2.1 0, 370, .inl (nF y0.2.2))), (mh, .inl (E.2.1 0, 144, .inl fM)), (ml, .inl (E.2.1 1, 144, .inl lM))] ++ cW E ad ra sb fh fl fn u1 len lat nxt fb fg ff) := hD
            refine lv_aload_n hx hb d_L_law_181 rfl (lv_at hl 3 rfl) ?_
            refine lv_aload_n hx hb d_L_law_182 rfl (lv_at hl 1 rfl) ?_
            refine lv_iload_n hx hb d_L_law_183 rfl (lv_at hl 0 rfl) ?_
            refine lv_iconst (v := nI 1) hx hb d_L_law_184 (by decide) ?_
            refine lv_iadd hx hb d_L_law_185 ?_
            refine k_top (nI_add _ _) ?_
            refine va_sld hx hb hX hbl hbA hS (i := nI (i + 1)) (vp_in_nI (by omega) (by omega)) d_L_law_186 ?_
            refine k_top (congrArg xs (nI_clamp (by omega))) ?_
            refine lv_aload_n hx hb d_L_law_187 rfl (lv_at hl 1 rfl) ?_
            refine lv_iload_n hx hb d_L_law_188 rfl (lv_at hl 0 rfl) ?_
            refine lv_iconst (v := nI 2) hx hb d_L_law_189 (by decide) ?_
            refine lv_iadd hx hb d_L_law_190 ?_
            refine k_top (nI_add _ _) ?_
            refine va_sld hx hb hX hbl hbA hS (i := nI (i + 2)) (vp_in_nI (by omega) (by omega)) d_L_law_191 ?_
            refine k_top (congrArg xs (nI_clamp (by omega))) ?_
            refine lv_aload_n hx hb d_L_law_192 rfl (lv_at hl 1 rfl) ?_
            refine lv_iload_n hx hb d_L_law_193 rfl (lv_at hl 0 rfl) ?_
            refine lv_iconst (v := nI 3) hx hb d_L_law_194 (by decide) ?_
            refine lv_iadd hx hb d_L_law_195 ?_
            refine k_top (nI_add _ _) ?_
            refine va_sld hx hb hX hbl hbA hS (i := nI (i + 3)) (vp_in_nI (by omega) (by omega)) d_L_law_196 ?_
            refine k_top (congrArg xs (nI_clamp (by omega))) ?_
            refine lv_aload_n hx hb d_L_law_197 rfl (lv_at hl 1 rfl) ?_
            refine lv_iload_n hx hb d_L_law_198 rfl (lv_at hl 0 rfl) ?_
            refine lv_iconst (v := nI 4) hx hb d_L_law_199 (by decide) ?_
            refine lv_iadd hx hb d_L_law_200 ?_
            refine k_top (nI_add _ _) ?_
            refine va_sld hx hb hX hbl hbA hS (i := nI (i + 4)) (vp_in_nI (by omega) (by omega)) d_L_law_201 ?_
            refine k_top (congrArg xs (nI_clamp (by omega))) ?_
            refine k_Vi (As := [.int (xs (i + 1)), .int (xs (i + 2)), .int (xs (i + 3)), .int (xs (i + 4))]) (rest := [.int r1]) ⟨hx, hb, hml, hown, hts⟩ (c_MX_push l E mo mb mm mw mh ml on ay y0 len nb bb okb fM lM (xs (i + 1)) (xs (i + 2)) (xs (i + 3)) (xs (i + 4)) I.2.1) (k_cwV 4 hts t_823 t_824 t_825 t_71 t_826 (by decide +kernel) ⟨Nat.le_of_ble_eq_true rfl, Nat.le_of_ble_eq_true rfl⟩) hK hG hA hP hD hS [0, 1, 2, 3, 4, 5] rfl (by decide) 0 rfl rfl (fun _ => rfl) rfl hl.1 rfl (Nat.le_of_ble_eq_true rfl) d_L_law_202 ⟨Nat.le_of_ble_eq_true rfl, Nat.le_of_ble_eq_true rfl⟩ (fun r2 u2 H locs hu2 hP hD hS => ?_)
            have hP : va_P E.1 vwCl ([(mo, .inr (8, [.int (nI len), .ref mb, .int (kb on), .int (nI u2.1.1), .int (nI u2.1.2.1), .int (nI u2.1.2.2.1), .int (nI u2.1.2.2.2.1), .int (nI u2.1.2.2.2.2.1), .int (nI u2.2.1), .int (nI u2.1.2.2.2.2.2.2.1), .ref mm, .ref mw, .ref mh, .ref ml, .int (kb ay)])), (mb, .inl (E.2.1 0, 96, .inl (nF nb))), (mm, .inl (E.2.1 0, 160, .inl (nF u2.1.2.2.2.2.2.2.2.2))), (mw, .inl (E.2.1 0, 370, .inl (nF u2.2.2))), (mh, .inl (E.2.1 0, 144, .inl fM)), (ml, .inl (E.2.1 1, 144, .inl lM))] ++ cW E ad ra sb fh fl fn u1 len lat nxt fb fg ff) H := hP
            have hD : va_D A ([(mo, .inr (8, [.int (nI len), .ref mb, .int (kb on), .int (nI u2.1.1), .int (nI u2.1.2.1), .int (nI u2.1.2.2.1), .int (nI u2.1.2.2.2.1), .int (nI u2.1.2.2.2.2.1), .int (nI u2.2.1), .int (nI u2.1.2.2.2.2.2.2.1), .ref mm, .ref mw, .ref mh, .ref ml, .int (kb ay)])), (mb, .inl (E.2.1 0, 96, .inl (nF nb))), (mm, .inl (E.2.1 0, 160, .inl (nF u2.1.2.2.2.2.2.2.2.2))), (mw, .inl (E.2.1 0, 370, .inl (nF u2.2.2))), (mh, .inl (E.2.1 0, 144, .inl fM)), (ml, .inl (E.2.1 1, 144, .inl lM))] ++ cW E ad ra sb fh fl fn u1 len lat nxt fb fg ff) := hD
            obtain ⟨hr, I2⟩ := lw_push I hu1 hu2
            refine lv_icmp_eq (tgt := 423) hx hb d_L_law_205 (by decide) (fun h205 => ?_) (fun h205 => ?_)
            · refine lv_iinc (k := 0) (v := nI (i + 5)) (lv' := [(3, .int (nI (i + 5))), (0, .ref b), (1, .ref (ad 0)), (2, .ref mo)]) hx hb d_L_law_423 hl rfl (k_inc5 _) (by decide) rfl (fun ls hl => ?_)
              refine lv_goto (tgt := 18) hx hb d_L_law_426 (by decide) ?_
              exact ih (n - 5) (by omega) (i + 5) sb on ay fh fl fn u1 len lat nxt fb fg ff bb nb u2 fM lM hc hm _ _ ls (by omega) ⟨I2, by omega⟩ (lv_sub hl [0, 1, 2, 3] rfl) hP hD hS
            · exact absurd hr h205
          · refine lv_tableIn (off := 178) (tgt := 210) hx hb d_L_law_32 (by decide) (by decide) (by decide) (by decide) ?_
            refine lv_aload_n hx hb d_L_law_210 rfl (lv_at hl 2 rfl) ?_
            refine lv_aload_n hx hb d_L_law_211 rfl (lv_at hl 1 rfl) ?_
            refine lv_iload_n hx hb d_L_law_212 rfl (lv_at hl 0 rfl) ?_
            refine lv_iconst (v := nI 1) hx hb d_L_law_213 (by decide) ?_
            refine lv_iadd hx hb d_L_law_214 ?_
            refine k_top (nI_add _ _) ?_
            refine va_sld hx hb hX hbl hbA hS (i := nI (i + 1)) (vp_in_nI (by omega) (by omega)) d_L_law_215 ?_
            refine k_top (congrArg xs (nI_clamp (by omega))) ?_
            have hcon := X_run l E ad ra sb fh fl fn w0 len lat nxt fb fg ff bb ok (xs (i + 1)) I.1
            refine k_ViF (rm := rm_c_X_run) (Z := [(mo, .inr (8, [.int (nI len), .ref mb, .int (kb on), .int (nI y0.1.1), .int (nI y0.1.2.1), .int (nI y0.1.2.2.1), .int (nI y0.1.2.2.2.1), .int (nI y0.1.2.2.2.2.1), .int (nI y0.2.1), .int (nI y0.1.2.2.2.2.2.2.1), .ref mm, .ref mw, .ref mh, .ref ml, .int (kb ay)])), (mb, .inl (E.2.1 0, 96, .inl (nF nb))), (mm, .inl (E.2.1 0, 160, .inl (nF y0.1.2.2.2.2.2.2.2.2))), (mw, .inl (E.2.1 0, 370, .inl (nF y0.2.2))), (mh, .inl (E.2.1 0, 144, .inl fM)), (ml, .inl (E.2.1 1, 144, .inl lM))]) (T := cW E ad ra sb fh fl fn w0 len lat nxt fb fg ff) (As := [.int (xs (i + 1))]) (rest := []) ⟨hx, hb, hml, hown, hts⟩ hcon (k_cwV 1 hts t_319 t_320 t_321 t_62 t_322 (by decide +kernel) ⟨Nat.le_of_ble_eq_true rfl, Nat.le_of_ble_eq_true rfl⟩) hK hG hA hP hD hS 0 rfl rfl (by exact fun _ => cW_fst) rfl hl.1 rfl (Nat.le_of_ble_eq_true rfl) d_L_law_216 ⟨Nat.le_of_ble_eq_true rfl, Nat.le_of_ble_eq_true rfl⟩ (fun r1 u1 H locs hu1 hP hD hS => ?_)
            have hP : va_P E.1 vwCl ([(mo, .inr (8, [.int (nI len), .ref mb, .int (kb on), .int (nI y0.1.1), .int (nI y0.1.2.1), .int (nI y0.1.2.2.1), .int (nI y0.1.2.2.2.1), .int (nI y0.1.2.2.2.2.1), .int (nI y0.2.1), .int (nI y0.1.2.2.2.2.2.2.1), .ref mm, .ref mw, .ref mh, .ref ml, .int (kb ay)])), (mb, .inl (E.2.1 0, 96, .inl (nF nb))), (mm, .inl (E.2.1 0, 160, .inl (nF y0.1.2.2.2.2.2.2.2.2))), (mw, .inl (E.2.1 0, 370, .inl (nF y0.2.2))), (mh, .inl (E.2.1 0, 144, .inl fM)), (ml, .inl (E.2.1 1, 144, .inl lM))] ++ cW E ad ra sb fh fl fn u1 len lat nxt fb fg ff) H := hP
            have hD : va_D A ([(mo, .inr (8, [.int (nI len), .ref mb, .int (kb on), .int (nI y0.1.1), .int (nI y0.1.2.1), .int (nI y0.1.2.2.1), .int (nI y0.1.2.2.2.1), .int (nI y0.1.2.2.2.2.1), .int (nI y0.2.1), .int (nI y0.1.2.2.2.2.2.2.1), .ref mm, .ref mw, .ref mh, .ref ml, .int (kb ay)])), (mb, .inl (E.2.1 0, 96, .inl (nF nb))), (mm, .inl (E.2.1 0, 160, .inl (nF y0.1.2.2.2.2.2.2.2.2))), (mw, .inl (E.2.1 0, 370, .inl (nF y0.2.2))), (mh, .inl (E.2.1 0, 144, .inl fM)), (ml, .inl (E.2.1 1, 144, .inl lM))] ++ cW E ad ra sb fh fl fn u1 len lat nxt fb fg ff) := hD
            refine lv_aload_n hx hb d_L_law_219 rfl (lv_at hl 3 rfl) ?_
            refine lv_aload_n hx hb d_L_law_220 rfl (lv_at hl 1 rfl) ?_
            refine lv_iload_n hx hb d_L_law_221 rfl (lv_at hl 0 rfl) ?_
            refine lv_iconst (v := nI 1) hx hb d_L_law_222 (by decide) ?_
            refine lv_iadd hx hb d_L_law_223 ?_
            refine k_top (nI_add _ _) ?_
            refine va_sld hx hb hX hbl hbA hS (i := nI (i + 1)) (vp_in_nI (by omega) (by omega)) d_L_law_224 ?_
            refine k_top (congrArg xs (nI_clamp (by omega))) ?_
            refine k_Vi (As := [.int (xs (i + 1))]) (rest := [.int r1]) ⟨hx, hb, hml, hown, hts⟩ (c_MX_run l E mo mb mm mw mh ml on ay y0 len nb bb okb fM lM (xs (i + 1)) I.2.1) (k_cwV 1 hts t_828 t_829 t_830 t_71 t_831 (by decide +kernel) ⟨Nat.le_of_ble_eq_true rfl, Nat.le_of_ble_eq_true rfl⟩) hK hG hA hP hD hS [0, 1, 2, 3, 4, 5] rfl (by decide) 0 rfl rfl (fun _ => rfl) rfl hl.1 rfl (Nat.le_of_ble_eq_true rfl) d_L_law_225 ⟨Nat.le_of_ble_eq_true rfl, Nat.le_of_ble_eq_true rfl⟩ (fun r2 u2 H locs hu2 hP hD hS => ?_)
            have hP : va_P E.1 vwCl ([(mo, .inr (8, [.int (nI len), .ref mb, .int (kb on), .int (nI u2.1.1), .int (nI u2.1.2.1), .int (nI u2.1.2.2.1), .int (nI u2.1.2.2.2.1), .int (nI u2.1.2.2.2.2.1), .int (nI u2.2.1), .int (nI u2.1.2.2.2.2.2.2.1), .ref mm, .ref mw, .ref mh, .ref ml, .int (kb ay)])), (mb, .inl (E.2.1 0, 96, .inl (nF nb))), (mm, .inl (E.2.1 0, 160, .inl (nF u2.1.2.2.2.2.2.2.2.2))), (mw, .inl (E.2.1 0, 370, .inl (nF u2.2.2))), (mh, .inl (E.2.1 0, 144, .inl fM)), (ml, .inl (E.2.1 1, 144, .inl lM))] ++ cW E ad ra sb fh fl fn u1 len lat nxt fb fg ff) H := hP
            have hD : va_D A ([(mo, .inr (8, [.int (nI len), .ref mb, .int (kb on), .int (nI u2.1.1), .int (nI u2.1.2.1), .int (nI u2.1.2.2.1), .int (nI u2.1.2.2.2.1), .int (nI u2.1.2.2.2.2.1), .int (nI u2.2.1), .int (nI u2.1.2.2.2.2.2.2.1), .ref mm, .ref mw, .ref mh, .ref ml, .int (kb ay)])), (mb, .inl (E.2.1 0, 96, .inl (nF nb))), (mm, .inl (E.2.1 0, 160, .inl (nF u2.1.2.2.2.2.2.2.2.2))), (mw, .inl (E.2.1 0, 370, .inl (nF u2.2.2))), (mh, .inl (E.2.1 0, 144, .inl fM)), (ml, .inl (E.2.1 1, 144, .inl lM))] ++ cW E ad ra sb fh fl fn u1 len lat nxt fb fg ff) := hD
            obtain ⟨hr, I2⟩ := lw_run I hu1 hu2
            refine lv_icmp_eq (tgt := 423) hx hb d_L_law_228 (by decide) (fun h228 => ?_) (fun h228 => ?_)
            · refine lv_iinc (k := 0) (v := nI (i + 5)) (lv' := [(3, .int (nI (i + 5))), (0, .ref b), (1, .ref (ad 0)), (2, .ref mo)]) hx hb d_L_law_423 hl rfl (k_inc5 _) (by decide) rfl (fun ls hl => ?_)
              refine lv_goto (tgt := 18) hx hb d_L_law_426 (by decide) ?_
              exact ih (n - 5) (by omega) (i + 5) sb on ay fh fl fn u1 len lat nxt fb fg ff bb nb u2 fM lM hc hm _ _ ls (by omega) ⟨I2, by omega⟩ (lv_sub hl [0, 1, 2, 3] rfl) hP hD hS
            · exact absurd hr h228
          · refine lv_tableIn (off := 201) (tgt := 233) hx hb d_L_law_32 (by decide) (by decide) (by decide) (by decide) ?_
            refine lv_aload_n hx hb d_L_law_233 rfl (lv_at hl 2 rfl) ?_
            have hcon := X_ended l E ad ra sb fh fl fn w0 len lat nxt fb fg ff bb ok 
            refine k_VpF (rm := rm_c_X_ended) (Z := [(mo, .inr (8, [.int (nI len), .ref mb, .int (kb on), .int (nI y0.1.1), .int (nI y0.1.2.1), .int (nI y0.1.2.2.1), .int (nI y0.1.2.2.2.1), .int (nI y0.1.2.2.2.2.1), .int (nI y0.2.1), .int (nI y0.1.2.2.2.2.2.2.1), .ref mm, .ref mw, .ref mh, .ref ml, .int (kb ay)])), (mb, .inl (E.2.1 0, 96, .inl (nF nb))), (mm, .inl (E.2.1 0, 160, .inl (nF y0.1.2.2.2.2.2.2.2.2))), (mw, .inl (E.2.1 0, 370, .inl (nF y0.2.2))), (mh, .inl (E.2.1 0, 144, .inl fM)), (ml, .inl (E.2.1 1, 144, .inl lM))]) (T := cW E ad ra sb fh fl fn w0 len lat nxt fb fg ff) (As := []) (rest := []) ⟨hx, hb, hml, hown, hts⟩ hcon (k_cwV 0 hts t_634 t_635 t_636 t_62 t_637 (by decide +kernel) ⟨Nat.le_of_ble_eq_true rfl, Nat.le_of_ble_eq_true rfl⟩) hK hG hA hP hD hS 0 rfl rfl rfl hl.1 rfl (Nat.le_of_ble_eq_true rfl) d_L_law_234 ⟨Nat.le_of_ble_eq_true rfl, Nat.le_of_ble_eq_true rfl⟩ (fun r1 hu1 => ?_)
            refine lv_aload_n hx hb d_L_law_237 rfl (lv_at hl 3 rfl) ?_
            refine k_Vp (As := []) (rest := [.int r1]) ⟨hx, hb, hml, hown, hts⟩ (c_MX_ended l E mo mb mm mw mh ml on ay y0 len nb bb okb fM lM ) (k_cwV 0 hts t_966 t_967 t_968 t_71 t_969 (by decide +kernel) ⟨Nat.le_of_ble_eq_true rfl, Nat.le_of_ble_eq_true rfl⟩) hK hG hA hP hD hS [0, 1, 2, 3, 4, 5] rfl (by decide) 0 rfl rfl rfl hl.1 rfl (Nat.le_of_ble_eq_true rfl) d_L_law_238 ⟨Nat.le_of_ble_eq_true rfl, Nat.le_of_ble_eq_true rfl⟩ (fun r2 hu2 => ?_)
            have hr := lw_ended I hu1 hu2
            refine lv_icmp_eq (tgt := 423) hx hb d_L_law_241 (by decide) (fun h241 => ?_) (fun h241 => ?_)
            · refine lv_iinc (k := 0) (v := nI (i + 5)) (lv' := [(3, .int (nI (i + 5))), (0, .ref b), (1, .ref (ad 0)), (2, .ref mo)]) hx hb d_L_law_423 hl rfl (k_inc5 _) (by decide) rfl (fun ls hl => ?_)
              refine lv_goto (tgt := 18) hx hb d_L_law_426 (by decide) ?_
              exact ih (n - 5) (by omega) (i + 5) sb on ay fh fl fn w0 len lat nxt fb fg ff bb nb y0 fM lM hc hm _ _ ls (by omega) ⟨I, by omega⟩ (lv_sub hl [0, 1, 2, 3] rfl) hP hD hS
            · exact absurd hr h241
          · refine lv_tableIn (off := 214) (tgt := 246) hx hb d_L_law_32 (by decide) (by decide) (by decide) (by decide) ?_
            refine lv_aload_n hx hb d_L_law_246 rfl (lv_at hl 2 rfl) ?_
            have hcon := X_height l E ad ra sb fh fl fn w0 len lat nxt fb fg ff bb ok 
            refine k_VpF (rm := rm_c_X_height) (Z := [(mo, .inr (8, [.int (nI len), .ref mb, .int (kb on), .int (nI y0.1.1), .int (nI y0.1.2.1), .int (nI y0.1.2.2.1), .int (nI y0.1.2.2.2.1), .int (nI y0.1.2.2.2.2.1), .int (nI y0.2.1), .int (nI y0.1.2.2.2.2.2.2.1), .ref mm, .ref mw, .ref mh, .ref ml, .int (kb ay)])), (mb, .inl (E.2.1 0, 96, .inl (nF nb))), (mm, .inl (E.2.1 0, 160, .inl (nF y0.1.2.2.2.2.2.2.2.2))), (mw, .inl (E.2.1 0, 370, .inl (nF y0.2.2))), (mh, .inl (E.2.1 0, 144, .inl fM)), (ml, .inl (E.2.1 1, 144, .inl lM))]) (T := cW E ad ra sb fh fl fn w0 len lat nxt fb fg ff) (As := []) (rest := []) ⟨hx, hb, hml, hown, hts⟩ hcon (k_cwV 0 hts t_642 t_643 t_644 t_62 t_645 (by decide +kernel) ⟨Nat.le_of_ble_eq_true rfl, Nat.le_of_ble_eq_true rfl⟩) hK hG hA hP hD hS 0 rfl rfl rfl hl.1 rfl (Nat.le_of_ble_eq_true rfl) d_L_law_247 ⟨Nat.le_of_ble_eq_true rfl, Nat.le_of_ble_eq_true rfl⟩ (fun r1 hu1 => ?_)
            refine lv_aload_n hx hb d_L_law_250 rfl (lv_at hl 3 rfl) ?_
            refine k_Vp (As := []) (rest := [.int r1]) ⟨hx, hb, hml, hown, hts⟩ (c_MX_height l E mo mb mm mw mh ml on ay y0 len nb bb okb fM lM ) (k_cwV 0 hts t_970 t_971 t_972 t_71 t_973 (by decide +kernel) ⟨Nat.le_of_ble_eq_true rfl, Nat.le_of_ble_eq_true rfl⟩) hK hG hA hP hD hS [0, 1, 2, 3, 4, 5] rfl (by decide) 0 rfl rfl rfl hl.1 rfl (Nat.le_of_ble_eq_true rfl) d_L_law_251 ⟨Nat.le_of_ble_eq_true rfl, Nat.le_of_ble_eq_true rfl⟩ (fun r2 hu2 => ?_)
            have hr := lw_height I hu1 hu2
            refine lv_icmp_eq (tgt := 423) hx hb d_L_law_254 (by decide) (fun h254 => ?_) (fun h254 => ?_)
            · refine lv_iinc (k := 0) (v := nI (i + 5)) (lv' := [(3, .int (nI (i + 5))), (0, .ref b), (1, .ref (ad 0)), (2, .ref mo)]) hx hb d_L_law_423 hl rfl (k_inc5 _) (by decide) rfl (fun ls hl => ?_)
              refine lv_goto (tgt := 18) hx hb d_L_law_426 (by decide) ?_
              exact ih (n - 5) (by omega) (i + 5) sb on ay fh fl fn w0 len lat nxt fb fg ff bb nb y0 fM lM hc hm _ _ ls (by omega) ⟨I, by omega⟩ (lv_sub hl [0, 1, 2, 3] rfl) hP hD hS
            · exact absurd hr h254
          · refine lv_tableIn (off := 227) (tgt := 259) hx hb d_L_law_32 (by decide) (by decide) (by decide) (by decide) ?_
            refine lv_aload_n hx hb d_L_law_259 rfl (lv_at hl 2 rfl) ?_
            refine lv_aload_n hx hb d_L_law_260 rfl (lv_at hl 1 rfl) ?_
            refine lv_iload_n hx hb d_L_law_261 rfl (lv_at hl 0 rfl) ?_
            refine lv_iconst (v := nI 1) hx hb d_L_law_262 (by decide) ?_
            refine lv_iadd hx hb d_L_law_263 ?_
            refine k_top (nI_add _ _) ?_
            refine va_sld hx hb hX hbl hbA hS (i := nI (i + 1)) (vp_in_nI (by omega) (by omega)) d_L_law_264 ?_
            refine k_top (congrArg xs (nI_clamp (by omega))) ?_
            refine lv_aload_n hx hb d_L_law_265 rfl (lv_at hl 1 rfl) ?_
            refine lv_iload_n hx hb d_L_law_266 rfl (lv_at hl 0 rfl) ?_
            refine lv_iconst (v := nI 2) hx hb d_L_law_267 (by decide) ?_
            refine lv_iadd hx hb d_L_law_268 ?_
            refine k_top (nI_add _ _) ?_
            refine va_sld hx hb hX hbl hbA hS (i := nI (i + 2)) (vp_in_nI (by omega) (by omega)) d_L_law_269 ?_
            refine k_top (congrArg xs (nI_clamp (by omega))) ?_
            have hcon := X_part l E ad ra sb fh fl fn w0 len lat nxt fb fg ff bb ok (xs (i + 1)) (xs (i + 2)) I.1.1.2.2.2.2.2.1
            refine k_VpF (rm := rm_c_X_part) (Z := [(mo, .inr (8, [.int (nI len), .ref mb, .int (kb on), .int (nI y0.1.1), .int (nI y0.1.2.1), .int (nI y0.1.2.2.1), .int (nI y0.1.2.2.2.1), .int (nI y0.1.2.2.2.2.1), .int (nI y0.2.1), .int (nI y0.1.2.2.2.2.2.2.1), .ref mm, .ref mw, .ref mh, .ref ml, .int (kb ay)])), (mb, .inl (E.2.1 0, 96, .inl (nF nb))), (mm, .inl (E.2.1 0, 160, .inl (nF y0.1.2.2.2.2.2.2.2.2))), (mw, .inl (E.2.1 0, 370, .inl (nF y0.2.2))), (mh, .inl (E.2.1 0, 144, .inl fM)), (ml, .inl (E.2.1 1, 144, .inl lM))]) (T := cW E ad ra sb fh fl fn w0 len lat nxt fb fg ff) (As := [.int (xs (i + 1)), .int (xs (i + 2))]) (rest := []) ⟨hx, hb, hml, hown, hts⟩ hcon (k_cwV 2 hts t_650 t_651 t_652 t_62 t_653 (by decide +kernel) ⟨Nat.le_of_ble_eq_true rfl, Nat.le_of_ble_eq_true rfl⟩) hK hG hA hP hD hS 0 rfl rfl rfl hl.1 rfl (Nat.le_of_ble_eq_true rfl) d_L_law_270 ⟨Nat.le_of_ble_eq_true rfl, Nat.le_of_ble_eq_true rfl⟩ (fun r1 hu1 => ?_)
            refine lv_aload_n hx hb d_L_law_273 rfl (lv_at hl 3 rfl) ?_
            refine lv_aload_n hx hb d_L_law_274 rfl (lv_at hl 1 rfl) ?_
            refine lv_iload_n hx hb d_L_law_275 rfl (lv_at hl 0 rfl) ?_
            refine lv_iconst (v := nI 1) hx hb d_L_law_276 (by decide) ?_
            refine lv_iadd hx hb d_L_law_277 ?_
            refine k_top (nI_add _ _) ?_
            refine va_sld hx hb hX hbl hbA hS (i := nI (i + 1)) (vp_in_nI (by omega) (by omega)) d_L_law_278 ?_
            refine k_top (congrArg xs (nI_clamp (by omega))) ?_
            refine lv_aload_n hx hb d_L_law_279 rfl (lv_at hl 1 rfl) ?_
            refine lv_iload_n hx hb d_L_law_280 rfl (lv_at hl 0 rfl) ?_
            refine lv_iconst (v := nI 2) hx hb d_L_law_281 (by decide) ?_
            refine lv_iadd hx hb d_L_law_282 ?_
            refine k_top (nI_add _ _) ?_
            refine va_sld hx hb hX hbl hbA hS (i := nI (i + 2)) (vp_in_nI (by omega) (by omega)) d_L_law_283 ?_
            refine k_top (congrArg xs (nI_clamp (by omega))) ?_
            refine k_Vp (As := [.int (xs (i + 1)), .int (xs (i + 2))]) (rest := [.int r1]) ⟨hx, hb, hml, hown, hts⟩ (c_MX_part l E mo mb mm mw mh ml on ay y0 len nb bb okb fM lM (xs (i + 1)) (xs (i + 2)) I.2.1) (k_cwV 2 hts t_974 t_975 t_976 t_71 t_977 (by decide +kernel) ⟨Nat.le_of_ble_eq_true rfl, Nat.le_of_ble_eq_true rfl⟩) hK hG hA hP hD hS [0, 1, 2, 3, 4, 5] rfl (by decide) 0 rfl rfl rfl hl.1 rfl (Nat.le_of_ble_eq_true rfl) d_L_law_284 ⟨Nat.le_of_ble_eq_true rfl, Nat.le_of_ble_eq_true rfl⟩ (fun r2 hu2 => ?_)
            have hr := lw_part I hu1 hu2
            refine lv_icmp_eq (tgt := 423) hx hb d_L_law_287 (by decide) (fun h287 => ?_) (fun h287 => ?_)
            · refine lv_iinc (k := 0) (v := nI (i + 5)) (lv' := [(3, .int (nI (i + 5))), (0, .ref b), (1, .ref (ad 0)), (2, .ref mo)]) hx hb d_L_law_423 hl rfl (k_inc5 _) (by decide) rfl (fun ls hl => ?_)
              refine lv_goto (tgt := 18) hx hb d_L_law_426 (by decide) ?_
              exact ih (n - 5) (by omega) (i + 5) sb on ay fh fl fn w0 len lat nxt fb fg ff bb nb y0 fM lM hc hm _ _ ls (by omega) ⟨I, by omega⟩ (lv_sub hl [0, 1, 2, 3] rfl) hP hD hS
            · exact absurd hr h287
          · refine lv_tableIn (off := 260) (tgt := 292) hx hb d_L_law_32 (by decide) (by decide) (by decide) (by decide) ?_
            refine lv_aload_n hx hb d_L_law_292 rfl (lv_at hl 2 rfl) ?_
            refine lv_aload_n hx hb d_L_law_293 rfl (lv_at hl 1 rfl) ?_
            refine lv_iload_n hx hb d_L_law_294 rfl (lv_at hl 0 rfl) ?_
            refine lv_iconst (v := nI 1) hx hb d_L_law_295 (by decide) ?_
            refine lv_iadd hx hb d_L_law_296 ?_
            refine k_top (nI_add _ _) ?_
            refine va_sld hx hb hX hbl hbA hS (i := nI (i + 1)) (vp_in_nI (by omega) (by omega)) d_L_law_297 ?_
            refine k_top (congrArg xs (nI_clamp (by omega))) ?_
            refine lv_aload_n hx hb d_L_law_298 rfl (lv_at hl 1 rfl) ?_
            refine lv_iload_n hx hb d_L_law_299 rfl (lv_at hl 0 rfl) ?_
            refine lv_iconst (v := nI 2) hx hb d_L_law_300 (by decide) ?_
            refine lv_iadd hx hb d_L_law_301 ?_
            refine k_top (nI_add _ _) ?_
            refine va_sld hx hb hX hbl hbA hS (i := nI (i + 2)) (vp_in_nI (by omega) (by omega)) d_L_law_302 ?_
            refine k_top (congrArg xs (nI_clamp (by omega))) ?_
            refine lv_if_eq (tgt := 310) hx hb d_L_law_303 (by decide) (fun h303 => ?_) (fun h303 => ?_)
            · refine lv_iconst (v := nI 0) hx hb d_L_law_310 (by decide) ?_
              refine k_top (y := kb false) (by decide) ?_
              have hcon := X_memory l E ad ra sb fh fl fn w0 len lat nxt fb fg ff bb ok (xs (i + 1)) false I.1
              refine k_VpF (rm := rm_c_X_memory) (Z := [(mo, .inr (8, [.int (nI len), .ref mb, .int (kb on), .int (nI y0.1.1), .int (nI y0.1.2.1), .int (nI y0.1.2.2.1), .int (nI y0.1.2.2.2.1), .int (nI y0.1.2.2.2.2.1), .int (nI y0.2.1), .int (nI y0.1.2.2.2.2.2.2.1), .ref mm, .ref mw, .ref mh, .ref ml, .int (kb ay)])), (mb, .inl (E.2.1 0, 96, .inl (nF nb))), (mm, .inl (E.2.1 0, 160, .inl (nF y0.1.2.2.2.2.2.2.2.2))), (mw, .inl (E.2.1 0, 370, .inl (nF y0.2.2))), (mh, .inl (E.2.1 0, 144, .inl fM)), (ml, .inl (E.2.1 1, 144, .inl lM))]) (T := cW E ad ra sb fh fl fn w0 len lat nxt fb fg ff) (As := [.int (xs (i + 1)), .int (kb false)]) (rest := []) ⟨hx, hb, hml, hown, hts⟩ hcon (k_cwV 2 hts t_662 t_663 t_664 t_62 t_665 (by decide +kernel) ⟨Nat.le_of_ble_eq_true rfl, Nat.le_of_ble_eq_true rfl⟩) hK hG hA hP hD hS 0 rfl rfl rfl hl.1 rfl (Nat.le_of_ble_eq_true rfl) d_L_law_311 ⟨Nat.le_of_ble_eq_true rfl, Nat.le_of_ble_eq_true rfl⟩ (fun r1 hu1 => ?_)
              refine lv_aload_n hx hb d_L_law_314 rfl (lv_at hl 3 rfl) ?_
              refine lv_aload_n hx hb d_L_law_315 rfl (lv_at hl 1 rfl) ?_
              refine lv_iload_n hx hb d_L_law_316 rfl (lv_at hl 0 rfl) ?_
              refine lv_iconst (v := nI 1) hx hb d_L_law_317 (by decide) ?_
              refine lv_iadd hx hb d_L_law_318 ?_
              refine k_top (nI_add _ _) ?_
              refine va_sld hx hb hX hbl hbA hS (i := nI (i + 1)) (vp_in_nI (by omega) (by omega)) d_L_law_319 ?_
              refine k_top (congrArg xs (nI_clamp (by omega))) ?_
              refine lv_aload_n hx hb d_L_law_320 rfl (lv_at hl 1 rfl) ?_
              refine lv_iload_n hx hb d_L_law_321 rfl (lv_at hl 0 rfl) ?_
              refine lv_iconst (v := nI 2) hx hb d_L_law_322 (by decide) ?_
              refine lv_iadd hx hb d_L_law_323 ?_
              refine k_top (nI_add _ _) ?_
              refine va_sld hx hb hX hbl hbA hS (i := nI (i + 2)) (vp_in_nI (by omega) (by omega)) d_L_law_324 ?_
              refine k_top (congrArg xs (nI_clamp (by omega))) ?_
              refine lv_if_eq (tgt := 332) hx hb d_L_law_325 (by decide) (fun h325 => ?_) (fun h325 => ?_)
              · refine lv_iconst (v := nI 0) hx hb d_L_law_332 (by decide) ?_
                refine k_top (y := kb false) (by decide) ?_
                refine k_Vp (As := [.int (xs (i + 1)), .int (kb false)]) (rest := [.int r1]) ⟨hx, hb, hml, hown, hts⟩ (c_MX_memory l E mo mb mm mw mh ml on ay y0 len nb bb okb fM lM (xs (i + 1)) false I.2.1) (k_cwV 2 hts t_978 t_979 t_980 t_71 t_981 (by decide +kernel) ⟨Nat.le_of_ble_eq_true rfl, Nat.le_of_ble_eq_true rfl⟩) hK hG hA hP hD hS [0, 1, 2, 3, 4, 5] rfl (by decide) 0 rfl rfl rfl hl.1 rfl (Nat.le_of_ble_eq_true rfl) d_L_law_333 ⟨Nat.le_of_ble_eq_true rfl, Nat.le_of_ble_eq_true rfl⟩ (fun r2 hu2 => ?_)
                have hr := lw_memory I hu1 hu2
                refine lv_icmp_eq (tgt := 423) hx hb d_L_law_336 (by decide) (fun h336 => ?_) (fun h336 => ?_)
                · refine lv_iinc (k := 0) (v := nI (i + 5)) (lv' := [(3, .int (nI (i + 5))), (0, .ref b), (1, .ref (ad 0)), (2, .ref mo)]) hx hb d_L_law_423 hl rfl (k_inc5 _) (by decide) rfl (fun ls hl => ?_)
                  refine lv_goto (tgt := 18) hx hb d_L_law_426 (by decide) ?_
                  exact ih (n - 5) (by omega) (i + 5) sb on ay fh fl fn w0 len lat nxt fb fg ff bb nb y0 fM lM hc hm _ _ ls (by omega) ⟨I, by omega⟩ (lv_sub hl [0, 1, 2, 3] rfl) hP hD hS
                · exact absurd hr h336
              · exact absurd h303 h325
            · refine lv_iconst (v := nI 1) hx hb d_L_law_306 (by decide) ?_
              refine lv_goto (tgt := 311) hx hb d_L_law_307 (by decide) ?_
              refine k_top (y := kb true) (by decide) ?_
              have hcon := X_memory l E ad ra sb fh fl fn w0 len lat nxt fb fg ff bb ok (xs (i + 1)) true I.1
              refine k_VpF (rm := rm_c_X_memory) (Z := [(mo, .inr (8, [.int (nI len), .ref mb, .int (kb on), .int (nI y0.1.1), .int (nI y0.1.2.1), .int (nI y0.1.2.2.1), .int (nI y0.1.2.2.2.1), .int (nI y0.1.2.2.2.2.1), .int (nI y0.2.1), .int (nI y0.1.2.2.2.2.2.2.1), .ref mm, .ref mw, .ref mh, .ref ml, .int (kb ay)])), (mb, .inl (E.2.1 0, 96, .inl (nF nb))), (mm, .inl (E.2.1 0, 160, .inl (nF y0.1.2.2.2.2.2.2.2.2))), (mw, .inl (E.2.1 0, 370, .inl (nF y0.2.2))), (mh, .inl (E.2.1 0, 144, .inl fM)), (ml, .inl (E.2.1 1, 144, .inl lM))]) (T := cW E ad ra sb fh fl fn w0 len lat nxt fb fg ff) (As := [.int (xs (i + 1)), .int (kb true)]) (rest := []) ⟨hx, hb, hml, hown, hts⟩ hcon (k_cwV 2 hts t_662 t_663 t_664 t_62 t_665 (by decide +kernel) ⟨Nat.le_of_ble_eq_true rfl, Nat.le_of_ble_eq_true rfl⟩) hK hG hA hP hD hS 0 rfl rfl rfl hl.1 rfl (Nat.le_of_ble_eq_true rfl) d_L_law_311 ⟨Nat.le_of_ble_eq_true rfl, Nat.le_of_ble_eq_true rfl⟩ (fun r1 hu1 => ?_)
              refine lv_aload_n hx hb d_L_law_314 rfl (lv_at hl 3 rfl) ?_
              refine lv_aload_n hx hb d_L_law_315 rfl (lv_at hl 1 rfl) ?_
              refine lv_iload_n hx hb d_L_law_316 rfl (lv_at hl 0 rfl) ?_
              refine lv_iconst (v := nI 1) hx hb d_L_law_317 (by decide) ?_
              refine lv_iadd hx hb d_L_law_318 ?_
              refine k_top (nI_add _ _) ?_
              refine va_sld hx hb hX hbl hbA hS (i := nI (i + 1)) (vp_in_nI (by omega) (by omega)) d_L_law_319 ?_
              refine k_top (congrArg xs (nI_clamp (by omega))) ?_
              refine lv_aload_n hx hb d_L_law_320 rfl (lv_at hl 1 rfl) ?_
              refine lv_iload_n hx hb d_L_law_321 rfl (lv_at hl 0 rfl) ?_
              refine lv_iconst (v := nI 2) hx hb d_L_law_322 (by decide) ?_
              refine lv_iadd hx hb d_L_law_323 ?_
              refine k_top (nI_add _ _) ?_
              refine va_sld hx hb hX hbl hbA hS (i := nI (i + 2)) (vp_in_nI (by omega) (by omega)) d_L_law_324 ?_
              refine k_top (congrArg xs (nI_clamp (by omega))) ?_
              refine lv_if_eq (tgt := 332) hx hb d_L_law_325 (by decide) (fun h325 => ?_) (fun h325 => ?_)
              · exact absurd h325 h303
              · refine lv_iconst (v := nI 1) hx hb d_L_law_328 (by decide) ?_
                refine lv_goto (tgt := 333) hx hb d_L_law_329 (by decide) ?_
                refine k_top (y := kb true) (by decide) ?_
                refine k_Vp (As := [.int (xs (i + 1)), .int (kb true)]) (rest := [.int r1]) ⟨hx, hb, hml, hown, hts⟩ (c_MX_memory l E mo mb mm mw mh ml on ay y0 len nb bb okb fM lM (xs (i + 1)) true I.2.1) (k_cwV 2 hts t_978 t_979 t_980 t_71 t_981 (by decide +kernel) ⟨Nat.le_of_ble_eq_true rfl, Nat.le_of_ble_eq_true rfl⟩) hK hG hA hP hD hS [0, 1, 2, 3, 4, 5] rfl (by decide) 0 rfl rfl rfl hl.1 rfl (Nat.le_of_ble_eq_true rfl) d_L_law_333 ⟨Nat.le_of_ble_eq_true rfl, Nat.le_of_ble_eq_true rfl⟩ (fun r2 hu2 => ?_)
                have hr := lw_memory I hu1 hu2
                refine lv_icmp_eq (tgt := 423) hx hb d_L_law_336 (by decide) (fun h336 => ?_) (fun h336 => ?_)
                · refine lv_iinc (k := 0) (v := nI (i + 5)) (lv' := [(3, .int (nI (i + 5))), (0, .ref b), (1, .ref (ad 0)), (2, .ref mo)]) hx hb d_L_law_423 hl rfl (k_inc5 _) (by decide) rfl (fun ls hl => ?_)
                  refine lv_goto (tgt := 18) hx hb d_L_law_426 (by decide) ?_
                  exact ih (n - 5) (by omega) (i + 5) sb on ay fh fl fn w0 len lat nxt fb fg ff bb nb y0 fM lM hc hm _ _ ls (by omega) ⟨I, by omega⟩ (lv_sub hl [0, 1, 2, 3] rfl) hP hD hS
                · exact absurd hr h336
          · refine lv_tableIn (off := 309) (tgt := 341) hx hb d_L_law_32 (by decide) (by decide) (by decide) (by decide) ?_
            refine lv_aload_n hx hb d_L_law_341 rfl (lv_at hl 2 rfl) ?_
            refine lv_aload_n hx hb d_L_law_342 rfl (lv_at hl 1 rfl) ?_
            refine lv_iload_n hx hb d_L_law_343 rfl (lv_at hl 0 rfl) ?_
            refine lv_iconst (v := nI 1) hx hb d_L_law_344 (by decide) ?_
            refine lv_iadd hx hb d_L_law_345 ?_
            refine k_top (nI_add _ _) ?_
            refine va_sld hx hb hX hbl hbA hS (i := nI (i + 1)) (vp_in_nI (by omega) (by omega)) d_L_law_346 ?_
            refine k_top (congrArg xs (nI_clamp (by omega))) ?_
            have hcon := X_state l E ad ra sb fh fl fn w0 len lat nxt fb fg ff bb ok (xs (i + 1))
            refine k_VpF (rm := rm_c_X_state) (Z := [(mo, .inr (8, [.int (nI len), .ref mb, .int (kb on), .int (nI y0.1.1), .int (nI y0.1.2.1), .int (nI y0.1.2.2.1), .int (nI y0.1.2.2.2.1), .int (nI y0.1.2.2.2.2.1), .int (nI y0.2.1), .int (nI y0.1.2.2.2.2.2.2.1), .ref mm, .ref mw, .ref mh, .ref ml, .int (kb ay)])), (mb, .inl (E.2.1 0, 96, .inl (nF nb))), (mm, .inl (E.2.1 0, 160, .inl (nF y0.1.2.2.2.2.2.2.2.2))), (mw, .inl (E.2.1 0, 370, .inl (nF y0.2.2))), (mh, .inl (E.2.1 0, 144, .inl fM)), (ml, .inl (E.2.1 1, 144, .inl lM))]) (T := cW E ad ra sb fh fl fn w0 len lat nxt fb fg ff) (As := [.int (xs (i + 1))]) (rest := []) ⟨hx, hb, hml, hown, hts⟩ hcon (k_cwV 1 hts t_678 t_679 t_680 t_62 t_681 (by decide +kernel) ⟨Nat.le_of_ble_eq_true rfl, Nat.le_of_ble_eq_true rfl⟩) hK hG hA hP hD hS 0 rfl rfl rfl hl.1 rfl (Nat.le_of_ble_eq_true rfl) d_L_law_347 ⟨Nat.le_of_ble_eq_true rfl, Nat.le_of_ble_eq_true rfl⟩ (fun r1 hu1 => ?_)
            refine lv_aload_n hx hb d_L_law_350 rfl (lv_at hl 3 rfl) ?_
            refine lv_aload_n hx hb d_L_law_351 rfl (lv_at hl 1 rfl) ?_
            refine lv_iload_n hx hb d_L_law_352 rfl (lv_at hl 0 rfl) ?_
            refine lv_iconst (v := nI 1) hx hb d_L_law_353 (by decide) ?_
            refine lv_iadd hx hb d_L_law_354 ?_
            refine k_top (nI_add _ _) ?_
            refine va_sld hx hb hX hbl hbA hS (i := nI (i + 1)) (vp_in_nI (by omega) (by omega)) d_L_law_355 ?_
            refine k_top (congrArg xs (nI_clamp (by omega))) ?_
            refine k_Vp (As := [.int (xs (i + 1))]) (rest := [.int r1]) ⟨hx, hb, hml, hown, hts⟩ (c_MX_state l E mo mb mm mw mh ml on ay y0 len nb bb okb fM lM (xs (i + 1)) I.2.1) (k_cwV 1 hts t_982 t_983 t_984 t_71 t_985 (by decide +kernel) ⟨Nat.le_of_ble_eq_true rfl, Nat.le_of_ble_eq_true rfl⟩) hK hG hA hP hD hS [0, 1, 2, 3, 4, 5] rfl (by decide) 0 rfl rfl rfl hl.1 rfl (Nat.le_of_ble_eq_true rfl) d_L_law_356 ⟨Nat.le_of_ble_eq_true rfl, Nat.le_of_ble_eq_true rfl⟩ (fun r2 hu2 => ?_)
            have hr := lw_state I hu1 hu2
            refine lv_icmp_eq (tgt := 423) hx hb d_L_law_359 (by decide) (fun h359 => ?_) (fun h359 => ?_)
            · refine lv_iinc (k := 0) (v := nI (i + 5)) (lv' := [(3, .int (nI (i + 5))), (0, .ref b), (1, .ref (ad 0)), (2, .ref mo)]) hx hb d_L_law_423 hl rfl (k_inc5 _) (by decide) rfl (fun ls hl => ?_)
              refine lv_goto (tgt := 18) hx hb d_L_law_426 (by decide) ?_
              exact ih (n - 5) (by omega) (i + 5) sb on ay fh fl fn w0 len lat nxt fb fg ff bb nb y0 fM lM hc hm _ _ ls (by omega) ⟨I, by omega⟩ (lv_sub hl [0, 1, 2, 3] rfl) hP hD hS
            · exact absurd hr h359
          · refine lv_tableIn (off := 332) (tgt := 364) hx hb d_L_law_32 (by decide) (by decide) (by decide) (by decide) ?_
            refine lv_aload_n hx hb d_L_law_364 rfl (lv_at hl 2 rfl) ?_
            have hcon := X_analyse l E ad ra sb fh fl fn w0 len lat nxt fb fg ff bb ok 
            refine k_ViF (rm := rm_c_X_analyse) (Z := [(mo, .inr (8, [.int (nI len), .ref mb, .int (kb on), .int (nI y0.1.1), .int (nI y0.1.2.1), .int (nI y0.1.2.2.1), .int (nI y0.1.2.2.2.1), .int (nI y0.1.2.2.2.2.1), .int (nI y0.2.1), .int (nI y0.1.2.2.2.2.2.2.1), .ref mm, .ref mw, .ref mh, .ref ml, .int (kb ay)])), (mb, .inl (E.2.1 0, 96, .inl (nF nb))), (mm, .inl (E.2.1 0, 160, .inl (nF y0.1.2.2.2.2.2.2.2.2))), (mw, .inl (E.2.1 0, 370, .inl (nF y0.2.2))), (mh, .inl (E.2.1 0, 144, .inl fM)), (ml, .inl (E.2.1 1, 144, .inl lM))]) (T := cW E ad ra sb fh fl fn w0 len lat nxt fb fg ff) (As := []) (rest := []) ⟨hx, hb, hml, hown, hts⟩ hcon (k_cwV 0 hts t_686 t_687 t_688 t_62 t_689 (by decide +kernel) ⟨Nat.le_of_ble_eq_true rfl, Nat.le_of_ble_eq_true rfl⟩) hK hG hA hP hD hS 0 rfl rfl (by exact fun _ => cW_fst) rfl hl.1 rfl (Nat.le_of_ble_eq_true rfl) d_L_law_365 ⟨Nat.le_of_ble_eq_true rfl, Nat.le_of_ble_eq_true rfl⟩ (fun r1 u1 H locs hu1 hP hD hS => ?_)
            have hP : va_P E.1 vwCl ([(mo, .inr (8, [.int (nI len), .ref mb, .int (kb on), .int (nI y0.1.1), .int (nI y0.1.2.1), .int (nI y0.1.2.2.1), .int (nI y0.1.2.2.2.1), .int (nI y0.1.2.2.2.2.1), .int (nI y0.2.1), .int (nI y0.1.2.2.2.2.2.2.1), .ref mm, .ref mw, .ref mh, .ref ml, .int (kb ay)])), (mb, .inl (E.2.1 0, 96, .inl (nF nb))), (mm, .inl (E.2.1 0, 160, .inl (nF y0.1.2.2.2.2.2.2.2.2))), (mw, .inl (E.2.1 0, 370, .inl (nF y0.2.2))), (mh, .inl (E.2.1 0, 144, .inl fM)), (ml, .inl (E.2.1 1, 144, .inl lM))] ++ cW E ad ra sb u1.1 u1.2.1 u1.2.2 w0 len lat nxt fb fg ff) H := hP
            have hD : va_D A ([(mo, .inr (8, [.int (nI len), .ref mb, .int (kb on), .int (nI y0.1.1), .int (nI y0.1.2.1), .int (nI y0.1.2.2.1), .int (nI y0.1.2.2.2.1), .int (nI y0.1.2.2.2.2.1), .int (nI y0.2.1), .int (nI y0.1.2.2.2.2.2.2.1), .ref mm, .ref mw, .ref mh, .ref ml, .int (kb ay)])), (mb, .inl (E.2.1 0, 96, .inl (nF nb))), (mm, .inl (E.2.1 0, 160, .inl (nF y0.1.2.2.2.2.2.2.2.2))), (mw, .inl (E.2.1 0, 370, .inl (nF y0.2.2))), (mh, .inl (E.2.1 0, 144, .inl fM)), (ml, .inl (E.2.1 1, 144, .inl lM))] ++ cW E ad ra sb u1.1 u1.2.1 u1.2.2 w0 len lat nxt fb fg ff) := hD
            refine lv_aload_n hx hb d_L_law_368 rfl (lv_at hl 3 rfl) ?_
            refine k_Vi (As := []) (rest := [.int r1]) ⟨hx, hb, hml, hown, hts⟩ (c_M_analyse l E mo mb mm mw mh ml len y0.1.1 y0.1.2.1 y0.1.2.2.1 y0.1.2.2.2.1 y0.1.2.2.2.2.1 y0.2.1 y0.1.2.2.2.2.2.2.1 on ay nb bb okb fM lM) (k_cwV 0 hts t_990 t_991 t_992 t_71 t_993 (by decide +kernel) ⟨Nat.le_of_ble_eq_true rfl, Nat.le_of_ble_eq_true rfl⟩) hK hG hA hP hD hS [0, 1, 4, 5] rfl (by decide) 0 rfl rfl (fun _ => rfl) rfl hl.1 rfl (Nat.le_of_ble_eq_true rfl) d_L_law_369 ⟨Nat.le_of_ble_eq_true rfl, Nat.le_of_ble_eq_true rfl⟩ (fun r2 u2 H locs hu2 hP hD hS => ?_)
            have hP : va_P E.1 vwCl ([(mo, .inr (8, [.int (nI len), .ref mb, .int (kb on), .int (nI y0.1.1), .int (nI y0.1.2.1), .int (nI y0.1.2.2.1), .int (nI y0.1.2.2.2.1), .int (nI y0.1.2.2.2.2.1), .int (nI y0.2.1), .int (nI y0.1.2.2.2.2.2.2.1), .ref mm, .ref mw, .ref mh, .ref ml, .int (kb true)])), (mb, .inl (E.2.1 0, 96, .inl (nF nb))), (mm, .inl (E.2.1 0, 160, .inl (nF y0.1.2.2.2.2.2.2.2.2))), (mw, .inl (E.2.1 0, 370, .inl (nF y0.2.2))), (mh, .inl (E.2.1 0, 144, .inl u2.1)), (ml, .inl (E.2.1 1, 144, .inl u2.2))] ++ cW E ad ra sb u1.1 u1.2.1 u1.2.2 w0 len lat nxt fb fg ff) H := hP
            have hD : va_D A ([(mo, .inr (8, [.int (nI len), .ref mb, .int (kb on), .int (nI y0.1.1), .int (nI y0.1.2.1), .int (nI y0.1.2.2.1), .int (nI y0.1.2.2.2.1), .int (nI y0.1.2.2.2.2.1), .int (nI y0.2.1), .int (nI y0.1.2.2.2.2.2.2.1), .ref mm, .ref mw, .ref mh, .ref ml, .int (kb true)])), (mb, .inl (E.2.1 0, 96, .inl (nF nb))), (mm, .inl (E.2.1 0, 160, .inl (nF y0.1.2.2.2.2.2.2.2.2))), (mw, .inl (E.2.1 0, 370, .inl (nF y0.2.2))), (mh, .inl (E.2.1 0, 144, .inl u2.1)), (ml, .inl (E.2.1 1, 144, .inl u2.2))] ++ cW E ad ra sb u1.1 u1.2.1 u1.2.2 w0 len lat nxt fb fg ff) := hD
            obtain ⟨hr, I2⟩ := lw_analyse I hu1 hu2
            refine lv_icmp_eq (tgt := 423) hx hb d_L_law_372 (by decide) (fun h372 => ?_) (fun h372 => ?_)
            · refine lv_iinc (k := 0) (v := nI (i + 5)) (lv' := [(3, .int (nI (i + 5))), (0, .ref b), (1, .ref (ad 0)), (2, .ref mo)]) hx hb d_L_law_423 hl rfl (k_inc5 _) (by decide) rfl (fun ls hl => ?_)
              refine lv_goto (tgt := 18) hx hb d_L_law_426 (by decide) ?_
              exact ih (n - 5) (by omega) (i + 5) sb on true u1.1 u1.2.1 u1.2.2 w0 len lat nxt fb fg ff bb nb y0 u2.1 u2.2 ((a_judge len bb).2) ((a_judge len bb).2) _ _ ls (by omega) ⟨I2, by omega⟩ (lv_sub hl [0, 1, 2, 3] rfl) hP hD hS
            · exact absurd hr h372
          · refine lv_tableIn (off := 345) (tgt := 377) hx hb d_L_law_32 (by decide) (by decide) (by decide) (by decide) ?_
            refine lv_aload_n hx hb d_L_law_377 rfl (lv_at hl 2 rfl) ?_
            refine lv_aload_n hx hb d_L_law_378 rfl (lv_at hl 1 rfl) ?_
            refine lv_iload_n hx hb d_L_law_379 rfl (lv_at hl 0 rfl) ?_
            refine lv_iconst (v := nI 1) hx hb d_L_law_380 (by decide) ?_
            refine lv_iadd hx hb d_L_law_381 ?_
            refine k_top (nI_add _ _) ?_
            refine va_sld hx hb hX hbl hbA hS (i := nI (i + 1)) (vp_in_nI (by omega) (by omega)) d_L_law_382 ?_
            refine k_top (congrArg xs (nI_clamp (by omega))) ?_
            have hcon := X_reached l E ad ra sb fh fl fn w0 len lat nxt fb fg ff bb ok hc I.2.2.2.2.2.2.2.2.1 (xs (i + 1))
            refine k_VpF (rm := rm_c_X_reached) (Z := [(mo, .inr (8, [.int (nI len), .ref mb, .int (kb on), .int (nI y0.1.1), .int (nI y0.1.2.1), .int (nI y0.1.2.2.1), .int (nI y0.1.2.2.2.1), .int (nI y0.1.2.2.2.2.1), .int (nI y0.2.1), .int (nI y0.1.2.2.2.2.2.2.1), .ref mm, .ref mw, .ref mh, .ref ml, .int (kb ay)])), (mb, .inl (E.2.1 0, 96, .inl (nF nb))), (mm, .inl (E.2.1 0, 160, .inl (nF y0.1.2.2.2.2.2.2.2.2))), (mw, .inl (E.2.1 0, 370, .inl (nF y0.2.2))), (mh, .inl (E.2.1 0, 144, .inl fM)), (ml, .inl (E.2.1 1, 144, .inl lM))]) (T := cW E ad ra sb fh fl fn w0 len lat nxt fb fg ff) (As := [.int (xs (i + 1))]) (rest := []) ⟨hx, hb, hml, hown, hts⟩ hcon (k_cwV 1 hts t_728 t_729 t_730 t_62 t_731 (by decide +kernel) ⟨Nat.le_of_ble_eq_true rfl, Nat.le_of_ble_eq_true rfl⟩) hK hG hA hP hD hS 0 rfl rfl rfl hl.1 rfl (Nat.le_of_ble_eq_true rfl) d_L_law_383 ⟨Nat.le_of_ble_eq_true rfl, Nat.le_of_ble_eq_true rfl⟩ (fun r1 hu1 => ?_)
            refine lv_aload_n hx hb d_L_law_386 rfl (lv_at hl 3 rfl) ?_
            refine lv_aload_n hx hb d_L_law_387 rfl (lv_at hl 1 rfl) ?_
            refine lv_iload_n hx hb d_L_law_388 rfl (lv_at hl 0 rfl) ?_
            refine lv_iconst (v := nI 1) hx hb d_L_law_389 (by decide) ?_
            refine lv_iadd hx hb d_L_law_390 ?_
            refine k_top (nI_add _ _) ?_
            refine va_sld hx hb hX hbl hbA hS (i := nI (i + 1)) (vp_in_nI (by omega) (by omega)) d_L_law_391 ?_
            refine k_top (congrArg xs (nI_clamp (by omega))) ?_
            refine k_Vp (As := [.int (xs (i + 1))]) (rest := [.int r1]) ⟨hx, hb, hml, hown, hts⟩ (c_MX_reached l E mo mb mm mw mh ml on ay y0 len nb bb okb fM lM hm (fun q => (I.2.2.2.2.2.2.2.2.2.1 q).1) (xs (i + 1))) (k_cwV 1 hts t_986 t_987 t_988 t_71 t_989 (by decide +kernel) ⟨Nat.le_of_ble_eq_true rfl, Nat.le_of_ble_eq_true rfl⟩) hK hG hA hP hD hS [0, 1, 2, 3, 4, 5] rfl (by decide) 0 rfl rfl rfl hl.1 rfl (Nat.le_of_ble_eq_true rfl) d_L_law_392 ⟨Nat.le_of_ble_eq_true rfl, Nat.le_of_ble_eq_true rfl⟩ (fun r2 hu2 => ?_)
            have hr := lw_reached I hu1 hu2
            refine lv_icmp_eq (tgt := 423) hx hb d_L_law_395 (by decide) (fun h395 => ?_) (fun h395 => ?_)
            · refine lv_iinc (k := 0) (v := nI (i + 5)) (lv' := [(3, .int (nI (i + 5))), (0, .ref b), (1, .ref (ad 0)), (2, .ref mo)]) hx hb d_L_law_423 hl rfl (k_inc5 _) (by decide) rfl (fun ls hl => ?_)
              refine lv_goto (tgt := 18) hx hb d_L_law_426 (by decide) ?_
              exact ih (n - 5) (by omega) (i + 5) sb on ay fh fl fn w0 len lat nxt fb fg ff bb nb y0 fM lM hc hm _ _ ls (by omega) ⟨I, by omega⟩ (lv_sub hl [0, 1, 2, 3] rfl) hP hD hS
            · exact absurd hr h395
          · refine lv_tableIn (off := 368) (tgt := 400) hx hb d_L_law_32 (by decide) (by decide) (by decide) (by decide) ?_
            refine lv_aload_n hx hb d_L_law_400 rfl (lv_at hl 2 rfl) ?_
            refine lv_aload_n hx hb d_L_law_401 rfl (lv_at hl 1 rfl) ?_
            refine lv_iload_n hx hb d_L_law_402 rfl (lv_at hl 0 rfl) ?_
            refine lv_iconst (v := nI 1) hx hb d_L_law_403 (by decide) ?_
            refine lv_iadd hx hb d_L_law_404 ?_
            refine k_top (nI_add _ _) ?_
            refine va_sld hx hb hX hbl hbA hS (i := nI (i + 1)) (vp_in_nI (by omega) (by omega)) d_L_law_405 ?_
            refine k_top (congrArg xs (nI_clamp (by omega))) ?_
            have hcon := X_marked l E ad ra sb fh fl fn w0 len lat nxt fb fg ff bb ok (xs (i + 1))
            refine k_VpF (rm := rm_c_X_marked) (Z := [(mo, .inr (8, [.int (nI len), .ref mb, .int (kb on), .int (nI y0.1.1), .int (nI y0.1.2.1), .int (nI y0.1.2.2.1), .int (nI y0.1.2.2.2.1), .int (nI y0.1.2.2.2.2.1), .int (nI y0.2.1), .int (nI y0.1.2.2.2.2.2.2.1), .ref mm, .ref mw, .ref mh, .ref ml, .int (kb ay)])), (mb, .inl (E.2.1 0, 96, .inl (nF nb))), (mm, .inl (E.2.1 0, 160, .inl (nF y0.1.2.2.2.2.2.2.2.2))), (mw, .inl (E.2.1 0, 370, .inl (nF y0.2.2))), (mh, .inl (E.2.1 0, 144, .inl fM)), (ml, .inl (E.2.1 1, 144, .inl lM))]) (T := cW E ad ra sb fh fl fn w0 len lat nxt fb fg ff) (As := [.int (xs (i + 1))]) (rest := []) ⟨hx, hb, hml, hown, hts⟩ hcon (k_cwV 1 hts t_736 t_737 t_738 t_62 t_739 (by decide +kernel) ⟨Nat.le_of_ble_eq_true rfl, Nat.le_of_ble_eq_true rfl⟩) hK hG hA hP hD hS 0 rfl rfl rfl hl.1 rfl (Nat.le_of_ble_eq_true rfl) d_L_law_406 ⟨Nat.le_of_ble_eq_true rfl, Nat.le_of_ble_eq_true rfl⟩ (fun r1 hu1 => ?_)
            refine lv_aload_n hx hb d_L_law_409 rfl (lv_at hl 3 rfl) ?_
            refine lv_aload_n hx hb d_L_law_410 rfl (lv_at hl 1 rfl) ?_
            refine lv_iload_n hx hb d_L_law_411 rfl (lv_at hl 0 rfl) ?_
            refine lv_iconst (v := nI 1) hx hb d_L_law_412 (by decide) ?_
            refine lv_iadd hx hb d_L_law_413 ?_
            refine k_top (nI_add _ _) ?_
            refine va_sld hx hb hX hbl hbA hS (i := nI (i + 1)) (vp_in_nI (by omega) (by omega)) d_L_law_414 ?_
            refine k_top (congrArg xs (nI_clamp (by omega))) ?_
            refine k_Vp (As := [.int (xs (i + 1))]) (rest := [.int r1]) ⟨hx, hb, hml, hown, hts⟩ (c_M_marked l E mo mb mm mw mh ml len y0.1.1 y0.1.2.1 y0.1.2.2.1 y0.1.2.2.2.1 y0.1.2.2.2.2.1 y0.2.1 y0.1.2.2.2.2.2.2.1 on ay nb bb okb (xs (i + 1))) (k_cwV 1 hts t_801 t_802 t_803 t_71 t_804 (by decide +kernel) ⟨Nat.le_of_ble_eq_true rfl, Nat.le_of_ble_eq_true rfl⟩) hK hG hA hP hD hS [0, 1] rfl (by decide) 0 rfl rfl rfl hl.1 rfl (Nat.le_of_ble_eq_true rfl) d_L_law_415 ⟨Nat.le_of_ble_eq_true rfl, Nat.le_of_ble_eq_true rfl⟩ (fun r2 hu2 => ?_)
            have hr := hu1.trans hu2.symm
            refine lv_icmp_eq (tgt := 423) hx hb d_L_law_418 (by decide) (fun h418 => ?_) (fun h418 => ?_)
            · refine lv_iinc (k := 0) (v := nI (i + 5)) (lv' := [(3, .int (nI (i + 5))), (0, .ref b), (1, .ref (ad 0)), (2, .ref mo)]) hx hb d_L_law_423 hl rfl (k_inc5 _) (by decide) rfl (fun ls hl => ?_)
              refine lv_goto (tgt := 18) hx hb d_L_law_426 (by decide) ?_
              exact ih (n - 5) (by omega) (i + 5) sb on ay fh fl fn w0 len lat nxt fb fg ff bb nb y0 fM lM hc hm _ _ ls (by omega) ⟨I, by omega⟩ (lv_sub hl [0, 1, 2, 3] rfl) hP hD hS
            · exact absurd hr h418
          · refine lv_tableOut (tgt := 423) hx hb d_L_law_32 (by decide) (by decide) ?_
            refine lv_iinc (k := 0) (v := nI (i + 5)) (lv' := [(3, .int (nI (i + 5))), (0, .ref b), (1, .ref (ad 0)), (2, .ref mo)]) hx hb d_L_law_423 hl rfl (k_inc5 _) (by decide) rfl (fun ls hl => ?_)
            refine lv_goto (tgt := 18) hx hb d_L_law_426 (by decide) ?_
            exact ih (n - 5) (by omega) (i + 5) sb on ay fh fl fn w0 len lat nxt fb fg ff bb nb y0 fM lM hc hm _ _ ls (by omega) ⟨I, by omega⟩ (lv_sub hl [0, 1, 2, 3] rfl) hP hD hS
          · refine lv_tableOut (tgt := 423) hx hb d_L_law_32 (by decide) (by decide) ?_
            refine lv_iinc (k := 0) (v := nI (i + 5)) (lv' := [(3, .int (nI (i + 5))), (0, .ref b), (1, .ref (ad 0)), (2, .ref mo)]) hx hb d_L_law_423 hl rfl (k_inc5 _) (by decide) rfl (fun ls hl => ?_)
            refine lv_goto (tgt := 18) hx hb d_L_law_426 (by decide) ?_
            exact ih (n - 5) (by omega) (i + 5) sb on ay fh fl fn w0 len lat nxt fb fg ff bb nb y0 fM lM hc hm _ _ ls (by omega) ⟨I, by omega⟩ (lv_sub hl [0, 1, 2, 3] rfl) hP hD hS
          · refine lv_tableOut (tgt := 423) hx hb d_L_law_32 (by decide) (by decide) ?_
            refine lv_iinc (k := 0) (v := nI (i + 5)) (lv' := [(3, .int (nI (i + 5))), (0, .ref b), (1, .ref (ad 0)), (2, .ref mo)]) hx hb d_L_law_423 hl rfl (k_inc5 _) (by decide) rfl (fun ls hl => ?_)
            refine lv_goto (tgt := 18) hx hb d_L_law_426 (by decide) ?_
            exact ih (n - 5) (by omega) (i + 5) sb on ay fh fl fn w0 len lat nxt fb fg ff bb nb y0 fM lM hc hm _ _ ls (by omega) ⟨I, by omega⟩ (lv_sub hl [0, 1, 2, 3] rfl) hP hD hS
      · skip
        refine lv_isub hx hb d_L_law_22 ?_
        refine lv_icmp_gt (tgt := 429) hx hb d_L_law_23 (by decide) (fun h23 => ?_) (fun h23 => ?_)
        · refine lv_iconst (v := nI 1) hx hb d_L_law_429 (by decide) ?_
          exact hret _ _ ls hS
        · exact absurd (Int32.lt_of_lt_of_le (pk_sneg (by decide) (by omega)) (nI_pos' (by omega))) h23
  exact key18 n0 i sb on ay fh fl fn w0 len lat nxt fb fg ff bb nb y0 fM lM hc hm _ _ ls hn0 hI0 (lv_sub hl [0, 1, 2, 3] rfl) hP hD hS

