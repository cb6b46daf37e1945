theorem m_op_1 (a b c : Nat) : m_op 1 a b c = (a + b) % mM := rfl
theorem m_op_2 (a b c : Nat) : m_op 2 a b c = a * b % mM := rfl
theorem m_op_3 (a b c : Nat) : m_op 3 a b c = (a + (mM - b)) % mM := rfl
theorem m_op_4 (a b c : Nat) : m_op 4 a b c = a / b := rfl
theorem m_op_5 (a b c : Nat) : m_op 5 a b c = m_sdiv a b := rfl
theorem m_op_6 (a b c : Nat) : m_op 6 a b c = m_rem a b := rfl
theorem m_op_7 (a b c : Nat) : m_op 7 a b c = m_srem a b := rfl
theorem m_op_8 (a b c : Nat) : m_op 8 a b c = m_rem (a + b) c := rfl
theorem m_op_9 (a b c : Nat) : m_op 9 a b c = m_rem (a * b) c := rfl
theorem m_op_11 (a b c : Nat) : m_op 11 a b c = m_sext a b := rfl
theorem m_op_16 (a b c : Nat) : m_op 16 a b c = m_b (decide (a < b)) := rfl
theorem m_op_17 (a b c : Nat) : m_op 17 a b c = m_b (decide (b < a)) := rfl
theorem m_op_18 (a b c : Nat) : m_op 18 a b c = m_b (m_slt a b) := rfl
theorem m_op_19 (a b c : Nat) : m_op 19 a b c = m_b (m_slt b a) := rfl
theorem m_op_20 (a b c : Nat) : m_op 20 a b c = m_b (decide (a = b)) := rfl
theorem m_op_21 (a b c : Nat) : m_op 21 a b c = m_b (decide (a = 0)) := rfl
theorem m_op_22 (a b c : Nat) : m_op 22 a b c = a &&& b := rfl
theorem m_op_23 (a b c : Nat) : m_op 23 a b c = a ||| b := rfl
theorem m_op_24 (a b c : Nat) : m_op 24 a b c = a ^^^ b := rfl
theorem m_op_25 (a b c : Nat) : m_op 25 a b c = mM - 1 - a := rfl
theorem m_op_26 (a b c : Nat) : m_op 26 a b c = m_byte a b := rfl
theorem m_op_27 (a b c : Nat) : m_op 27 a b c = m_shl a b := rfl
theorem m_op_28 (a b c : Nat) : m_op 28 a b c = m_shr a b := rfl
theorem m_op_29 (a b c : Nat) : m_op 29 a b c = m_sar a b := rfl
theorem srem_if (a b : Nat) : (if m_isneg a then m_neg (m_rem (m_abs a) (m_abs b)) else m_rem (m_abs a) (m_abs b)) = m_srem a b := rfl

def rm_c_C_compute : Room := { frames := 4, cells := 0, slots := 0, locals := 105 }
abbrev y_Ca_compute : MethodName := ⟨"WideStack$Calculator", "compute", "(I[I[I[I[I)V"⟩
theorem d_Ca_compute_0 : decode prog_3_method_2_code 0 = .ok (.iload_n 1, 1) := by decide +kernel
theorem d_Ca_compute_1 : decode prog_3_method_2_code 1 = .ok (.tableswitch 494 1 29 #[131, 142, 153, 163, 174, 211, 222, 247, 260, 494, 273, 494, 494, 494, 494, 283, 304, 325, 346, 367, 388, 400, 410, 420, 430, 439, 457, 470, 484], 131) := by decide +kernel
theorem d_Ca_compute_132 : decode prog_3_method_2_code 132 = .ok (.aload_n 2, 1) := by decide +kernel
theorem d_Ca_compute_133 : decode prog_3_method_2_code 133 = .ok (.aload_n 3, 1) := by decide +kernel
theorem d_Ca_compute_134 : decode prog_3_method_2_code 134 = .ok (.aload 5, 2) := by decide +kernel
theorem d_Ca_compute_136 : decode prog_3_method_2_code 136 = .ok (.invokestatic 28, 3) := by decide +kernel
theorem d_Ca_compute_139 : decode prog_3_method_2_code 139 = .ok (.pop, 1) := by decide +kernel
theorem d_Ca_compute_140 : decode prog_3_method_2_code 140 = .ok (.goto 360, 3) := by decide +kernel
theorem d_Ca_compute_143 : decode prog_3_method_2_code 143 = .ok (.aload_n 0, 1) := by decide +kernel
theorem d_Ca_compute_144 : decode prog_3_method_2_code 144 = .ok (.aload_n 2, 1) := by decide +kernel
theorem d_Ca_compute_145 : decode prog_3_method_2_code 145 = .ok (.aload_n 3, 1) := by decide +kernel
theorem d_Ca_compute_146 : decode prog_3_method_2_code 146 = .ok (.aload 5, 2) := by decide +kernel
theorem d_Ca_compute_148 : decode prog_3_method_2_code 148 = .ok (.invokevirtual 32, 3) := by decide +kernel
theorem d_Ca_compute_151 : decode prog_3_method_2_code 151 = .ok (.goto 349, 3) := by decide +kernel
theorem d_Ca_compute_154 : decode prog_3_method_2_code 154 = .ok (.aload_n 2, 1) := by decide +kernel
theorem d_Ca_compute_155 : decode prog_3_method_2_code 155 = .ok (.aload_n 3, 1) := by decide +kernel
theorem d_Ca_compute_156 : decode prog_3_method_2_code 156 = .ok (.aload 5, 2) := by decide +kernel
theorem d_Ca_compute_158 : decode prog_3_method_2_code 158 = .ok (.invokestatic 36, 3) := by decide +kernel
theorem d_Ca_compute_161 : decode prog_3_method_2_code 161 = .ok (.goto 339, 3) := by decide +kernel
theorem d_Ca_compute_164 : decode prog_3_method_2_code 164 = .ok (.aload_n 0, 1) := by decide +kernel
theorem d_Ca_compute_165 : decode prog_3_method_2_code 165 = .ok (.aload_n 2, 1) := by decide +kernel
theorem d_Ca_compute_166 : decode prog_3_method_2_code 166 = .ok (.aload_n 3, 1) := by decide +kernel
theorem d_Ca_compute_167 : decode prog_3_method_2_code 167 = .ok (.aload 5, 2) := by decide +kernel
theorem d_Ca_compute_169 : decode prog_3_method_2_code 169 = .ok (.invokevirtual 39, 3) := by decide +kernel
theorem d_Ca_compute_172 : decode prog_3_method_2_code 172 = .ok (.goto 328, 3) := by decide +kernel
theorem d_Ca_compute_175 : decode prog_3_method_2_code 175 = .ok (.aload_n 0, 1) := by decide +kernel
theorem d_Ca_compute_176 : decode prog_3_method_2_code 176 = .ok (.aload_n 2, 1) := by decide +kernel
theorem d_Ca_compute_177 : decode prog_3_method_2_code 177 = .ok (.aload_n 3, 1) := by decide +kernel
theorem d_Ca_compute_178 : decode prog_3_method_2_code 178 = .ok (.invokevirtual 42, 3) := by decide +kernel
theorem d_Ca_compute_181 : decode prog_3_method_2_code 181 = .ok (.aload_n 0, 1) := by decide +kernel
theorem d_Ca_compute_182 : decode prog_3_method_2_code 182 = .ok (.getfield 10, 3) := by decide +kernel
theorem d_Ca_compute_185 : decode prog_3_method_2_code 185 = .ok (.getfield 46, 3) := by decide +kernel
theorem d_Ca_compute_188 : decode prog_3_method_2_code 188 = .ok (.aload_n 2, 1) := by decide +kernel
theorem d_Ca_compute_189 : decode prog_3_method_2_code 189 = .ok (.invokestatic 49, 3) := by decide +kernel
theorem d_Ca_compute_192 : decode prog_3_method_2_code 192 = .ok (.aload_n 3, 1) := by decide +kernel
theorem d_Ca_compute_193 : decode prog_3_method_2_code 193 = .ok (.invokestatic 49, 3) := by decide +kernel
theorem d_Ca_compute_196 : decode prog_3_method_2_code 196 = .ok (.if_icmp .eq 7, 3) := by decide +kernel
theorem d_Ca_compute_199 : decode prog_3_method_2_code 199 = .ok (.iconst 1, 1) := by decide +kernel
theorem d_Ca_compute_200 : decode prog_3_method_2_code 200 = .ok (.goto 4, 3) := by decide +kernel
theorem d_Ca_compute_203 : decode prog_3_method_2_code 203 = .ok (.iconst 0, 1) := by decide +kernel
theorem d_Ca_compute_204 : decode prog_3_method_2_code 204 = .ok (.aload 5, 2) := by decide +kernel
theorem d_Ca_compute_206 : decode prog_3_method_2_code 206 = .ok (.invokestatic 53, 3) := by decide +kernel
theorem d_Ca_compute_209 : decode prog_3_method_2_code 209 = .ok (.goto 291, 3) := by decide +kernel
theorem d_Ca_compute_212 : decode prog_3_method_2_code 212 = .ok (.aload_n 0, 1) := by decide +kernel
theorem d_Ca_compute_213 : decode prog_3_method_2_code 213 = .ok (.aload_n 2, 1) := by decide +kernel
theorem d_Ca_compute_214 : decode prog_3_method_2_code 214 = .ok (.aload_n 3, 1) := by decide +kernel
theorem d_Ca_compute_215 : decode prog_3_method_2_code 215 = .ok (.aload 5, 2) := by decide +kernel
theorem d_Ca_compute_217 : decode prog_3_method_2_code 217 = .ok (.invokevirtual 57, 3) := by decide +kernel
theorem d_Ca_compute_220 : decode prog_3_method_2_code 220 = .ok (.goto 280, 3) := by decide +kernel
theorem d_Ca_compute_223 : decode prog_3_method_2_code 223 = .ok (.aload_n 0, 1) := by decide +kernel
theorem d_Ca_compute_224 : decode prog_3_method_2_code 224 = .ok (.aload_n 2, 1) := by decide +kernel
theorem d_Ca_compute_225 : decode prog_3_method_2_code 225 = .ok (.aload_n 3, 1) := by decide +kernel
theorem d_Ca_compute_226 : decode prog_3_method_2_code 226 = .ok (.invokevirtual 42, 3) := by decide +kernel
theorem d_Ca_compute_229 : decode prog_3_method_2_code 229 = .ok (.aload_n 0, 1) := by decide +kernel
theorem d_Ca_compute_230 : decode prog_3_method_2_code 230 = .ok (.getfield 10, 3) := by decide +kernel
theorem d_Ca_compute_233 : decode prog_3_method_2_code 233 = .ok (.getfield 60, 3) := by decide +kernel
theorem d_Ca_compute_236 : decode prog_3_method_2_code 236 = .ok (.aload_n 2, 1) := by decide +kernel
theorem d_Ca_compute_237 : decode prog_3_method_2_code 237 = .ok (.invokestatic 49, 3) := by decide +kernel
theorem d_Ca_compute_240 : decode prog_3_method_2_code 240 = .ok (.aload 5, 2) := by decide +kernel
theorem d_Ca_compute_242 : decode prog_3_method_2_code 242 = .ok (.invokestatic 53, 3) := by decide +kernel
theorem d_Ca_compute_245 : decode prog_3_method_2_code 245 = .ok (.goto 255, 3) := by decide +kernel
theorem d_Ca_compute_248 : decode prog_3_method_2_code 248 = .ok (.aload_n 0, 1) := by decide +kernel
theorem d_Ca_compute_249 : decode prog_3_method_2_code 249 = .ok (.aload_n 2, 1) := by decide +kernel
theorem d_Ca_compute_250 : decode prog_3_method_2_code 250 = .ok (.aload_n 3, 1) := by decide +kernel
theorem d_Ca_compute_251 : decode prog_3_method_2_code 251 = .ok (.aload 4, 2) := by decide +kernel
theorem d_Ca_compute_253 : decode prog_3_method_2_code 253 = .ok (.aload 5, 2) := by decide +kernel
theorem d_Ca_compute_255 : decode prog_3_method_2_code 255 = .ok (.invokevirtual 63, 3) := by decide +kernel
theorem d_Ca_compute_258 : decode prog_3_method_2_code 258 = .ok (.goto 242, 3) := by decide +kernel
theorem d_Ca_compute_261 : decode prog_3_method_2_code 261 = .ok (.aload_n 0, 1) := by decide +kernel
theorem d_Ca_compute_262 : decode prog_3_method_2_code 262 = .ok (.aload_n 2, 1) := by decide +kernel
theorem d_Ca_compute_263 : decode prog_3_method_2_code 263 = .ok (.aload_n 3, 1) := by decide +kernel
theorem d_Ca_compute_264 : decode prog_3_method_2_code 264 = .ok (.aload 4, 2) := by decide +kernel
theorem d_Ca_compute_266 : decode prog_3_method_2_code 266 = .ok (.aload 5, 2) := by decide +kernel
theorem d_Ca_compute_268 : decode prog_3_method_2_code 268 = .ok (.invokevirtual 67, 3) := by decide +kernel
theorem d_Ca_compute_271 : decode prog_3_method_2_code 271 = .ok (.goto 229, 3) := by decide +kernel
theorem d_Ca_compute_274 : decode prog_3_method_2_code 274 = .ok (.aload_n 2, 1) := by decide +kernel
theorem d_Ca_compute_275 : decode prog_3_method_2_code 275 = .ok (.aload_n 3, 1) := by decide +kernel
theorem d_Ca_compute_276 : decode prog_3_method_2_code 276 = .ok (.aload 5, 2) := by decide +kernel
theorem d_Ca_compute_278 : decode prog_3_method_2_code 278 = .ok (.invokestatic 70, 3) := by decide +kernel
theorem d_Ca_compute_281 : decode prog_3_method_2_code 281 = .ok (.goto 219, 3) := by decide +kernel
theorem d_Ca_compute_284 : decode prog_3_method_2_code 284 = .ok (.aload 5, 2) := by decide +kernel
theorem d_Ca_compute_286 : decode prog_3_method_2_code 286 = .ok (.aload_n 2, 1) := by decide +kernel
theorem d_Ca_compute_287 : decode prog_3_method_2_code 287 = .ok (.aload_n 3, 1) := by decide +kernel
theorem d_Ca_compute_288 : decode prog_3_method_2_code 288 = .ok (.invokestatic 73, 3) := by decide +kernel
theorem d_Ca_compute_291 : decode prog_3_method_2_code 291 = .ok (.ifCond .ge 7, 3) := by decide +kernel
theorem d_Ca_compute_294 : decode prog_3_method_2_code 294 = .ok (.iconst 1, 1) := by decide +kernel
theorem d_Ca_compute_295 : decode prog_3_method_2_code 295 = .ok (.goto 4, 3) := by decide +kernel
theorem d_Ca_compute_298 : decode prog_3_method_2_code 298 = .ok (.iconst 0, 1) := by decide +kernel
theorem d_Ca_compute_299 : decode prog_3_method_2_code 299 = .ok (.invokestatic 77, 3) := by decide +kernel
theorem d_Ca_compute_302 : decode prog_3_method_2_code 302 = .ok (.goto 198, 3) := by decide +kernel
theorem d_Ca_compute_305 : decode prog_3_method_2_code 305 = .ok (.aload 5, 2) := by decide +kernel
theorem d_Ca_compute_307 : decode prog_3_method_2_code 307 = .ok (.aload_n 2, 1) := by decide +kernel
theorem d_Ca_compute_308 : decode prog_3_method_2_code 308 = .ok (.aload_n 3, 1) := by decide +kernel
theorem d_Ca_compute_309 : decode prog_3_method_2_code 309 = .ok (.invokestatic 73, 3) := by decide +kernel
theorem d_Ca_compute_312 : decode prog_3_method_2_code 312 = .ok (.ifCond .le 7, 3) := by decide +kernel
theorem d_Ca_compute_315 : decode prog_3_method_2_code 315 = .ok (.iconst 1, 1) := by decide +kernel
theorem d_Ca_compute_316 : decode prog_3_method_2_code 316 = .ok (.goto 4, 3) := by decide +kernel
theorem d_Ca_compute_319 : decode prog_3_method_2_code 319 = .ok (.iconst 0, 1) := by decide +kernel
theorem d_Ca_compute_320 : decode prog_3_method_2_code 320 = .ok (.invokestatic 77, 3) := by decide +kernel
theorem d_Ca_compute_323 : decode prog_3_method_2_code 323 = .ok (.goto 177, 3) := by decide +kernel
theorem d_Ca_compute_326 : decode prog_3_method_2_code 326 = .ok (.aload 5, 2) := by decide +kernel
theorem d_Ca_compute_328 : decode prog_3_method_2_code 328 = .ok (.aload_n 2, 1) := by decide +kernel
theorem d_Ca_compute_329 : decode prog_3_method_2_code 329 = .ok (.aload_n 3, 1) := by decide +kernel
theorem d_Ca_compute_330 : decode prog_3_method_2_code 330 = .ok (.invokestatic 81, 3) := by decide +kernel
theorem d_Ca_compute_333 : decode prog_3_method_2_code 333 = .ok (.ifCond .ge 7, 3) := by decide +kernel
theorem d_Ca_compute_336 : decode prog_3_method_2_code 336 = .ok (.iconst 1, 1) := by decide +kernel
theorem d_Ca_compute_337 : decode prog_3_method_2_code 337 = .ok (.goto 4, 3) := by decide +kernel
theorem d_Ca_compute_340 : decode prog_3_method_2_code 340 = .ok (.iconst 0, 1) := by decide +kernel
theorem d_Ca_compute_341 : decode prog_3_method_2_code 341 = .ok (.invokestatic 77, 3) := by decide +kernel
theorem d_Ca_compute_344 : decode prog_3_method_2_code 344 = .ok (.goto 156, 3) := by decide +kernel
theorem d_Ca_compute_347 : decode prog_3_method_2_code 347 = .ok (.aload 5, 2) := by decide +kernel
theorem d_Ca_compute_349 : decode prog_3_method_2_code 349 = .ok (.aload_n 2, 1) := by decide +kernel
theorem d_Ca_compute_350 : decode prog_3_method_2_code 350 = .ok (.aload_n 3, 1) := by decide +kernel
theorem d_Ca_compute_351 : decode prog_3_method_2_code 351 = .ok (.invokestatic 81, 3) := by decide +kernel
theorem d_Ca_compute_354 : decode prog_3_method_2_code 354 = .ok (.ifCond .le 7, 3) := by decide +kernel
theorem d_Ca_compute_357 : decode prog_3_method_2_code 357 = .ok (.iconst 1, 1) := by decide +kernel
theorem d_Ca_compute_358 : decode prog_3_method_2_code 358 = .ok (.goto 4, 3) := by decide +kernel
theorem d_Ca_compute_361 : decode prog_3_method_2_code 361 = .ok (.iconst 0, 1) := by decide +kernel
theorem d_Ca_compute_362 : decode prog_3_method_2_code 362 = .ok (.invokestatic 77, 3) := by decide +kernel
theorem d_Ca_compute_365 : decode prog_3_method_2_code 365 = .ok (.goto 135, 3) := by decide +kernel
theorem d_Ca_compute_368 : decode prog_3_method_2_code 368 = .ok (.aload 5, 2) := by decide +kernel
theorem d_Ca_compute_370 : decode prog_3_method_2_code 370 = .ok (.aload_n 2, 1) := by decide +kernel
theorem d_Ca_compute_371 : decode prog_3_method_2_code 371 = .ok (.aload_n 3, 1) := by decide +kernel
theorem d_Ca_compute_372 : decode prog_3_method_2_code 372 = .ok (.invokestatic 73, 3) := by decide +kernel
theorem d_Ca_compute_375 : decode prog_3_method_2_code 375 = .ok (.ifCond .ne 7, 3) := by decide +kernel
theorem d_Ca_compute_378 : decode prog_3_method_2_code 378 = .ok (.iconst 1, 1) := by decide +kernel
theorem d_Ca_compute_379 : decode prog_3_method_2_code 379 = .ok (.goto 4, 3) := by decide +kernel
theorem d_Ca_compute_382 : decode prog_3_method_2_code 382 = .ok (.iconst 0, 1) := by decide +kernel
theorem d_Ca_compute_383 : decode prog_3_method_2_code 383 = .ok (.invokestatic 77, 3) := by decide +kernel
theorem d_Ca_compute_386 : decode prog_3_method_2_code 386 = .ok (.goto 114, 3) := by decide +kernel
theorem d_Ca_compute_389 : decode prog_3_method_2_code 389 = .ok (.aload 5, 2) := by decide +kernel
theorem d_Ca_compute_391 : decode prog_3_method_2_code 391 = .ok (.aload_n 2, 1) := by decide +kernel
theorem d_Ca_compute_392 : decode prog_3_method_2_code 392 = .ok (.invokestatic 84, 3) := by decide +kernel
theorem d_Ca_compute_395 : decode prog_3_method_2_code 395 = .ok (.invokestatic 77, 3) := by decide +kernel
theorem d_Ca_compute_398 : decode prog_3_method_2_code 398 = .ok (.goto 102, 3) := by decide +kernel
theorem d_Ca_compute_401 : decode prog_3_method_2_code 401 = .ok (.aload_n 2, 1) := by decide +kernel
theorem d_Ca_compute_402 : decode prog_3_method_2_code 402 = .ok (.aload_n 3, 1) := by decide +kernel
theorem d_Ca_compute_403 : decode prog_3_method_2_code 403 = .ok (.aload 5, 2) := by decide +kernel
theorem d_Ca_compute_405 : decode prog_3_method_2_code 405 = .ok (.invokestatic 87, 3) := by decide +kernel
theorem d_Ca_compute_408 : decode prog_3_method_2_code 408 = .ok (.goto 92, 3) := by decide +kernel
theorem d_Ca_compute_411 : decode prog_3_method_2_code 411 = .ok (.aload_n 2, 1) := by decide +kernel
theorem d_Ca_compute_412 : decode prog_3_method_2_code 412 = .ok (.aload_n 3, 1) := by decide +kernel
theorem d_Ca_compute_413 : decode prog_3_method_2_code 413 = .ok (.aload 5, 2) := by decide +kernel
theorem d_Ca_compute_415 : decode prog_3_method_2_code 415 = .ok (.invokestatic 90, 3) := by decide +kernel
theorem d_Ca_compute_418 : decode prog_3_method_2_code 418 = .ok (.goto 82, 3) := by decide +kernel
theorem d_Ca_compute_421 : decode prog_3_method_2_code 421 = .ok (.aload_n 2, 1) := by decide +kernel
theorem d_Ca_compute_422 : decode prog_3_method_2_code 422 = .ok (.aload_n 3, 1) := by decide +kernel
theorem d_Ca_compute_423 : decode prog_3_method_2_code 423 = .ok (.aload 5, 2) := by decide +kernel
theorem d_Ca_compute_425 : decode prog_3_method_2_code 425 = .ok (.invokestatic 93, 3) := by decide +kernel
theorem d_Ca_compute_428 : decode prog_3_method_2_code 428 = .ok (.goto 72, 3) := by decide +kernel
theorem d_Ca_compute_431 : decode prog_3_method_2_code 431 = .ok (.aload_n 2, 1) := by decide +kernel
theorem d_Ca_compute_432 : decode prog_3_method_2_code 432 = .ok (.aload 5, 2) := by decide +kernel
theorem d_Ca_compute_434 : decode prog_3_method_2_code 434 = .ok (.invokestatic 96, 3) := by decide +kernel
theorem d_Ca_compute_437 : decode prog_3_method_2_code 437 = .ok (.goto 63, 3) := by decide +kernel
theorem d_Ca_compute_440 : decode prog_3_method_2_code 440 = .ok (.aload 5, 2) := by decide +kernel
theorem d_Ca_compute_442 : decode prog_3_method_2_code 442 = .ok (.aload_n 3, 1) := by decide +kernel
theorem d_Ca_compute_443 : decode prog_3_method_2_code 443 = .ok (.aload_n 2, 1) := by decide +kernel
theorem d_Ca_compute_444 : decode prog_3_method_2_code 444 = .ok (.bipush 32, 2) := by decide +kernel
theorem d_Ca_compute_446 : decode prog_3_method_2_code 446 = .ok (.invokestatic 99, 3) := by decide +kernel
theorem d_Ca_compute_449 : decode prog_3_method_2_code 449 = .ok (.invokestatic 103, 3) := by decide +kernel
theorem d_Ca_compute_452 : decode prog_3_method_2_code 452 = .ok (.invokestatic 106, 3) := by decide +kernel
theorem d_Ca_compute_455 : decode prog_3_method_2_code 455 = .ok (.goto 45, 3) := by decide +kernel
theorem d_Ca_compute_458 : decode prog_3_method_2_code 458 = .ok (.aload_n 3, 1) := by decide +kernel
theorem d_Ca_compute_459 : decode prog_3_method_2_code 459 = .ok (.aload_n 2, 1) := by decide +kernel
theorem d_Ca_compute_460 : decode prog_3_method_2_code 460 = .ok (.invokestatic 110, 3) := by decide +kernel
theorem d_Ca_compute_463 : decode prog_3_method_2_code 463 = .ok (.aload 5, 2) := by decide +kernel
theorem d_Ca_compute_465 : decode prog_3_method_2_code 465 = .ok (.invokestatic 114, 3) := by decide +kernel
theorem d_Ca_compute_468 : decode prog_3_method_2_code 468 = .ok (.goto 32, 3) := by decide +kernel
theorem d_Ca_compute_471 : decode prog_3_method_2_code 471 = .ok (.aload_n 3, 1) := by decide +kernel
theorem d_Ca_compute_472 : decode prog_3_method_2_code 472 = .ok (.aload_n 2, 1) := by decide +kernel
theorem d_Ca_compute_473 : decode prog_3_method_2_code 473 = .ok (.invokestatic 110, 3) := by decide +kernel
theorem d_Ca_compute_476 : decode prog_3_method_2_code 476 = .ok (.iconst 0, 1) := by decide +kernel
theorem d_Ca_compute_477 : decode prog_3_method_2_code 477 = .ok (.aload 5, 2) := by decide +kernel
theorem d_Ca_compute_479 : decode prog_3_method_2_code 479 = .ok (.invokestatic 118, 3) := by decide +kernel
theorem d_Ca_compute_482 : decode prog_3_method_2_code 482 = .ok (.goto 18, 3) := by decide +kernel
theorem d_Ca_compute_485 : decode prog_3_method_2_code 485 = .ok (.aload_n 2, 1) := by decide +kernel
theorem d_Ca_compute_486 : decode prog_3_method_2_code 486 = .ok (.aload_n 3, 1) := by decide +kernel
theorem d_Ca_compute_487 : decode prog_3_method_2_code 487 = .ok (.aload 5, 2) := by decide +kernel
theorem d_Ca_compute_489 : decode prog_3_method_2_code 489 = .ok (.invokestatic 122, 3) := by decide +kernel
theorem d_Ca_compute_492 : decode prog_3_method_2_code 492 = .ok (.goto 8, 3) := by decide +kernel
theorem d_Ca_compute_495 : decode prog_3_method_2_code 495 = .ok (.aload 5, 2) := by decide +kernel
theorem d_Ca_compute_497 : decode prog_3_method_2_code 497 = .ok (.invokestatic 125, 3) := by decide +kernel
theorem d_Ca_compute_500 : decode prog_3_method_2_code 500 = .ok (.return_, 1) := by decide +kernel

set_option maxHeartbeats 4000000 in
set_option maxRecDepth 100000 in
theorem c_C_compute_1 (l : Launch) (E : kE) (ca d dd dq dr cp c1 c2 : Nat) (fD fq fr fp f1 f2 : Nat → Int32) (a b v t : Nat) (f x y z : Nat → Int32) : Kv l y_Ca_compute (kW y_Ca_compute prog_3_method_2_code 6 (none)) rm_c_C_compute E [.ref ca, .int (nI 1), .ref a, .ref b, .ref v, .ref t] [(ca, .inr (4, [.ref d, .ref cp, .ref c1, .ref c2])), (d, .inr (3, [.ref dd, .ref dq, .ref dr])), (dd, .inl (E.2.1 0, 16, .inl fD)), (dq, .inl (E.2.1 0, 16, .inl fq)), (dr, .inl (E.2.1 0, 8, .inl fr)), (cp, .inl (E.2.1 0, 16, .inl fp)), (c1, .inl (E.2.1 0, 8, .inl f1)), (c2, .inl (E.2.1 0, 8, .inl f2)), (a, .inl (E.2.1 0, 8, .inl f)), (b, .inl (E.2.1 0, 8, .inl x)), (v, .inl (E.2.1 0, 8, .inl y)), (t, .inl (E.2.1 0, 8, .inl z))] (S := Nat → Nat → Int32) (fun u => wv (u 6) 8 = m_op 1 (wv f 8) (wv x 8) (wv y 8)) (fun u => [(ca, .inr (4, [.ref d, .ref cp, .ref c1, .ref c2])), (d, .inr (3, [.ref dd, .ref dq, .ref dr])), (dd, .inl (E.2.1 0, 16, .inl (u 0))), (dq, .inl (E.2.1 0, 16, .inl (u 1))), (dr, .inl (E.2.1 0, 8, .inl (u 2))), (cp, .inl (E.2.1 0, 16, .inl (u 3))), (c1, .inl (E.2.1 0, 8, .inl (u 4))), (c2, .inl (E.2.1 0, 8, .inl (u 5))), (a, .inl (E.2.1 0, 8, .inl f)), (b, .inl (E.2.1 0, 8, .inl x)), (v, .inl (E.2.1 0, 8, .inl y)), (t, .inl (E.2.1 0, 8, .inl (u 6)))]) := by
  refine Kv.ofW (cc := prog_3_method_2_code) (maxL := 6) (by decide) (Nat.le_of_ble_eq_true rfl) ?_
  intro p e s m args below meth c A ls Q hx hb hts hown hml hK hG hA hP hD hS hl hret
  have hl : lv_has ls 6 [(0, .ref ca), (1, .int (nI 1)), (2, .ref a), (3, .ref b), (4, .ref v), (5, .ref t)] := hl
  refine lv_iload_n hx hb d_Ca_compute_0 rfl (lv_at hl 1 rfl) ?_
  refine lv_tableIn (off := 131) (tgt := 132) hx hb d_Ca_compute_1 (by decide) (by decide) (by decide) (by decide) ?_
  refine lv_aload_n hx hb d_Ca_compute_132 rfl (lv_at hl 2 rfl) ?_
  refine lv_aload_n hx hb d_Ca_compute_133 rfl (lv_at hl 3 rfl) ?_
  refine lv_aload hx hb d_Ca_compute_134 (lv_at hl 5 rfl) ?_
  refine k_Si (As := [.ref a, .ref b, .ref t]) (rest := []) ⟨hx, hb, hml, hown, hts⟩ (c_W_add l E a b t 8 f x z (by decide) (by decide)) (k_cwS 3 hts t_512 t_513 t_73 t_514 (by decide +kernel) ⟨Nat.le_of_ble_eq_true rfl, Nat.le_of_ble_eq_true rfl⟩) hK hG hA hP hD hS [8, 9, 11] rfl (by decide) (fun _ => rfl) rfl hl.1 rfl (Nat.le_of_ble_eq_true rfl) d_Ca_compute_136 ⟨Nat.zero_le _, Nat.zero_le _⟩ (fun r u H locs hu hP hD hS => ?_)
  have hP : va_P E.1 vwCl [(ca, .inr (4, [.ref d, .ref cp, .ref c1, .ref c2])), (d, .inr (3, [.ref dd, .ref dq, .ref dr])), (dd, .inl (E.2.1 0, 16, .inl fD)), (dq, .inl (E.2.1 0, 16, .inl fq)), (dr, .inl (E.2.1 0, 8, .inl fr)), (cp, .inl (E.2.1 0, 16, .inl fp)), (c1, .inl (E.2.1 0, 8, .inl f1)), (c2, .inl (E.2.1 0, 8, .inl f2)), (a, .inl (E.2.1 0, 8, .inl f)), (b, .inl (E.2.1 0, 8, .inl x)), (v, .inl (E.2.1 0, 8, .inl y)), (t, .inl (E.2.1 0, 8, .inl u))] H := hP
  have hD : va_D A [(ca, .inr (4, [.ref d, .ref cp, .ref c1, .ref c2])), (d, .inr (3, [.ref dd, .ref dq, .ref dr])), (dd, .inl (E.2.1 0, 16, .inl fD)), (dq, .inl (E.2.1 0, 16, .inl fq)), (dr, .inl (E.2.1 0, 8, .inl fr)), (cp, .inl (E.2.1 0, 16, .inl fp)), (c1, .inl (E.2.1 0, 8, .inl f1)), (c2, .inl (E.2.1 0, 8, .inl f2)), (a, .inl (E.2.1 0, 8, .inl f)), (b, .inl (E.2.1 0, 8, .inl x)), (v, .inl (E.2.1 0, 8, .inl y)), (t, .inl (E.2.1 0, 8, .inl u))] := hD
  obtain ⟨⟨cy, hc1, hc2, hc3⟩, hc4⟩ := hu
  refine lv_pop hx hb d_Ca_compute_139 rfl ?_
  refine lv_goto (tgt := 500) hx hb d_Ca_compute_140 (by decide) ?_
  exact hret _ ls _ _ (t7 fD fq fr fp f1 f2 u) d_Ca_compute_500 ((fin_add (wv_lt8 _) hc3).trans (m_op_1 _ _ _).symm) hP hS

set_option maxHeartbeats 4000000 in
set_option maxRecDepth 100000 in
theorem c_C_compute_2 (l : Launch) (E : kE) (ca d dd dq dr cp c1 c2 : Nat) (fD fq fr fp f1 f2 : Nat → Int32) (a b v t : Nat) (f x y z : Nat → Int32) : Kv l y_Ca_compute (kW y_Ca_compute prog_3_method_2_code 6 (none)) rm_c_C_compute E [.ref ca, .int (nI 2), .ref a, .ref b, .ref v, .ref t] [(ca, .inr (4, [.ref d, .ref cp, .ref c1, .ref c2])), (d, .inr (3, [.ref dd, .ref dq, .ref dr])), (dd, .inl (E.2.1 0, 16, .inl fD)), (dq, .inl (E.2.1 0, 16, .inl fq)), (dr, .inl (E.2.1 0, 8, .inl fr)), (cp, .inl (E.2.1 0, 16, .inl fp)), (c1, .inl (E.2.1 0, 8, .inl f1)), (c2, .inl (E.2.1 0, 8, .inl f2)), (a, .inl (E.2.1 0, 8, .inl f)), (b, .inl (E.2.1 0, 8, .inl x)), (v, .inl (E.2.1 0, 8, .inl y)), (t, .inl (E.2.1 0, 8, .inl z))] (S := Nat → Nat → Int32) (fun u => wv (u 6) 8 = m_op 2 (wv f 8) (wv x 8) (wv y 8)) (fun u => [(ca, .inr (4, [.ref d, .ref cp, .ref c1, .ref c2])), (d, .inr (3, [.ref dd, .ref dq, .ref dr])), (dd, .inl (E.2.1 0, 16, .inl (u 0))), (dq, .inl (E.2.1 0, 16, .inl (u 1))), (dr, .inl (E.2.1 0, 8, .inl (u 2))), (cp, .inl (E.2.1 0, 16, .inl (u 3))), (c1, .inl (E.2.1 0, 8, .inl (u 4))), (c2, .inl (E.2.1 0, 8, .inl (u 5))), (a, .inl (E.2.1 0, 8, .inl f)), (b, .inl (E.2.1 0, 8, .inl x)), (v, .inl (E.2.1 0, 8, .inl y)), (t, .inl (E.2.1 0, 8, .inl (u 6)))]) := by
  refine Kv.ofW (cc := prog_3_method_2_code) (maxL := 6) (by decide) (Nat.le_of_ble_eq_true rfl) ?_
  intro p e s m args below meth c A ls Q hx hb hts hown hml hK hG hA hP hD hS hl hret
  have hl : lv_has ls 6 [(0, .ref ca), (1, .int (nI 2)), (2, .ref a), (3, .ref b), (4, .ref v), (5, .ref t)] := hl
  refine lv_iload_n hx hb d_Ca_compute_0 rfl (lv_at hl 1 rfl) ?_
  refine lv_tableIn (off := 142) (tgt := 143) hx hb d_Ca_compute_1 (by decide) (by decide) (by decide) (by decide) ?_
  refine lv_aload_n hx hb d_Ca_compute_143 rfl (lv_at hl 0 rfl) ?_
  refine lv_aload_n hx hb d_Ca_compute_144 rfl (lv_at hl 2 rfl) ?_
  refine lv_aload_n hx hb d_Ca_compute_145 rfl (lv_at hl 3 rfl) ?_
  refine lv_aload hx hb d_Ca_compute_146 (lv_at hl 5 rfl) ?_
  refine k_Vv (As := [.ref a, .ref b, .ref t]) (rest := []) ⟨hx, hb, hml, hown, hts⟩ (c_C_multiply l E ca d dd dq dr cp c1 c2 fD fq fr fp f1 f2 a b t f x z) (k_cwV 3 hts t_516 t_518 t_14 t_67 t_519 (by decide +kernel) ⟨Nat.le_of_ble_eq_true rfl, Nat.le_of_ble_eq_true rfl⟩) hK hG hA hP hD hS [0, 1, 2, 3, 4, 5, 6, 7, 8, 9, 11] rfl (by decide) 0 rfl rfl (fun _ => rfl) rfl hl.1 rfl (Nat.le_of_ble_eq_true rfl) d_Ca_compute_148 ⟨Nat.zero_le _, Nat.zero_le _⟩ (fun u H locs hu hP hD hS => ?_)
  have hP : va_P E.1 vwCl [(ca, .inr (4, [.ref d, .ref cp, .ref c1, .ref c2])), (d, .inr (3, [.ref dd, .ref dq, .ref dr])), (dd, .inl (E.2.1 0, 16, .inl (u 0))), (dq, .inl (E.2.1 0, 16, .inl (u 1))), (dr, .inl (E.2.1 0, 8, .inl (u 2))), (cp, .inl (E.2.1 0, 16, .inl (u 3))), (c1, .inl (E.2.1 0, 8, .inl (u 4))), (c2, .inl (E.2.1 0, 8, .inl (u 5))), (a, .inl (E.2.1 0, 8, .inl f)), (b, .inl (E.2.1 0, 8, .inl x)), (v, .inl (E.2.1 0, 8, .inl y)), (t, .inl (E.2.1 0, 8, .inl (u 6)))] H := hP
  have hD : va_D A [(ca, .inr (4, [.ref d, .ref cp, .ref c1, .ref c2])), (d, .inr (3, [.ref dd, .ref dq, .ref dr])), (dd, .inl (E.2.1 0, 16, .inl (u 0))), (dq, .inl (E.2.1 0, 16, .inl (u 1))), (dr, .inl (E.2.1 0, 8, .inl (u 2))), (cp, .inl (E.2.1 0, 16, .inl (u 3))), (c1, .inl (E.2.1 0, 8, .inl (u 4))), (c2, .inl (E.2.1 0, 8, .inl (u 5))), (a, .inl (E.2.1 0, 8, .inl f)), (b, .inl (E.2.1 0, 8, .inl x)), (v, .inl (E.2.1 0, 8, .inl y)), (t, .inl (E.2.1 0, 8, .inl (u 6)))] := hD
  refine lv_goto (tgt := 500) hx hb d_Ca_compute_151 (by decide) ?_
  exact hret _ ls _ _ (t7 (u 0) (u 1) (u 2) (u 3) (u 4) (u 5) (u 6)) d_Ca_compute_500 ((hu).trans (m_op_2 _ _ _).symm) hP hS

set_option maxHeartbeats 4000000 in
set_option maxRecDepth 100000 in
theorem c_C_compute_3 (l : Launch) (E : kE) (ca d dd dq dr cp c1 c2 : Nat) (fD fq fr fp f1 f2 : Nat → Int32) (a b v t : Nat) (f x y z : Nat → Int32) : Kv l y_Ca_compute (kW y_Ca_compute prog_3_method_2_code 6 (none)) rm_c_C_compute E [.ref ca, .int (nI 3), .ref a, .ref b, .ref v, .ref t] [(ca, .inr (4, [.ref d, .ref cp, .ref c1, .ref c2])), (d, .inr (3, [.ref dd, .ref dq, .ref dr])), (dd, .inl (E.2.1 0, 16, .inl fD)), (dq, .inl (E.2.1 0, 16, .inl fq)), (dr, .inl (E.2.1 0, 8, .inl fr)), (cp, .inl (E.2.1 0, 16, .inl fp)), (c1, .inl (E.2.1 0, 8, .inl f1)), (c2, .inl (E.2.1 0, 8, .inl f2)), (a, .inl (E.2.1 0, 8, .inl f)), (b, .inl (E.2.1 0, 8, .inl x)), (v, .inl (E.2.1 0, 8, .inl y)), (t, .inl (E.2.1 0, 8, .inl z))] (S := Nat → Nat → Int32) (fun u => wv (u 6) 8 = m_op 3 (wv f 8) (wv x 8) (wv y 8)) (fun u => [(ca, .inr (4, [.ref d, .ref cp, .ref c1, .ref c2])), (d, .inr (3, [.ref dd, .ref dq, .ref dr])), (dd, .inl (E.2.1 0, 16, .inl (u 0))), (dq, .inl (E.2.1 0, 16, .inl (u 1))), (dr, .inl (E.2.1 0, 8, .inl (u 2))), (cp, .inl (E.2.1 0, 16, .inl (u 3))), (c1, .inl (E.2.1 0, 8, .inl (u 4))), (c2, .inl (E.2.1 0, 8, .inl (u 5))), (a, .inl (E.2.1 0, 8, .inl f)), (b, .inl (E.2.1 0, 8, .inl x)), (v, .inl (E.2.1 0, 8, .inl y)), (t, .inl (E.2.1 0, 8, .inl (u 6)))]) := by
  refine Kv.ofW (cc := prog_3_method_2_code) (maxL := 6) (by decide) (Nat.le_of_ble_eq_true rfl) ?_
  intro p e s m args below meth c A ls Q hx hb hts hown hml hK hG hA hP hD hS hl hret
  have hl : lv_has ls 6 [(0, .ref ca), (1, .int (nI 3)), (2, .ref a), (3, .ref b), (4, .ref v), (5, .ref t)] := hl
  refine lv_iload_n hx hb d_Ca_compute_0 rfl (lv_at hl 1 rfl) ?_
  refine lv_tableIn (off := 153) (tgt := 154) hx hb d_Ca_compute_1 (by decide) (by decide) (by decide) (by decide) ?_
  refine lv_aload_n hx hb d_Ca_compute_154 rfl (lv_at hl 2 rfl) ?_
  refine lv_aload_n hx hb d_Ca_compute_155 rfl (lv_at hl 3 rfl) ?_
  refine lv_aload hx hb d_Ca_compute_156 (lv_at hl 5 rfl) ?_
  refine k_Sv (As := [.ref a, .ref b, .ref t]) (rest := []) ⟨hx, hb, hml, hown, hts⟩ (c_W_sub l E a b t f x z) (k_cwS 3 hts t_524 t_525 t_73 t_526 (by decide +kernel) ⟨Nat.le_of_ble_eq_true rfl, Nat.le_of_ble_eq_true rfl⟩) hK hG hA hP hD hS [8, 9, 11] rfl (by decide) (fun _ => rfl) rfl hl.1 rfl (Nat.le_of_ble_eq_true rfl) d_Ca_compute_158 ⟨Nat.zero_le _, Nat.zero_le _⟩ (fun u H locs hu hP hD hS => ?_)
  have hP : va_P E.1 vwCl [(ca, .inr (4, [.ref d, .ref cp, .ref c1, .ref c2])), (d, .inr (3, [.ref dd, .ref dq, .ref dr])), (dd, .inl (E.2.1 0, 16, .inl fD)), (dq, .inl (E.2.1 0, 16, .inl fq)), (dr, .inl (E.2.1 0, 8, .inl fr)), (cp, .inl (E.2.1 0, 16, .inl fp)), (c1, .inl (E.2.1 0, 8, .inl f1)), (c2, .inl (E.2.1 0, 8, .inl f2)), (a, .inl (E.2.1 0, 8, .inl f)), (b, .inl (E.2.1 0, 8, .inl x)), (v, .inl (E.2.1 0, 8, .inl y)), (t, .inl (E.2.1 0, 8, .inl u))] H := hP
  have hD : va_D A [(ca, .inr (4, [.ref d, .ref cp, .ref c1, .ref c2])), (d, .inr (3, [.ref dd, .ref dq, .ref dr])), (dd, .inl (E.2.1 0, 16, .inl fD)), (dq, .inl (E.2.1 0, 16, .inl fq)), (dr, .inl (E.2.1 0, 8, .inl fr)), (cp, .inl (E.2.1 0, 16, .inl fp)), (c1, .inl (E.2.1 0, 8, .inl f1)), (c2, .inl (E.2.1 0, 8, .inl f2)), (a, .inl (E.2.1 0, 8, .inl f)), (b, .inl (E.2.1 0, 8, .inl x)), (v, .inl (E.2.1 0, 8, .inl y)), (t, .inl (E.2.1 0, 8, .inl u))] := hD
  refine lv_goto (tgt := 500) hx hb d_Ca_compute_161 (by decide) ?_
  exact hret _ ls _ _ (t7 fD fq fr fp f1 f2 u) d_Ca_compute_500 ((hu).trans (m_op_3 _ _ _).symm) hP hS

set_option maxHeartbeats 4000000 in
set_option maxRecDepth 100000 in
theorem c_C_compute_4 (l : Launch) (E : kE) (ca d dd dq dr cp c1 c2 : Nat) (fD fq fr fp f1 f2 : Nat → Int32) (a b v t : Nat) (f x y z : Nat → Int32) : Kv l y_Ca_compute (kW y_Ca_compute prog_3_method_2_code 6 (none)) rm_c_C_compute E [.ref ca, .int (nI 4), .ref a, .ref b, .ref v, .ref t] [(ca, .inr (4, [.ref d, .ref cp, .ref c1, .ref c2])), (d, .inr (3, [.ref dd, .ref dq, .ref dr])), (dd, .inl (E.2.1 0, 16, .inl fD)), (dq, .inl (E.2.1 0, 16, .inl fq)), (dr, .inl (E.2.1 0, 8, .inl fr)), (cp, .inl (E.2.1 0, 16, .inl fp)), (c1, .inl (E.2.1 0, 8, .inl f1)), (c2, .inl (E.2.1 0, 8, .inl f2)), (a, .inl (E.2.1 0, 8, .inl f)), (b, .inl (E.2.1 0, 8, .inl x)), (v, .inl (E.2.1 0, 8, .inl y)), (t, .inl (E.2.1 0, 8, .inl z))] (S := Nat → Nat → Int32) (fun u => wv (u 6) 8 = m_op 4 (wv f 8) (wv x 8) (wv y 8)) (fun u => [(ca, .inr (4, [.ref d, .ref cp, .ref c1, .ref c2])), (d, .inr (3, [.ref dd, .ref dq, .ref dr])), (dd, .inl (E.2.1 0, 16, .inl (u 0))), (dq, .inl (E.2.1 0, 16, .inl (u 1))), (dr, .inl (E.2.1 0, 8, .inl (u 2))), (cp, .inl (E.2.1 0, 16, .inl (u 3))), (c1, .inl (E.2.1 0, 8, .inl (u 4))), (c2, .inl (E.2.1 0, 8, .inl (u 5))), (a, .inl (E.2.1 0, 8, .inl f)), (b, .inl (E.2.1 0, 8, .inl x)), (v, .inl (E.2.1 0, 8, .inl y)), (t, .inl (E.2.1 0, 8, .inl (u 6)))]) := by
  refine Kv.ofW (cc := prog_3_method_2_code) (maxL := 6) (by decide) (Nat.le_of_ble_eq_true rfl) ?_
  intro p e s m args below meth c A ls Q hx hb hts hown hml hK hG hA hP hD hS hl hret
  have hl : lv_has ls 6 [(0, .ref ca), (1, .int (nI 4)), (2, .ref a), (3, .ref b), (4, .ref v), (5, .ref t)] := hl
  refine lv_iload_n hx hb d_Ca_compute_0 rfl (lv_at hl 1 rfl) ?_
  refine lv_tableIn (off := 163) (tgt := 164) hx hb d_Ca_compute_1 (by decide) (by decide) (by decide) (by decide) ?_
  refine lv_aload_n hx hb d_Ca_compute_164 rfl (lv_at hl 0 rfl) ?_
  refine lv_aload_n hx hb d_Ca_compute_165 rfl (lv_at hl 2 rfl) ?_
  refine lv_aload_n hx hb d_Ca_compute_166 rfl (lv_at hl 3 rfl) ?_
  refine lv_aload hx hb d_Ca_compute_167 (lv_at hl 5 rfl) ?_
  refine k_Vv (As := [.ref a, .ref b, .ref t]) (rest := []) ⟨hx, hb, hml, hown, hts⟩ (c_C_divide l E ca d dd dq dr cp c1 c2 fD fq fr fp f1 f2 a b t f x z) (k_cwV 3 hts t_527 t_529 t_15 t_67 t_530 (by decide +kernel) ⟨Nat.le_of_ble_eq_true rfl, Nat.le_of_ble_eq_true rfl⟩) hK hG hA hP hD hS [0, 1, 2, 3, 4, 5, 6, 7, 8, 9, 11] rfl (by decide) 0 rfl rfl (fun _ => rfl) rfl hl.1 rfl (Nat.le_of_ble_eq_true rfl) d_Ca_compute_169 ⟨Nat.zero_le _, Nat.zero_le _⟩ (fun u H locs hu hP hD hS => ?_)
  have hP : va_P E.1 vwCl [(ca, .inr (4, [.ref d, .ref cp, .ref c1, .ref c2])), (d, .inr (3, [.ref dd, .ref dq, .ref dr])), (dd, .inl (E.2.1 0, 16, .inl (u 0))), (dq, .inl (E.2.1 0, 16, .inl (u 1))), (dr, .inl (E.2.1 0, 8, .inl (u 2))), (cp, .inl (E.2.1 0, 16, .inl (u 3))), (c1, .inl (E.2.1 0, 8, .inl (u 4))), (c2, .inl (E.2.1 0, 8, .inl (u 5))), (a, .inl (E.2.1 0, 8, .inl f)), (b, .inl (E.2.1 0, 8, .inl x)), (v, .inl (E.2.1 0, 8, .inl y)), (t, .inl (E.2.1 0, 8, .inl (u 6)))] H := hP
  have hD : va_D A [(ca, .inr (4, [.ref d, .ref cp, .ref c1, .ref c2])), (d, .inr (3, [.ref dd, .ref dq, .ref dr])), (dd, .inl (E.2.1 0, 16, .inl (u 0))), (dq, .inl (E.2.1 0, 16, .inl (u 1))), (dr, .inl (E.2.1 0, 8, .inl (u 2))), (cp, .inl (E.2.1 0, 16, .inl (u 3))), (c1, .inl (E.2.1 0, 8, .inl (u 4))), (c2, .inl (E.2.1 0, 8, .inl (u 5))), (a, .inl (E.2.1 0, 8, .inl f)), (b, .inl (E.2.1 0, 8, .inl x)), (v, .inl (E.2.1 0, 8, .inl y)), (t, .inl (E.2.1 0, 8, .inl (u 6)))] := hD
  refine lv_goto (tgt := 500) hx hb d_Ca_compute_172 (by decide) ?_
  exact hret _ ls _ _ (t7 (u 0) (u 1) (u 2) (u 3) (u 4) (u 5) (u 6)) d_Ca_compute_500 ((hu).trans (m_op_4 _ _ _).symm) hP hS

set_option maxHeartbeats 4000000 in
set_option maxRecDepth 100000 in
theorem c_C_compute_5 (l : Launch) (E : kE) (ca d dd dq dr cp c1 c2 : Nat) (fD fq fr fp f1 f2 : Nat → Int32) (a b v t : Nat) (f x y z : Nat → Int32) : Kv l y_Ca_compute (kW y_Ca_compute prog_3_method_2_code 6 (none)) rm_c_C_compute E [.ref ca, .int (nI 5), .ref a, .ref b, .ref v, .ref t] [(ca, .inr (4, [.ref d, .ref cp, .ref c1, .ref c2])), (d, .inr (3, [.ref dd, .ref dq, .ref dr])), (dd, .inl (E.2.1 0, 16, .inl fD)), (dq, .inl (E.2.1 0, 16, .inl fq)), (dr, .inl (E.2.1 0, 8, .inl fr)), (cp, .inl (E.2.1 0, 16, .inl fp)), (c1, .inl (E.2.1 0, 8, .inl f1)), (c2, .inl (E.2.1 0, 8, .inl f2)), (a, .inl (E.2.1 0, 8, .inl f)), (b, .inl (E.2.1 0, 8, .inl x)), (v, .inl (E.2.1 0, 8, .inl y)), (t, .inl (E.2.1 0, 8, .inl z))] (S := Nat → Nat → Int32) (fun u => wv (u 6) 8 = m_op 5 (wv f 8) (wv x 8) (wv y 8)) (fun u => [(ca, .inr (4, [.ref d, .ref cp, .ref c1, .ref c2])), (d, .inr (3, [.ref dd, .ref dq, .ref dr])), (dd, .inl (E.2.1 0, 16, .inl (u 0))), (dq, .inl (E.2.1 0, 16, .inl (u 1))), (dr, .inl (E.2.1 0, 8, .inl (u 2))), (cp, .inl (E.2.1 0, 16, .inl (u 3))), (c1, .inl (E.2.1 0, 8, .inl (u 4))), (c2, .inl (E.2.1 0, 8, .inl (u 5))), (a, .inl (E.2.1 0, 8, .inl f)), (b, .inl (E.2.1 0, 8, .inl x)), (v, .inl (E.2.1 0, 8, .inl y)), (t, .inl (E.2.1 0, 8, .inl (u 6)))]) := by
  refine Kv.ofW (cc := prog_3_method_2_code) (maxL := 6) (by decide) (Nat.le_of_ble_eq_true rfl) ?_
  intro p e s m args below meth c A ls Q hx hb hts hown hml hK hG hA hP hD hS hl hret
  have hl : lv_has ls 6 [(0, .ref ca), (1, .int (nI 5)), (2, .ref a), (3, .ref b), (4, .ref v), (5, .ref t)] := hl
  refine lv_iload_n hx hb d_Ca_compute_0 rfl (lv_at hl 1 rfl) ?_
  refine lv_tableIn (off := 174) (tgt := 175) hx hb d_Ca_compute_1 (by decide) (by decide) (by decide) (by decide) ?_
  refine lv_aload_n hx hb d_Ca_compute_175 rfl (lv_at hl 0 rfl) ?_
  refine lv_aload_n hx hb d_Ca_compute_176 rfl (lv_at hl 2 rfl) ?_
  refine lv_aload_n hx hb d_Ca_compute_177 rfl (lv_at hl 3 rfl) ?_
  refine k_Vv (As := [.ref a, .ref b]) (rest := []) ⟨hx, hb, hml, hown, hts⟩ (c_C_divideSizes l E ca d dd dq dr cp c1 c2 fD fq fr fp f1 f2 a b f x) (k_cwV 2 hts t_557 t_559 t_18 t_67 t_560 (by decide +kernel) ⟨Nat.le_of_ble_eq_true rfl, Nat.le_of_ble_eq_true rfl⟩) hK hG hA hP hD hS [0, 1, 2, 3, 4, 5, 6, 7, 8, 9] rfl (by decide) 0 rfl rfl (fun _ => rfl) rfl hl.1 rfl (Nat.le_of_ble_eq_true rfl) d_Ca_compute_178 ⟨Nat.zero_le _, Nat.zero_le _⟩ (fun u H locs hu hP hD hS => ?_)
  have hP : va_P E.1 vwCl [(ca, .inr (4, [.ref d, .ref cp, .ref c1, .ref c2])), (d, .inr (3, [.ref dd, .ref dq, .ref dr])), (dd, .inl (E.2.1 0, 16, .inl (u 0))), (dq, .inl (E.2.1 0, 16, .inl (u 1))), (dr, .inl (E.2.1 0, 8, .inl (u 2))), (cp, .inl (E.2.1 0, 16, .inl (u 3))), (c1, .inl (E.2.1 0, 8, .inl (u 4))), (c2, .inl (E.2.1 0, 8, .inl (u 5))), (a, .inl (E.2.1 0, 8, .inl f)), (b, .inl (E.2.1 0, 8, .inl x)), (v, .inl (E.2.1 0, 8, .inl y)), (t, .inl (E.2.1 0, 8, .inl z))] H := hP
  have hD : va_D A [(ca, .inr (4, [.ref d, .ref cp, .ref c1, .ref c2])), (d, .inr (3, [.ref dd, .ref dq, .ref dr])), (dd, .inl (E.2.1 0, 16, .inl (u 0))), (dq, .inl (E.2.1 0, 16, .inl (u 1))), (dr, .inl (E.2.1 0, 8, .inl (u 2))), (cp, .inl (E.2.1 0, 16, .inl (u 3))), (c1, .inl (E.2.1 0, 8, .inl (u 4))), (c2, .inl (E.2.1 0, 8, .inl (u 5))), (a, .inl (E.2.1 0, 8, .inl f)), (b, .inl (E.2.1 0, 8, .inl x)), (v, .inl (E.2.1 0, 8, .inl y)), (t, .inl (E.2.1 0, 8, .inl z))] := hD
  refine lv_aload_n hx hb d_Ca_compute_181 rfl (lv_at hl 0 rfl) ?_
  refine va_get (D := E.1) (ci := 4) (v := .ref d) (C := "WideStack$Calculator") (T := T_Ca) (N := 4) hx hb hts in_Ca hown hK hP 0 rfl rfl 0 (by decide) (hts _ t_173) (fun _ h9 => h9) rfl d_Ca_compute_182 ?_
  refine va_get (D := E.1) (ci := 3) (v := .ref dq) (C := "WideStack$Divider") (T := T_Di) (N := 3) hx hb hts in_Di hown hK hP 1 rfl rfl 1 (by decide) (hts _ t_163) (fun _ h9 => h9) rfl d_Ca_compute_185 ?_
  refine lv_aload_n hx hb d_Ca_compute_188 rfl (lv_at hl 2 rfl) ?_
  refine k_Sp (As := [.ref a]) (rest := [.ref dq]) ⟨hx, hb, hml, hown, hts⟩ (c_W_isNegative l E a 8 f (by decide) (by decide)) (k_cwS 1 hts t_561 t_547 t_73 t_548 (by decide +kernel) ⟨Nat.le_of_ble_eq_true rfl, Nat.le_of_ble_eq_true rfl⟩) hK hG hA hP hD hS [8] rfl (by decide) rfl hl.1 rfl (Nat.le_of_ble_eq_true rfl) d_Ca_compute_189 ⟨Nat.zero_le _, Nat.zero_le _⟩ (fun r189 hu189 => ?_)
  subst hu189
  refine lv_aload_n hx hb d_Ca_compute_192 rfl (lv_at hl 3 rfl) ?_
  refine k_Sp (As := [.ref b]) (rest := [.int (kb (m_isneg (wv f 8))), .ref dq]) ⟨hx, hb, hml, hown, hts⟩ (c_W_isNegative l E b 8 x (by decide) (by decide)) (k_cwS 1 hts t_561 t_547 t_73 t_548 (by decide +kernel) ⟨Nat.le_of_ble_eq_true rfl, Nat.le_of_ble_eq_true rfl⟩) hK hG hA hP hD hS [9] rfl (by decide) rfl hl.1 rfl (Nat.le_of_ble_eq_true rfl) d_Ca_compute_193 ⟨Nat.zero_le _, Nat.zero_le _⟩ (fun r193 hu193 => ?_)
  subst hu193
  refine lv_icmp_eq (tgt := 203) hx hb d_Ca_compute_196 (by decide) (fun h196 => ?_) (fun h196 => ?_)
  · refine lv_iconst (v := nI 0) hx hb d_Ca_compute_203 (by decide) ?_
    refine lv_aload hx hb d_Ca_compute_204 (lv_at hl 5 rfl) ?_
    refine k_Sv (As := [.ref dq, .int (kb false), .ref t]) (rest := []) ⟨hx, hb, hml, hown, hts⟩ (c_W_copyOrNegate l E dq t 16 (u 1) z false (by decide) (by decide)) (k_cwS 3 hts t_562 t_563 t_73 t_564 (by decide +kernel) ⟨Nat.le_of_ble_eq_true rfl, Nat.le_of_ble_eq_true rfl⟩) hK hG hA hP hD hS [3, 11] rfl (by decide) (fun _ => rfl) rfl hl.1 rfl (Nat.le_of_ble_eq_true rfl) d_Ca_compute_206 ⟨Nat.zero_le _, Nat.zero_le _⟩ (fun w0 H locs hw hP hD hS => ?_)
    have hP : va_P E.1 vwCl [(ca, .inr (4, [.ref d, .ref cp, .ref c1, .ref c2])), (d, .inr (3, [.ref dd, .ref dq, .ref dr])), (dd, .inl (E.2.1 0, 16, .inl (u 0))), (dq, .inl (E.2.1 0, 16, .inl (u 1))), (dr, .inl (E.2.1 0, 8, .inl (u 2))), (cp, .inl (E.2.1 0, 16, .inl (u 3))), (c1, .inl (E.2.1 0, 8, .inl (u 4))), (c2, .inl (E.2.1 0, 8, .inl (u 5))), (a, .inl (E.2.1 0, 8, .inl f)), (b, .inl (E.2.1 0, 8, .inl x)), (v, .inl (E.2.1 0, 8, .inl y)), (t, .inl (E.2.1 0, 8, .inl w0))] H := hP
    have hD : va_D A [(ca, .inr (4, [.ref d, .ref cp, .ref c1, .ref c2])), (d, .inr (3, [.ref dd, .ref dq, .ref dr])), (dd, .inl (E.2.1 0, 16, .inl (u 0))), (dq, .inl (E.2.1 0, 16, .inl (u 1))), (dr, .inl (E.2.1 0, 8, .inl (u 2))), (cp, .inl (E.2.1 0, 16, .inl (u 3))), (c1, .inl (E.2.1 0, 8, .inl (u 4))), (c2, .inl (E.2.1 0, 8, .inl (u 5))), (a, .inl (E.2.1 0, 8, .inl f)), (b, .inl (E.2.1 0, 8, .inl x)), (v, .inl (E.2.1 0, 8, .inl y)), (t, .inl (E.2.1 0, 8, .inl w0))] := hD
    refine lv_goto (tgt := 500) hx hb d_Ca_compute_209 (by decide) ?_
    exact hret _ ls _ _ (t7 (u 0) (u 1) (u 2) (u 3) (u 4) (u 5) w0) d_Ca_compute_500 ((sdiv_eq h196 ((hw.trans (if_neg (by decide))).trans hu.1)).trans (m_op_5 _ _ _).symm) hP hS
  · refine lv_iconst (v := nI 1) hx hb d_Ca_compute_199 (by decide) ?_
    refine lv_goto (tgt := 204) hx hb d_Ca_compute_200 (by decide) ?_
    refine lv_aload hx hb d_Ca_compute_204 (lv_at hl 5 rfl) ?_
    refine k_Sv (As := [.ref dq, .int (kb true), .ref t]) (rest := []) ⟨hx, hb, hml, hown, hts⟩ (c_W_copyOrNegate l E dq t 16 (u 1) z true (by decide) (by decide)) (k_cwS 3 hts t_562 t_563 t_73 t_564 (by decide +kernel) ⟨Nat.le_of_ble_eq_true rfl, Nat.le_of_ble_eq_true rfl⟩) hK hG hA hP hD hS [3, 11] rfl (by decide) (fun _ => rfl) rfl hl.1 rfl (Nat.le_of_ble_eq_true rfl) d_Ca_compute_206 ⟨Nat.zero_le _, Nat.zero_le _⟩ (fun w0 H locs hw hP hD hS => ?_)
    have hP : va_P E.1 vwCl [(ca, .inr (4, [.ref d, .ref cp, .ref c1, .ref c2])), (d, .inr (3, [.ref dd, .ref dq, .ref dr])), (dd, .inl (E.2.1 0, 16, .inl (u 0))), (dq, .inl (E.2.1 0, 16, .inl (u 1))), (dr, .inl (E.2.1 0, 8, .inl (u 2))), (cp, .inl (E.2.1 0, 16, .inl (u 3))), (c1, .inl (E.2.1 0, 8, .inl (u 4))), (c2, .inl (E.2.1 0, 8, .inl (u 5))), (a, .inl (E.2.1 0, 8, .inl f)), (b, .inl (E.2.1 0, 8, .inl x)), (v, .inl (E.2.1 0, 8, .inl y)), (t, .inl (E.2.1 0, 8, .inl w0))] H := hP
    have hD : va_D A [(ca, .inr (4, [.ref d, .ref cp, .ref c1, .ref c2])), (d, .inr (3, [.ref dd, .ref dq, .ref dr])), (dd, .inl (E.2.1 0, 16, .inl (u 0))), (dq, .inl (E.2.1 0, 16, .inl (u 1))), (dr, .inl (E.2.1 0, 8, .inl (u 2))), (cp, .inl (E.2.1 0, 16, .inl (u 3))), (c1, .inl (E.2.1 0, 8, .inl (u 4))), (c2, .inl (E.2.1 0, 8, .inl (u 5))), (a, .inl (E.2.1 0, 8, .inl f)), (b, .inl (E.2.1 0, 8, .inl x)), (v, .inl (E.2.1 0, 8, .inl y)), (t, .inl (E.2.1 0, 8, .inl w0))] := hD
    refine lv_goto (tgt := 500) hx hb d_Ca_compute_209 (by decide) ?_
    exact hret _ ls _ _ (t7 (u 0) (u 1) (u 2) (u 3) (u 4) (u 5) w0) d_Ca_compute_500 ((sdiv_ne h196 ((hw.trans (if_pos rfl)).trans (congrArg m_neg hu.1))).trans (m_op_5 _ _ _).symm) hP hS

set_option maxHeartbeats 4000000 in
set_option maxRecDepth 100000 in
theorem c_C_compute_6 (l : Launch) (E : kE) (ca d dd dq dr cp c1 c2 : Nat) (fD fq fr fp f1 f2 : Nat → Int32) (a b v t : Nat) (f x y z : Nat → Int32) : Kv l y_Ca_compute (kW y_Ca_compute prog_3_method_2_code 6 (none)) rm_c_C_compute E [.ref ca, .int (nI 6), .ref a, .ref b, .ref v, .ref t] [(ca, .inr (4, [.ref d, .ref cp, .ref c1, .ref c2])), (d, .inr (3, [.ref dd, .ref dq, .ref dr])), (dd, .inl (E.2.1 0, 16, .inl fD)), (dq, .inl (E.2.1 0, 16, .inl fq)), (dr, .inl (E.2.1 0, 8, .inl fr)), (cp, .inl (E.2.1 0, 16, .inl fp)), (c1, .inl (E.2.1 0, 8, .inl f1)), (c2, .inl (E.2.1 0, 8, .inl f2)), (a, .inl (E.2.1 0, 8, .inl f)), (b, .inl (E.2.1 0, 8, .inl x)), (v, .inl (E.2.1 0, 8, .inl y)), (t, .inl (E.2.1 0, 8, .inl z))] (S := Nat → Nat → Int32) (fun u => wv (u 6) 8 = m_op 6 (wv f 8) (wv x 8) (wv y 8)) (fun u => [(ca, .inr (4, [.ref d, .ref cp, .ref c1, .ref c2])), (d, .inr (3, [.ref dd, .ref dq, .ref dr])), (dd, .inl (E.2.1 0, 16, .inl (u 0))), (dq, .inl (E.2.1 0, 16, .inl (u 1))), (dr, .inl (E.2.1 0, 8, .inl (u 2))), (cp, .inl (E.2.1 0, 16, .inl (u 3))), (c1, .inl (E.2.1 0, 8, .inl (u 4))), (c2, .inl (E.2.1 0, 8, .inl (u 5))), (a, .inl (E.2.1 0, 8, .inl f)), (b, .inl (E.2.1 0, 8, .inl x)), (v, .inl (E.2.1 0, 8, .inl y)), (t, .inl (E.2.1 0, 8, .inl (u 6)))]) := by
  refine Kv.ofW (cc := prog_3_method_2_code) (maxL := 6) (by decide) (Nat.le_of_ble_eq_true rfl) ?_
  intro p e s m args below meth c A ls Q hx hb hts hown hml hK hG hA hP hD hS hl hret
  have hl : lv_has ls 6 [(0, .ref ca), (1, .int (nI 6)), (2, .ref a), (3, .ref b), (4, .ref v), (5, .ref t)] := hl
  refine lv_iload_n hx hb d_Ca_compute_0 rfl (lv_at hl 1 rfl) ?_
  refine lv_tableIn (off := 211) (tgt := 212) hx hb d_Ca_compute_1 (by decide) (by decide) (by decide) (by decide) ?_
  refine lv_aload_n hx hb d_Ca_compute_212 rfl (lv_at hl 0 rfl) ?_
  refine lv_aload_n hx hb d_Ca_compute_213 rfl (lv_at hl 2 rfl) ?_
  refine lv_aload_n hx hb d_Ca_compute_214 rfl (lv_at hl 3 rfl) ?_
  refine lv_aload hx hb d_Ca_compute_215 (lv_at hl 5 rfl) ?_
  refine k_Vv (As := [.ref a, .ref b, .ref t]) (rest := []) ⟨hx, hb, hml, hown, hts⟩ (c_C_findRest l E ca d dd dq dr cp c1 c2 fD fq fr fp f1 f2 a b t f x z) (k_cwV 3 hts t_569 t_571 t_19 t_67 t_572 (by decide +kernel) ⟨Nat.le_of_ble_eq_true rfl, Nat.le_of_ble_eq_true rfl⟩) hK hG hA hP hD hS [0, 1, 2, 3, 4, 5, 6, 7, 8, 9, 11] rfl (by decide) 0 rfl rfl (fun _ => rfl) rfl hl.1 rfl (Nat.le_of_ble_eq_true rfl) d_Ca_compute_217 ⟨Nat.zero_le _, Nat.zero_le _⟩ (fun u H locs hu hP hD hS => ?_)
  have hP : va_P E.1 vwCl [(ca, .inr (4, [.ref d, .ref cp, .ref c1, .ref c2])), (d, .inr (3, [.ref dd, .ref dq, .ref dr])), (dd, .inl (E.2.1 0, 16, .inl (u 0))), (dq, .inl (E.2.1 0, 16, .inl (u 1))), (dr, .inl (E.2.1 0, 8, .inl (u 2))), (cp, .inl (E.2.1 0, 16, .inl (u 3))), (c1, .inl (E.2.1 0, 8, .inl (u 4))), (c2, .inl (E.2.1 0, 8, .inl (u 5))), (a, .inl (E.2.1 0, 8, .inl f)), (b, .inl (E.2.1 0, 8, .inl x)), (v, .inl (E.2.1 0, 8, .inl y)), (t, .inl (E.2.1 0, 8, .inl (u 6)))] H := hP
  have hD : va_D A [(ca, .inr (4, [.ref d, .ref cp, .ref c1, .ref c2])), (d, .inr (3, [.ref dd, .ref dq, .ref dr])), (dd, .inl (E.2.1 0, 16, .inl (u 0))), (dq, .inl (E.2.1 0, 16, .inl (u 1))), (dr, .inl (E.2.1 0, 8, .inl (u 2))), (cp, .inl (E.2.1 0, 16, .inl (u 3))), (c1, .inl (E.2.1 0, 8, .inl (u 4))), (c2, .inl (E.2.1 0, 8, .inl (u 5))), (a, .inl (E.2.1 0, 8, .inl f)), (b, .inl (E.2.1 0, 8, .inl x)), (v, .inl (E.2.1 0, 8, .inl y)), (t, .inl (E.2.1 0, 8, .inl (u 6)))] := hD
  refine lv_goto (tgt := 500) hx hb d_Ca_compute_220 (by decide) ?_
  exact hret _ ls _ _ (t7 (u 0) (u 1) (u 2) (u 3) (u 4) (u 5) (u 6)) d_Ca_compute_500 ((hu).trans (m_op_6 _ _ _).symm) hP hS

set_option maxHeartbeats 4000000 in
set_option maxRecDepth 100000 in
theorem c_C_compute_7 (l : Launch) (E : kE) (ca d dd dq dr cp c1 c2 : Nat) (fD fq fr fp f1 f2 : Nat → Int32) (a b v t : Nat) (f x y z : Nat → Int32) : Kv l y_Ca_compute (kW y_Ca_compute prog_3_method_2_code 6 (none)) rm_c_C_compute E [.ref ca, .int (nI 7), .ref a, .ref b, .ref v, .ref t] [(ca, .inr (4, [.ref d, .ref cp, .ref c1, .ref c2])), (d, .inr (3, [.ref dd, .ref dq, .ref dr])), (dd, .inl (E.2.1 0, 16, .inl fD)), (dq, .inl (E.2.1 0, 16, .inl fq)), (dr, .inl (E.2.1 0, 8, .inl fr)), (cp, .inl (E.2.1 0, 16, .inl fp)), (c1, .inl (E.2.1 0, 8, .inl f1)), (c2, .inl (E.2.1 0, 8, .inl f2)), (a, .inl (E.2.1 0, 8, .inl f)), (b, .inl (E.2.1 0, 8, .inl x)), (v, .inl (E.2.1 0, 8, .inl y)), (t, .inl (E.2.1 0, 8, .inl z))] (S := Nat → Nat → Int32) (fun u => wv (u 6) 8 = m_op 7 (wv f 8) (wv x 8) (wv y 8)) (fun u => [(ca, .inr (4, [.ref d, .ref cp, .ref c1, .ref c2])), (d, .inr (3, [.ref dd, .ref dq, .ref dr])), (dd, .inl (E.2.1 0, 16, .inl (u 0))), (dq, .inl (E.2.1 0, 16, .inl (u 1))), (dr, .inl (E.2.1 0, 8, .inl (u 2))), (cp, .inl (E.2.1 0, 16, .inl (u 3))), (c1, .inl (E.2.1 0, 8, .inl (u 4))), (c2, .inl (E.2.1 0, 8, .inl (u 5))), (a, .inl (E.2.1 0, 8, .inl f)), (b, .inl (E.2.1 0, 8, .inl x)), (v, .inl (E.2.1 0, 8, .inl y)), (t, .inl (E.2.1 0, 8, .inl (u 6)))]) := by
  refine Kv.ofW (cc := prog_3_method_2_code) (maxL := 6) (by decide) (Nat.le_of_ble_eq_true rfl) ?_
  intro p e s m args below meth c A ls Q hx hb hts hown hml hK hG hA hP hD hS hl hret
  have hl : lv_has ls 6 [(0, .ref ca), (1, .int (nI 7)), (2, .ref a), (3, .ref b), (4, .ref v), (5, .ref t)] := hl
  refine lv_iload_n hx hb d_Ca_compute_0 rfl (lv_at hl 1 rfl) ?_
  refine lv_tableIn (off := 222) (tgt := 223) hx hb d_Ca_compute_1 (by decide) (by decide) (by decide) (by decide) ?_
  refine lv_aload_n hx hb d_Ca_compute_223 rfl (lv_at hl 0 rfl) ?_
  refine lv_aload_n hx hb d_Ca_compute_224 rfl (lv_at hl 2 rfl) ?_
  refine lv_aload_n hx hb d_Ca_compute_225 rfl (lv_at hl 3 rfl) ?_
  refine k_Vv (As := [.ref a, .ref b]) (rest := []) ⟨hx, hb, hml, hown, hts⟩ (c_C_divideSizes l E ca d dd dq dr cp c1 c2 fD fq fr fp f1 f2 a b f x) (k_cwV 2 hts t_557 t_559 t_18 t_67 t_560 (by decide +kernel) ⟨Nat.le_of_ble_eq_true rfl, Nat.le_of_ble_eq_true rfl⟩) hK hG hA hP hD hS [0, 1, 2, 3, 4, 5, 6, 7, 8, 9] rfl (by decide) 0 rfl rfl (fun _ => rfl) rfl hl.1 rfl (Nat.le_of_ble_eq_true rfl) d_Ca_compute_226 ⟨Nat.zero_le _, Nat.zero_le _⟩ (fun u H locs hu hP hD hS => ?_)
  have hP : va_P E.1 vwCl [(ca, .inr (4, [.ref d, .ref cp, .ref c1, .ref c2])), (d, .inr (3, [.ref dd, .ref dq, .ref dr])), (dd, .inl (E.2.1 0, 16, .inl (u 0))), (dq, .inl (E.2.1 0, 16, .inl (u 1))), (dr, .inl (E.2.1 0, 8, .inl (u 2))), (cp, .inl (E.2.1 0, 16, .inl (u 3))), (c1, .inl (E.2.1 0, 8, .inl (u 4))), (c2, .inl (E.2.1 0, 8, .inl (u 5))), (a, .inl (E.2.1 0, 8, .inl f)), (b, .inl (E.2.1 0, 8, .inl x)), (v, .inl (E.2.1 0, 8, .inl y)), (t, .inl (E.2.1 0, 8, .inl z))] H := hP
  have hD : va_D A [(ca, .inr (4, [.ref d, .ref cp, .ref c1, .ref c2])), (d, .inr (3, [.ref dd, .ref dq, .ref dr])), (dd, .inl (E.2.1 0, 16, .inl (u 0))), (dq, .inl (E.2.1 0, 16, .inl (u 1))), (dr, .inl (E.2.1 0, 8, .inl (u 2))), (cp, .inl (E.2.1 0, 16, .inl (u 3))), (c1, .inl (E.2.1 0, 8, .inl (u 4))), (c2, .inl (E.2.1 0, 8, .inl (u 5))), (a, .inl (E.2.1 0, 8, .inl f)), (b, .inl (E.2.1 0, 8, .inl x)), (v, .inl (E.2.1 0, 8, .inl y)), (t, .inl (E.2.1 0, 8, .inl z))] := hD
  refine lv_aload_n hx hb d_Ca_compute_229 rfl (lv_at hl 0 rfl) ?_
  refine va_get (D := E.1) (ci := 4) (v := .ref d) (C := "WideStack$Calculator") (T := T_Ca) (N := 4) hx hb hts in_Ca hown hK hP 0 rfl rfl 0 (by decide) (hts _ t_173) (fun _ h9 => h9) rfl d_Ca_compute_230 ?_
  refine va_get (D := E.1) (ci := 3) (v := .ref dr) (C := "WideStack$Divider") (T := T_Di) (N := 3) hx hb hts in_Di hown hK hP 1 rfl rfl 2 (by decide) (hts _ t_165) (fun _ h9 => h9) rfl d_Ca_compute_233 ?_
  refine lv_aload_n hx hb d_Ca_compute_236 rfl (lv_at hl 2 rfl) ?_
  refine k_Sp (As := [.ref a]) (rest := [.ref dr]) ⟨hx, hb, hml, hown, hts⟩ (c_W_isNegative l E a 8 f (by decide) (by decide)) (k_cwS 1 hts t_561 t_547 t_73 t_548 (by decide +kernel) ⟨Nat.le_of_ble_eq_true rfl, Nat.le_of_ble_eq_true rfl⟩) hK hG hA hP hD hS [8] rfl (by decide) rfl hl.1 rfl (Nat.le_of_ble_eq_true rfl) d_Ca_compute_237 ⟨Nat.zero_le _, Nat.zero_le _⟩ (fun r237 hu237 => ?_)
  subst hu237
  refine lv_aload hx hb d_Ca_compute_240 (lv_at hl 5 rfl) ?_
  refine k_Sv (As := [.ref dr, .int (kb (m_isneg (wv f 8))), .ref t]) (rest := []) ⟨hx, hb, hml, hown, hts⟩ (c_W_copyOrNegate l E dr t 8 (u 2) z (m_isneg (wv f 8)) (by decide) (by decide)) (k_cwS 3 hts t_562 t_563 t_73 t_564 (by decide +kernel) ⟨Nat.le_of_ble_eq_true rfl, Nat.le_of_ble_eq_true rfl⟩) hK hG hA hP hD hS [4, 11] rfl (by decide) (fun _ => rfl) rfl hl.1 rfl (Nat.le_of_ble_eq_true rfl) d_Ca_compute_242 ⟨Nat.zero_le _, Nat.zero_le _⟩ (fun w0 H locs hw hP hD hS => ?_)
  have hP : va_P E.1 vwCl [(ca, .inr (4, [.ref d, .ref cp, .ref c1, .ref c2])), (d, .inr (3, [.ref dd, .ref dq, .ref dr])), (dd, .inl (E.2.1 0, 16, .inl (u 0))), (dq, .inl (E.2.1 0, 16, .inl (u 1))), (dr, .inl (E.2.1 0, 8, .inl (u 2))), (cp, .inl (E.2.1 0, 16, .inl (u 3))), (c1, .inl (E.2.1 0, 8, .inl (u 4))), (c2, .inl (E.2.1 0, 8, .inl (u 5))), (a, .inl (E.2.1 0, 8, .inl f)), (b, .inl (E.2.1 0, 8, .inl x)), (v, .inl (E.2.1 0, 8, .inl y)), (t, .inl (E.2.1 0, 8, .inl w0))] H := hP
  have hD : va_D A [(ca, .inr (4, [.ref d, .ref cp, .ref c1, .ref c2])), (d, .inr (3, [.ref dd, .ref dq, .ref dr])), (dd, .inl (E.2.1 0, 16, .inl (u 0))), (dq, .inl (E.2.1 0, 16, .inl (u 1))), (dr, .inl (E.2.1 0, 8, .inl (u 2))), (cp, .inl (E.2.1 0, 16, .inl (u 3))), (c1, .inl (E.2.1 0, 8, .inl (u 4))), (c2, .inl (E.2.1 0, 8, .inl (u 5))), (a, .inl (E.2.1 0, 8, .inl f)), (b, .inl (E.2.1 0, 8, .inl x)), (v, .inl (E.2.1 0, 8, .inl y)), (t, .inl (E.2.1 0, 8, .inl w0))] := hD
  refine lv_goto (tgt := 500) hx hb d_Ca_compute_245 (by decide) ?_
  exact hret _ ls _ _ (t7 (u 0) (u 1) (u 2) (u 3) (u 4) (u 5) w0) d_Ca_compute_500 ((hw.trans (by rw [hu.2]; exact srem_if _ _)).trans (m_op_7 _ _ _).symm) hP hS

set_option maxHeartbeats 4000000 in
set_option maxRecDepth 100000 in
theorem c_C_compute_8 (l : Launch) (E : kE) (ca d dd dq dr cp c1 c2 : Nat) (fD fq fr fp f1 f2 : Nat → Int32) (a b v t : Nat) (f x y z : Nat → Int32) : Kv l y_Ca_compute (kW y_Ca_compute prog_3_method_2_code 6 (none)) rm_c_C_compute E [.ref ca, .int (nI 8), .ref a, .ref b, .ref v, .ref t] [(ca, .inr (4, [.ref d, .ref cp, .ref c1, .ref c2])), (d, .inr (3, [.ref dd, .ref dq, .ref dr])), (dd, .inl (E.2.1 0, 16, .inl fD)), (dq, .inl (E.2.1 0, 16, .inl fq)), (dr, .inl (E.2.1 0, 8, .inl fr)), (cp, .inl (E.2.1 0, 16, .inl fp)), (c1, .inl (E.2.1 0, 8, .inl f1)), (c2, .inl (E.2.1 0, 8, .inl f2)), (a, .inl (E.2.1 0, 8, .inl f)), (b, .inl (E.2.1 0, 8, .inl x)), (v, .inl (E.2.1 0, 8, .inl y)), (t, .inl (E.2.1 0, 8, .inl z))] (S := Nat → Nat → Int32) (fun u => wv (u 6) 8 = m_op 8 (wv f 8) (wv x 8) (wv y 8)) (fun u => [(ca, .inr (4, [.ref d, .ref cp, .ref c1, .ref c2])), (d, .inr (3, [.ref dd, .ref dq, .ref dr])), (dd, .inl (E.2.1 0, 16, .inl (u 0))), (dq, .inl (E.2.1 0, 16, .inl (u 1))), (dr, .inl (E.2.1 0, 8, .inl (u 2))), (cp, .inl (E.2.1 0, 16, .inl (u 3))), (c1, .inl (E.2.1 0, 8, .inl (u 4))), (c2, .inl (E.2.1 0, 8, .inl (u 5))), (a, .inl (E.2.1 0, 8, .inl f)), (b, .inl (E.2.1 0, 8, .inl x)), (v, .inl (E.2.1 0, 8, .inl y)), (t, .inl (E.2.1 0, 8, .inl (u 6)))]) := by
  refine Kv.ofW (cc := prog_3_method_2_code) (maxL := 6) (by decide) (Nat.le_of_ble_eq_true rfl) ?_
  intro p e s m args below meth c A ls Q hx hb hts hown hml hK hG hA hP hD hS hl hret
  have hl : lv_has ls 6 [(0, .ref ca), (1, .int (nI 8)), (2, .ref a), (3, .ref b), (4, .ref v), (5, .ref t)] := hl
  refine lv_iload_n hx hb d_Ca_compute_0 rfl (lv_at hl 1 rfl) ?_
  refine lv_tableIn (off := 247) (tgt := 248) hx hb d_Ca_compute_1 (by decide) (by decide) (by decide) (by decide) ?_
  refine lv_aload_n hx hb d_Ca_compute_248 rfl (lv_at hl 0 rfl) ?_
  refine lv_aload_n hx hb d_Ca_compute_249 rfl (lv_at hl 2 rfl) ?_
  refine lv_aload_n hx hb d_Ca_compute_250 rfl (lv_at hl 3 rfl) ?_
  refine lv_aload hx hb d_Ca_compute_251 (lv_at hl 4 rfl) ?_
  refine lv_aload hx hb d_Ca_compute_253 (lv_at hl 5 rfl) ?_
  refine k_Vv (As := [.ref a, .ref b, .ref v, .ref t]) (rest := []) ⟨hx, hb, hml, hown, hts⟩ (c_C_restSum l E ca d dd dq dr cp c1 c2 fD fq fr fp f1 f2 a b v t f x y z) (k_cwV 4 hts t_573 t_575 t_20 t_67 t_576 (by decide +kernel) ⟨Nat.le_of_ble_eq_true rfl, Nat.le_of_ble_eq_true rfl⟩) hK hG hA hP hD hS [0, 1, 2, 3, 4, 5, 6, 7, 8, 9, 10, 11] rfl (by decide) 0 rfl rfl (fun _ => rfl) rfl hl.1 rfl (Nat.le_of_ble_eq_true rfl) d_Ca_compute_255 ⟨Nat.zero_le _, Nat.zero_le _⟩ (fun u H locs hu hP hD hS => ?_)
  have hP : va_P E.1 vwCl [(ca, .inr (4, [.ref d, .ref cp, .ref c1, .ref c2])), (d, .inr (3, [.ref dd, .ref dq, .ref dr])), (dd, .inl (E.2.1 0, 16, .inl (u 0))), (dq, .inl (E.2.1 0, 16, .inl (u 1))), (dr, .inl (E.2.1 0, 8, .inl (u 2))), (cp, .inl (E.2.1 0, 16, .inl (u 3))), (c1, .inl (E.2.1 0, 8, .inl (u 4))), (c2, .inl (E.2.1 0, 8, .inl (u 5))), (a, .inl (E.2.1 0, 8, .inl f)), (b, .inl (E.2.1 0, 8, .inl x)), (v, .inl (E.2.1 0, 8, .inl y)), (t, .inl (E.2.1 0, 8, .inl (u 6)))] H := hP
  have hD : va_D A [(ca, .inr (4, [.ref d, .ref cp, .ref c1, .ref c2])), (d, .inr (3, [.ref dd, .ref dq, .ref dr])), (dd, .inl (E.2.1 0, 16, .inl (u 0))), (dq, .inl (E.2.1 0, 16, .inl (u 1))), (dr, .inl (E.2.1 0, 8, .inl (u 2))), (cp, .inl (E.2.1 0, 16, .inl (u 3))), (c1, .inl (E.2.1 0, 8, .inl (u 4))), (c2, .inl (E.2.1 0, 8, .inl (u 5))), (a, .inl (E.2.1 0, 8, .inl f)), (b, .inl (E.2.1 0, 8, .inl x)), (v, .inl (E.2.1 0, 8, .inl y)), (t, .inl (E.2.1 0, 8, .inl (u 6)))] := hD
  refine lv_goto (tgt := 500) hx hb d_Ca_compute_258 (by decide) ?_
  exact hret _ ls _ _ (t7 (u 0) (u 1) (u 2) (u 3) (u 4) (u 5) (u 6)) d_Ca_compute_500 ((hu).trans (m_op_8 _ _ _).symm) hP hS

set_option maxHeartbeats 4000000 in
set_option maxRecDepth 100000 in
theorem c_C_compute_9 (l : Launch) (E : kE) (ca d dd dq dr cp c1 c2 : Nat) (fD fq fr fp f1 f2 : Nat → Int32) (a b v t : Nat) (f x y z : Nat → Int32) : Kv l y_Ca_compute (kW y_Ca_compute prog_3_method_2_code 6 (none)) rm_c_C_compute E [.ref ca, .int (nI 9), .ref a, .ref b, .ref v, .ref t] [(ca, .inr (4, [.ref d, .ref cp, .ref c1, .ref c2])), (d, .inr (3, [.ref dd, .ref dq, .ref dr])), (dd, .inl (E.2.1 0, 16, .inl fD)), (dq, .inl (E.2.1 0, 16, .inl fq)), (dr, .inl (E.2.1 0, 8, .inl fr)), (cp, .inl (E.2.1 0, 16, .inl fp)), (c1, .inl (E.2.1 0, 8, .inl f1)), (c2, .inl (E.2.1 0, 8, .inl f2)), (a, .inl (E.2.1 0, 8, .inl f)), (b, .inl (E.2.1 0, 8, .inl x)), (v, .inl (E.2.1 0, 8, .inl y)), (t, .inl (E.2.1 0, 8, .inl z))] (S := Nat → Nat → Int32) (fun u => wv (u 6) 8 = m_op 9 (wv f 8) (wv x 8) (wv y 8)) (fun u => [(ca, .inr (4, [.ref d, .ref cp, .ref c1, .ref c2])), (d, .inr (3, [.ref dd, .ref dq, .ref dr])), (dd, .inl (E.2.1 0, 16, .inl (u 0))), (dq, .inl (E.2.1 0, 16, .inl (u 1))), (dr, .inl (E.2.1 0, 8, .inl (u 2))), (cp, .inl (E.2.1 0, 16, .inl (u 3))), (c1, .inl (E.2.1 0, 8, .inl (u 4))), (c2, .inl (E.2.1 0, 8, .inl (u 5))), (a, .inl (E.2.1 0, 8, .inl f)), (b, .inl (E.2.1 0, 8, .inl x)), (v, .inl (E.2.1 0, 8, .inl y)), (t, .inl (E.2.1 0, 8, .inl (u 6)))]) := by
  refine Kv.ofW (cc := prog_3_method_2_code) (maxL := 6) (by decide) (Nat.le_of_ble_eq_true rfl) ?_
  intro p e s m args below meth c A ls Q hx hb hts hown hml hK hG hA hP hD hS hl hret
  have hl : lv_has ls 6 [(0, .ref ca), (1, .int (nI 9)), (2, .ref a), (3, .ref b), (4, .ref v), (5, .ref t)] := hl
  refine lv_iload_n hx hb d_Ca_compute_0 rfl (lv_at hl 1 rfl) ?_
  refine lv_tableIn (off := 260) (tgt := 261) hx hb d_Ca_compute_1 (by decide) (by decide) (by decide) (by decide) ?_
  refine lv_aload_n hx hb d_Ca_compute_261 rfl (lv_at hl 0 rfl) ?_
  refine lv_aload_n hx hb d_Ca_compute_262 rfl (lv_at hl 2 rfl) ?_
  refine lv_aload_n hx hb d_Ca_compute_263 rfl (lv_at hl 3 rfl) ?_
  refine lv_aload hx hb d_Ca_compute_264 (lv_at hl 4 rfl) ?_
  refine lv_aload hx hb d_Ca_compute_266 (lv_at hl 5 rfl) ?_
  refine k_Vv (As := [.ref a, .ref b, .ref v, .ref t]) (rest := []) ⟨hx, hb, hml, hown, hts⟩ (c_C_restProd l E ca d dd dq dr cp c1 c2 fD fq fr fp f1 f2 a b v t f x y z) (k_cwV 4 hts t_582 t_584 t_21 t_67 t_585 (by decide +kernel) ⟨Nat.le_of_ble_eq_true rfl, Nat.le_of_ble_eq_true rfl⟩) hK hG hA hP hD hS [0, 1, 2, 3, 4, 5, 6, 7, 8, 9, 10, 11] rfl (by decide) 0 rfl rfl (fun _ => rfl) rfl hl.1 rfl (Nat.le_of_ble_eq_true rfl) d_Ca_compute_268 ⟨Nat.zero_le _, Nat.zero_le _⟩ (fun u H locs hu hP hD hS => ?_)
  have hP : va_P E.1 vwCl [(ca, .inr (4, [.ref d, .ref cp, .ref c1, .ref c2])), (d, .inr (3, [.ref dd, .ref dq, .ref dr])), (dd, .inl (E.2.1 0, 16, .inl (u 0))), (dq, .inl (E.2.1 0, 16, .inl (u 1))), (dr, .inl (E.2.1 0, 8, .inl (u 2))), (cp, .inl (E.2.1 0, 16, .inl (u 3))), (c1, .inl (E.2.1 0, 8, .inl (u 4))), (c2, .inl (E.2.1 0, 8, .inl (u 5))), (a, .inl (E.2.1 0, 8, .inl f)), (b, .inl (E.2.1 0, 8, .inl x)), (v, .inl (E.2.1 0, 8, .inl y)), (t, .inl (E.2.1 0, 8, .inl (u 6)))] H := hP
  have hD : va_D A [(ca, .inr (4, [.ref d, .ref cp, .ref c1, .ref c2])), (d, .inr (3, [.ref dd, .ref dq, .ref dr])), (dd, .inl (E.2.1 0, 16, .inl (u 0))), (dq, .inl (E.2.1 0, 16, .inl (u 1))), (dr, .inl (E.2.1 0, 8, .inl (u 2))), (cp, .inl (E.2.1 0, 16, .inl (u 3))), (c1, .inl (E.2.1 0, 8, .inl (u 4))), (c2, .inl (E.2.1 0, 8, .inl (u 5))), (a, .inl (E.2.1 0, 8, .inl f)), (b, .inl (E.2.1 0, 8, .inl x)), (v, .inl (E.2.1 0, 8, .inl y)), (t, .inl (E.2.1 0, 8, .inl (u 6)))] := hD
  refine lv_goto (tgt := 500) hx hb d_Ca_compute_271 (by decide) ?_
  exact hret _ ls _ _ (t7 (u 0) (u 1) (u 2) (u 3) (u 4) (u 5) (u 6)) d_Ca_compute_500 ((hu).trans (m_op_9 _ _ _).symm) hP hS

set_option maxHeartbeats 4000000 in
set_option maxRecDepth 100000 in
theorem c_C_compute_11 (l : Launch) (E : kE) (ca d dd dq dr cp c1 c2 : Nat) (fD fq fr fp f1 f2 : Nat → Int32) (a b v t : Nat) (f x y z : Nat → Int32) : Kv l y_Ca_compute (kW y_Ca_compute prog_3_method_2_code 6 (none)) rm_c_C_compute E [.ref ca, .int (nI 11), .ref a, .ref b, .ref v, .ref t] [(ca, .inr (4, [.ref d, .ref cp, .ref c1, .ref c2])), (d, .inr (3, [.ref dd, .ref dq, .ref dr])), (dd, .inl (E.2.1 0, 16, .inl fD)), (dq, .inl (E.2.1 0, 16, .inl fq)), (dr, .inl (E.2.1 0, 8, .inl fr)), (cp, .inl (E.2.1 0, 16, .inl fp)), (c1, .inl (E.2.1 0, 8, .inl f1)), (c2, .inl (E.2.1 0, 8, .inl f2)), (a, .inl (E.2.1 0, 8, .inl f)), (b, .inl (E.2.1 0, 8, .inl x)), (v, .inl (E.2.1 0, 8, .inl y)), (t, .inl (E.2.1 0, 8, .inl z))] (S := Nat → Nat → Int32) (fun u => wv (u 6) 8 = m_op 11 (wv f 8) (wv x 8) (wv y 8)) (fun u => [(ca, .inr (4, [.ref d, .ref cp, .ref c1, .ref c2])), (d, .inr (3, [.ref dd, .ref dq, .ref dr])), (dd, .inl (E.2.1 0, 16, .inl (u 0))), (dq, .inl (E.2.1 0, 16, .inl (u 1))), (dr, .inl (E.2.1 0, 8, .inl (u 2))), (cp, .inl (E.2.1 0, 16, .inl (u 3))), (c1, .inl (E.2.1 0, 8, .inl (u 4))), (c2, .inl (E.2.1 0, 8, .inl (u 5))), (a, .inl (E.2.1 0, 8, .inl f)), (b, .inl (E.2.1 0, 8, .inl x)), (v, .inl (E.2.1 0, 8, .inl y)), (t, .inl (E.2.1 0, 8, .inl (u 6)))]) := by
  refine Kv.ofW (cc := prog_3_method_2_code) (maxL := 6) (by decide) (Nat.le_of_ble_eq_true rfl) ?_
  intro p e s m args below meth c A ls Q hx hb hts hown hml hK hG hA hP hD hS hl hret
  have hl : lv_has ls 6 [(0, .ref ca), (1, .int (nI 11)), (2, .ref a), (3, .ref b), (4, .ref v), (5, .ref t)] := hl
  refine lv_iload_n hx hb d_Ca_compute_0 rfl (lv_at hl 1 rfl) ?_
  refine lv_tableIn (off := 273) (tgt := 274) hx hb d_Ca_compute_1 (by decide) (by decide) (by decide) (by decide) ?_
  refine lv_aload_n hx hb d_Ca_compute_274 rfl (lv_at hl 2 rfl) ?_
  refine lv_aload_n hx hb d_Ca_compute_275 rfl (lv_at hl 3 rfl) ?_
  refine lv_aload hx hb d_Ca_compute_276 (lv_at hl 5 rfl) ?_
  refine k_Sv (As := [.ref a, .ref b, .ref t]) (rest := []) ⟨hx, hb, hml, hown, hts⟩ (c_C_extendSign l E a b t f x z) (k_cwS 3 hts t_586 t_587 t_67 t_588 (by decide +kernel) ⟨Nat.le_of_ble_eq_true rfl, Nat.le_of_ble_eq_true rfl⟩) hK hG hA hP hD hS [8, 9, 11] rfl (by decide) (fun _ => rfl) rfl hl.1 rfl (Nat.le_of_ble_eq_true rfl) d_Ca_compute_278 ⟨Nat.zero_le _, Nat.zero_le _⟩ (fun u H locs hu hP hD hS => ?_)
  have hP : va_P E.1 vwCl [(ca, .inr (4, [.ref d, .ref cp, .ref c1, .ref c2])), (d, .inr (3, [.ref dd, .ref dq, .ref dr])), (dd, .inl (E.2.1 0, 16, .inl fD)), (dq, .inl (E.2.1 0, 16, .inl fq)), (dr, .inl (E.2.1 0, 8, .inl fr)), (cp, .inl (E.2.1 0, 16, .inl fp)), (c1, .inl (E.2.1 0, 8, .inl f1)), (c2, .inl (E.2.1 0, 8, .inl f2)), (a, .inl (E.2.1 0, 8, .inl f)), (b, .inl (E.2.1 0, 8, .inl x)), (v, .inl (E.2.1 0, 8, .inl y)), (t, .inl (E.2.1 0, 8, .inl u))] H := hP
  have hD : va_D A [(ca, .inr (4, [.ref d, .ref cp, .ref c1, .ref c2])), (d, .inr (3, [.ref dd, .ref dq, .ref dr])), (dd, .inl (E.2.1 0, 16, .inl fD)), (dq, .inl (E.2.1 0, 16, .inl fq)), (dr, .inl (E.2.1 0, 8, .inl fr)), (cp, .inl (E.2.1 0, 16, .inl fp)), (c1, .inl (E.2.1 0, 8, .inl f1)), (c2, .inl (E.2.1 0, 8, .inl f2)), (a, .inl (E.2.1 0, 8, .inl f)), (b, .inl (E.2.1 0, 8, .inl x)), (v, .inl (E.2.1 0, 8, .inl y)), (t, .inl (E.2.1 0, 8, .inl u))] := hD
  refine lv_goto (tgt := 500) hx hb d_Ca_compute_281 (by decide) ?_
  exact hret _ ls _ _ (t7 fD fq fr fp f1 f2 u) d_Ca_compute_500 ((hu).trans (m_op_11 _ _ _).symm) hP hS

set_option maxHeartbeats 4000000 in
set_option maxRecDepth 100000 in
theorem c_C_compute_16 (l : Launch) (E : kE) (ca d dd dq dr cp c1 c2 : Nat) (fD fq fr fp f1 f2 : Nat → Int32) (a b v t : Nat) (f x y z : Nat → Int32) : Kv l y_Ca_compute (kW y_Ca_compute prog_3_method_2_code 6 (none)) rm_c_C_compute E [.ref ca, .int (nI 16), .ref a, .ref b, .ref v, .ref t] [(ca, .inr (4, [.ref d, .ref cp, .ref c1, .ref c2])), (d, .inr (3, [.ref dd, .ref dq, .ref dr])), (dd, .inl (E.2.1 0, 16, .inl fD)), (dq, .inl (E.2.1 0, 16, .inl fq)), (dr, .inl (E.2.1 0, 8, .inl fr)), (cp, .inl (E.2.1 0, 16, .inl fp)), (c1, .inl (E.2.1 0, 8, .inl f1)), (c2, .inl (E.2.1 0, 8, .inl f2)), (a, .inl (E.2.1 0, 8, .inl f)), (b, .inl (E.2.1 0, 8, .inl x)), (v, .inl (E.2.1 0, 8, .inl y)), (t, .inl (E.2.1 0, 8, .inl z))] (S := Nat → Nat → Int32) (fun u => wv (u 6) 8 = m_op 16 (wv f 8) (wv x 8) (wv y 8)) (fun u => [(ca, .inr (4, [.ref d, .ref cp, .ref c1, .ref c2])), (d, .inr (3, [.ref dd, .ref dq, .ref dr])), (dd, .inl (E.2.1 0, 16, .inl (u 0))), (dq, .inl (E.2.1 0, 16, .inl (u 1))), (dr, .inl (E.2.1 0, 8, .inl (u 2))), (cp, .inl (E.2.1 0, 16, .inl (u 3))), (c1, .inl (E.2.1 0, 8, .inl (u 4))), (c2, .inl (E.2.1 0, 8, .inl (u 5))), (a, .inl (E.2.1 0, 8, .inl f)), (b, .inl (E.2.1 0, 8, .inl x)), (v, .inl (E.2.1 0, 8, .inl y)), (t, .inl (E.2.1 0, 8, .inl (u 6)))]) := by
  refine Kv.ofW (cc := prog_3_method_2_code) (maxL := 6) (by decide) (Nat.le_of_ble_eq_true rfl) ?_
  intro p e s m args below meth c A ls Q hx hb hts hown hml hK hG hA hP hD hS hl hret
  have hl : lv_has ls 6 [(0, .ref ca), (1, .int (nI 16)), (2, .ref a), (3, .ref b), (4, .ref v), (5, .ref t)] := hl
  refine lv_iload_n hx hb d_Ca_compute_0 rfl (lv_at hl 1 rfl) ?_
  refine lv_tableIn (off := 283) (tgt := 284) hx hb d_Ca_compute_1 (by decide) (by decide) (by decide) (by decide) ?_
  refine lv_aload hx hb d_Ca_compute_284 (lv_at hl 5 rfl) ?_
  refine lv_aload_n hx hb d_Ca_compute_286 rfl (lv_at hl 2 rfl) ?_
  refine lv_aload_n hx hb d_Ca_compute_287 rfl (lv_at hl 3 rfl) ?_
  refine k_Sp (As := [.ref a, .ref b]) (rest := [.ref t]) ⟨hx, hb, hml, hown, hts⟩ (c_W_order l E a b f x) (k_cwS 2 hts t_593 t_554 t_73 t_555 (by decide +kernel) ⟨Nat.le_of_ble_eq_true rfl, Nat.le_of_ble_eq_true rfl⟩) hK hG hA hP hD hS [8, 9] rfl (by decide) rfl hl.1 rfl (Nat.le_of_ble_eq_true rfl) d_Ca_compute_288 ⟨Nat.zero_le _, Nat.zero_le _⟩ (fun r288 hu288 => ?_)
  subst hu288
  refine lv_if_ge (tgt := 298) hx hb d_Ca_compute_291 (by decide) (fun h291 => ?_) (fun h291 => ?_)
  · refine lv_iconst (v := nI 0) hx hb d_Ca_compute_298 (by decide) ?_
    refine k_Sv (As := [.ref t, .int (kb false)]) (rest := []) ⟨hx, hb, hml, hown, hts⟩ (c_W_setTruth l E t z false) (k_cwS 2 hts t_594 t_595 t_73 t_596 (by decide +kernel) ⟨Nat.le_of_ble_eq_true rfl, Nat.le_of_ble_eq_true rfl⟩) hK hG hA hP hD hS [11] rfl (by decide) (fun _ => rfl) rfl hl.1 rfl (Nat.le_of_ble_eq_true rfl) d_Ca_compute_299 ⟨Nat.zero_le _, Nat.zero_le _⟩ (fun u H locs hu hP hD hS => ?_)
    have hP : va_P E.1 vwCl [(ca, .inr (4, [.ref d, .ref cp, .ref c1, .ref c2])), (d, .inr (3, [.ref dd, .ref dq, .ref dr])), (dd, .inl (E.2.1 0, 16, .inl fD)), (dq, .inl (E.2.1 0, 16, .inl fq)), (dr, .inl (E.2.1 0, 8, .inl fr)), (cp, .inl (E.2.1 0, 16, .inl fp)), (c1, .inl (E.2.1 0, 8, .inl f1)), (c2, .inl (E.2.1 0, 8, .inl f2)), (a, .inl (E.2.1 0, 8, .inl f)), (b, .inl (E.2.1 0, 8, .inl x)), (v, .inl (E.2.1 0, 8, .inl y)), (t, .inl (E.2.1 0, 8, .inl u))] H := hP
    have hD : va_D A [(ca, .inr (4, [.ref d, .ref cp, .ref c1, .ref c2])), (d, .inr (3, [.ref dd, .ref dq, .ref dr])), (dd, .inl (E.2.1 0, 16, .inl fD)), (dq, .inl (E.2.1 0, 16, .inl fq)), (dr, .inl (E.2.1 0, 8, .inl fr)), (cp, .inl (E.2.1 0, 16, .inl fp)), (c1, .inl (E.2.1 0, 8, .inl f1)), (c2, .inl (E.2.1 0, 8, .inl f2)), (a, .inl (E.2.1 0, 8, .inl f)), (b, .inl (E.2.1 0, 8, .inl x)), (v, .inl (E.2.1 0, 8, .inl y)), (t, .inl (E.2.1 0, 8, .inl u))] := hD
    refine lv_goto (tgt := 500) hx hb d_Ca_compute_302 (by decide) ?_
    exact hret _ ls _ _ (t7 fD fq fr fp f1 f2 u) d_Ca_compute_500 (((wv_truth hu).trans (congrArg m_b (ord_ge h291).symm)).trans (m_op_16 _ _ _).symm) hP hS
  · refine lv_iconst (v := nI 1) hx hb d_Ca_compute_294 (by decide) ?_
    refine lv_goto (tgt := 299) hx hb d_Ca_compute_295 (by decide) ?_
    refine k_Sv (As := [.ref t, .int (kb true)]) (rest := []) ⟨hx, hb, hml, hown, hts⟩ (c_W_setTruth l E t z true) (k_cwS 2 hts t_594 t_595 t_73 t_596 (by decide +kernel) ⟨Nat.le_of_ble_eq_true rfl, Nat.le_of_ble_eq_true rfl⟩) hK hG hA hP hD hS [11] rfl (by decide) (fun _ => rfl) rfl hl.1 rfl (Nat.le_of_ble_eq_true rfl) d_Ca_compute_299 ⟨Nat.zero_le _, Nat.zero_le _⟩ (fun u H locs hu hP hD hS => ?_)
    have hP : va_P E.1 vwCl [(ca, .inr (4, [.ref d, .ref cp, .ref c1, .ref c2])), (d, .inr (3, [.ref dd, .ref dq, .ref dr])), (dd, .inl (E.2.1 0, 16, .inl fD)), (dq, .inl (E.2.1 0, 16, .inl fq)), (dr, .inl (E.2.1 0, 8, .inl fr)), (cp, .inl (E.2.1 0, 16, .inl fp)), (c1, .inl (E.2.1 0, 8, .inl f1)), (c2, .inl (E.2.1 0, 8, .inl f2)), (a, .inl (E.2.1 0, 8, .inl f)), (b, .inl (E.2.1 0, 8, .inl x)), (v, .inl (E.2.1 0, 8, .inl y)), (t, .inl (E.2.1 0, 8, .inl u))] H := hP
    have hD : va_D A [(ca, .inr (4, [.ref d, .ref cp, .ref c1, .ref c2])), (d, .inr (3, [.ref dd, .ref dq, .ref dr])), (dd, .inl (E.2.1 0, 16, .inl fD)), (dq, .inl (E.2.1 0, 16, .inl fq)), (dr, .inl (E.2.1 0, 8, .inl fr)), (cp, .inl (E.2.1 0, 16, .inl fp)), (c1, .inl (E.2.1 0, 8, .inl f1)), (c2, .inl (E.2.1 0, 8, .inl f2)), (a, .inl (E.2.1 0, 8, .inl f)), (b, .inl (E.2.1 0, 8, .inl x)), (v, .inl (E.2.1 0, 8, .inl y)), (t, .inl (E.2.1 0, 8, .inl u))] := hD
    refine lv_goto (tgt := 500) hx hb d_Ca_compute_302 (by decide) ?_
    exact hret _ ls _ _ (t7 fD fq fr fp f1 f2 u) d_Ca_compute_500 (((wv_truth hu).trans (congrArg m_b (ord_nge h291).symm)).trans (m_op_16 _ _ _).symm) hP hS

set_option maxHeartbeats 4000000 in
set_option maxRecDepth 100000 in
theorem c_C_compute_17 (l : Launch) (E : kE) (ca d dd dq dr cp c1 c2 : Nat) (fD fq fr fp f1 f2 : Nat → Int32) (a b v t : Nat) (f x y z : Nat → Int32) : Kv l y_Ca_compute (kW y_Ca_compute prog_3_method_2_code 6 (none)) rm_c_C_compute E [.ref ca, .int (nI 17), .ref a, .ref b, .ref v, .ref t] [(ca, .inr (4, [.ref d, .ref cp, .ref c1, .ref c2])), (d, .inr (3, [.ref dd, .ref dq, .ref dr])), (dd, .inl (E.2.1 0, 16, .inl fD)), (dq, .inl (E.2.1 0, 16, .inl fq)), (dr, .inl (E.2.1 0, 8, .inl fr)), (cp, .inl (E.2.1 0, 16, .inl fp)), (c1, .inl (E.2.1 0, 8, .inl f1)), (c2, .inl (E.2.1 0, 8, .inl f2)), (a, .inl (E.2.1 0, 8, .inl f)), (b, .inl (E.2.1 0, 8, .inl x)), (v, .inl (E.2.1 0, 8, .inl y)), (t, .inl (E.2.1 0, 8, .inl z))] (S := Nat → Nat → Int32) (fun u => wv (u 6) 8 = m_op 17 (wv f 8) (wv x 8) (wv y 8)) (fun u => [(ca, .inr (4, [.ref d, .ref cp, .ref c1, .ref c2])), (d, .inr (3, [.ref dd, .ref dq, .ref dr])), (dd, .inl (E.2.1 0, 16, .inl (u 0))), (dq, .inl (E.2.1 0, 16, .inl (u 1))), (dr, .inl (E.2.1 0, 8, .inl (u 2))), (cp, .inl (E.2.1 0, 16, .inl (u 3))), (c1, .inl (E.2.1 0, 8, .inl (u 4))), (c2, .inl (E.2.1 0, 8, .inl (u 5))), (a, .inl (E.2.1 0, 8, .inl f)), (b, .inl (E.2.1 0, 8, .inl x)), (v, .inl (E.2.1 0, 8, .inl y)), (t, .inl (E.2.1 0, 8, .inl (u 6)))]) := by
  refine Kv.ofW (cc := prog_3_method_2_code) (maxL := 6) (by decide) (Nat.le_of_ble_eq_true rfl) ?_
  intro p e s m args below meth c A ls Q hx hb hts hown hml hK hG hA hP hD hS hl hret
  have hl : lv_has ls 6 [(0, .ref ca), (1, .int (nI 17)), (2, .ref a), (3, .ref b), (4, .ref v), (5, .ref t)] := hl
  refine lv_iload_n hx hb d_Ca_compute_0 rfl (lv_at hl 1 rfl) ?_
  refine lv_tableIn (off := 304) (tgt := 305) hx hb d_Ca_compute_1 (by decide) (by decide) (by decide) (by decide) ?_
  refine lv_aload hx hb d_Ca_compute_305 (lv_at hl 5 rfl) ?_
  refine lv_aload_n hx hb d_Ca_compute_307 rfl (lv_at hl 2 rfl) ?_
  refine lv_aload_n hx hb d_Ca_compute_308 rfl (lv_at hl 3 rfl) ?_
  refine k_Sp (As := [.ref a, .ref b]) (rest := [.ref t]) ⟨hx, hb, hml, hown, hts⟩ (c_W_order l E a b f x) (k_cwS 2 hts t_593 t_554 t_73 t_555 (by decide +kernel) ⟨Nat.le_of_ble_eq_true rfl, Nat.le_of_ble_eq_true rfl⟩) hK hG hA hP hD hS [8, 9] rfl (by decide) rfl hl.1 rfl (Nat.le_of_ble_eq_true rfl) d_Ca_compute_309 ⟨Nat.zero_le _, Nat.zero_le _⟩ (fun r309 hu309 => ?_)
  subst hu309
  refine lv_if_le (tgt := 319) hx hb d_Ca_compute_312 (by decide) (fun h312 => ?_) (fun h312 => ?_)
  · refine lv_iconst (v := nI 0) hx hb d_Ca_compute_319 (by decide) ?_
    refine k_Sv (As := [.ref t, .int (kb false)]) (rest := []) ⟨hx, hb, hml, hown, hts⟩ (c_W_setTruth l E t z false) (k_cwS 2 hts t_594 t_595 t_73 t_596 (by decide +kernel) ⟨Nat.le_of_ble_eq_true rfl, Nat.le_of_ble_eq_true rfl⟩) hK hG hA hP hD hS [11] rfl (by decide) (fun _ => rfl) rfl hl.1 rfl (Nat.le_of_ble_eq_true rfl) d_Ca_compute_320 ⟨Nat.zero_le _, Nat.zero_le _⟩ (fun u H locs hu hP hD hS => ?_)
    have hP : va_P E.1 vwCl [(ca, .inr (4, [.ref d, .ref cp, .ref c1, .ref c2])), (d, .inr (3, [.ref dd, .ref dq, .ref dr])), (dd, .inl (E.2.1 0, 16, .inl fD)), (dq, .inl (E.2.1 0, 16, .inl fq)), (dr, .inl (E.2.1 0, 8, .inl fr)), (cp, .inl (E.2.1 0, 16, .inl fp)), (c1, .inl (E.2.1 0, 8, .inl f1)), (c2, .inl (E.2.1 0, 8, .inl f2)), (a, .inl (E.2.1 0, 8, .inl f)), (b, .inl (E.2.1 0, 8, .inl x)), (v, .inl (E.2.1 0, 8, .inl y)), (t, .inl (E.2.1 0, 8, .inl u))] H := hP
    have hD : va_D A [(ca, .inr (4, [.ref d, .ref cp, .ref c1, .ref c2])), (d, .inr (3, [.ref dd, .ref dq, .ref dr])), (dd, .inl (E.2.1 0, 16, .inl fD)), (dq, .inl (E.2.1 0, 16, .inl fq)), (dr, .inl (E.2.1 0, 8, .inl fr)), (cp, .inl (E.2.1 0, 16, .inl fp)), (c1, .inl (E.2.1 0, 8, .inl f1)), (c2, .inl (E.2.1 0, 8, .inl f2)), (a, .inl (E.2.1 0, 8, .inl f)), (b, .inl (E.2.1 0, 8, .inl x)), (v, .inl (E.2.1 0, 8, .inl y)), (t, .inl (E.2.1 0, 8, .inl u))] := hD
    refine lv_goto (tgt := 500) hx hb d_Ca_compute_323 (by decide) ?_
    exact hret _ ls _ _ (t7 fD fq fr fp f1 f2 u) d_Ca_compute_500 (((wv_truth hu).trans (congrArg m_b (ord_le h312).symm)).trans (m_op_17 _ _ _).symm) hP hS
  · refine lv_iconst (v := nI 1) hx hb d_Ca_compute_315 (by decide) ?_
    refine lv_goto (tgt := 320) hx hb d_Ca_compute_316 (by decide) ?_
    refine k_Sv (As := [.ref t, .int (kb true)]) (rest := []) ⟨hx, hb, hml, hown, hts⟩ (c_W_setTruth l E t z true) (k_cwS 2 hts t_594 t_595 t_73 t_596 (by decide +kernel) ⟨Nat.le_of_ble_eq_true rfl, Nat.le_of_ble_eq_true rfl⟩) hK hG hA hP hD hS [11] rfl (by decide) (fun _ => rfl) rfl hl.1 rfl (Nat.le_of_ble_eq_true rfl) d_Ca_compute_320 ⟨Nat.zero_le _, Nat.zero_le _⟩ (fun u H locs hu hP hD hS => ?_)
    have hP : va_P E.1 vwCl [(ca, .inr (4, [.ref d, .ref cp, .ref c1, .ref c2])), (d, .inr (3, [.ref dd, .ref dq, .ref dr])), (dd, .inl (E.2.1 0, 16, .inl fD)), (dq, .inl (E.2.1 0, 16, .inl fq)), (dr, .inl (E.2.1 0, 8, .inl fr)), (cp, .inl (E.2.1 0, 16, .inl fp)), (c1, .inl (E.2.1 0, 8, .inl f1)), (c2, .inl (E.2.1 0, 8, .inl f2)), (a, .inl (E.2.1 0, 8, .inl f)), (b, .inl (E.2.1 0, 8, .inl x)), (v, .inl (E.2.1 0, 8, .inl y)), (t, .inl (E.2.1 0, 8, .inl u))] H := hP
    have hD : va_D A [(ca, .inr (4, [.ref d, .ref cp, .ref c1, .ref c2])), (d, .inr (3, [.ref dd, .ref dq, .ref dr])), (dd, .inl (E.2.1 0, 16, .inl fD)), (dq, .inl (E.2.1 0, 16, .inl fq)), (dr, .inl (E.2.1 0, 8, .inl fr)), (cp, .inl (E.2.1 0, 16, .inl fp)), (c1, .inl (E.2.1 0, 8, .inl f1)), (c2, .inl (E.2.1 0, 8, .inl f2)), (a, .inl (E.2.1 0, 8, .inl f)), (b, .inl (E.2.1 0, 8, .inl x)), (v, .inl (E.2.1 0, 8, .inl y)), (t, .inl (E.2.1 0, 8, .inl u))] := hD
    refine lv_goto (tgt := 500) hx hb d_Ca_compute_323 (by decide) ?_
    exact hret _ ls _ _ (t7 fD fq fr fp f1 f2 u) d_Ca_compute_500 (((wv_truth hu).trans (congrArg m_b (ord_nle h312).symm)).trans (m_op_17 _ _ _).symm) hP hS

set_option maxHeartbeats 4000000 in
set_option maxRecDepth 100000 in
theorem c_C_compute_18 (l : Launch) (E : kE) (ca d dd dq dr cp c1 c2 : Nat) (fD fq fr fp f1 f2 : Nat → Int32) (a b v t : Nat) (f x y z : Nat → Int32) : Kv l y_Ca_compute (kW y_Ca_compute prog_3_method_2_code 6 (none)) rm_c_C_compute E [.ref ca, .int (nI 18), .ref a, .ref b, .ref v, .ref t] [(ca, .inr (4, [.ref d, .ref cp, .ref c1, .ref c2])), (d, .inr (3, [.ref dd, .ref dq, .ref dr])), (dd, .inl (E.2.1 0, 16, .inl fD)), (dq, .inl (E.2.1 0, 16, .inl fq)), (dr, .inl (E.2.1 0, 8, .inl fr)), (cp, .inl (E.2.1 0, 16, .inl fp)), (c1, .inl (E.2.1 0, 8, .inl f1)), (c2, .inl (E.2.1 0, 8, .inl f2)), (a, .inl (E.2.1 0, 8, .inl f)), (b, .inl (E.2.1 0, 8, .inl x)), (v, .inl (E.2.1 0, 8, .inl y)), (t, .inl (E.2.1 0, 8, .inl z))] (S := Nat → Nat → Int32) (fun u => wv (u 6) 8 = m_op 18 (wv f 8) (wv x 8) (wv y 8)) (fun u => [(ca, .inr (4, [.ref d, .ref cp, .ref c1, .ref c2])), (d, .inr (3, [.ref dd, .ref dq, .ref dr])), (dd, .inl (E.2.1 0, 16, .inl (u 0))), (dq, .inl (E.2.1 0, 16, .inl (u 1))), (dr, .inl (E.2.1 0, 8, .inl (u 2))), (cp, .inl (E.2.1 0, 16, .inl (u 3))), (c1, .inl (E.2.1 0, 8, .inl (u 4))), (c2, .inl (E.2.1 0, 8, .inl (u 5))), (a, .inl (E.2.1 0, 8, .inl f)), (b, .inl (E.2.1 0, 8, .inl x)), (v, .inl (E.2.1 0, 8, .inl y)), (t, .inl (E.2.1 0, 8, .inl (u 6)))]) := by
  refine Kv.ofW (cc := prog_3_method_2_code) (maxL := 6) (by decide) (Nat.le_of_ble_eq_true rfl) ?_
  intro p e s m args below meth c A ls Q hx hb hts hown hml hK hG hA hP hD hS hl hret
  have hl : lv_has ls 6 [(0, .ref ca), (1, .int (nI 18)), (2, .ref a), (3, .ref b), (4, .ref v), (5, .ref t)] := hl
  refine lv_iload_n hx hb d_Ca_compute_0 rfl (lv_at hl 1 rfl) ?_
  refine lv_tableIn (off := 325) (tgt := 326) hx hb d_Ca_compute_1 (by decide) (by decide) (by decide) (by decide) ?_
  refine lv_aload hx hb d_Ca_compute_326 (lv_at hl 5 rfl) ?_
  refine lv_aload_n hx hb d_Ca_compute_328 rfl (lv_at hl 2 rfl) ?_
  refine lv_aload_n hx hb d_Ca_compute_329 rfl (lv_at hl 3 rfl) ?_
  refine k_Sp (As := [.ref a, .ref b]) (rest := [.ref t]) ⟨hx, hb, hml, hown, hts⟩ (c_W_signedOrder l E a b f x) (k_cwS 2 hts t_598 t_599 t_73 t_600 (by decide +kernel) ⟨Nat.le_of_ble_eq_true rfl, Nat.le_of_ble_eq_true rfl⟩) hK hG hA hP hD hS [8, 9] rfl (by decide) rfl hl.1 rfl (Nat.le_of_ble_eq_true rfl) d_Ca_compute_330 ⟨Nat.zero_le _, Nat.zero_le _⟩ (fun r330 hu330 => ?_)
  subst hu330
  refine lv_if_ge (tgt := 340) hx hb d_Ca_compute_333 (by decide) (fun h333 => ?_) (fun h333 => ?_)
  · refine lv_iconst (v := nI 0) hx hb d_Ca_compute_340 (by decide) ?_
    refine k_Sv (As := [.ref t, .int (kb false)]) (rest := []) ⟨hx, hb, hml, hown, hts⟩ (c_W_setTruth l E t z false) (k_cwS 2 hts t_594 t_595 t_73 t_596 (by decide +kernel) ⟨Nat.le_of_ble_eq_true rfl, Nat.le_of_ble_eq_true rfl⟩) hK hG hA hP hD hS [11] rfl (by decide) (fun _ => rfl) rfl hl.1 rfl (Nat.le_of_ble_eq_true rfl) d_Ca_compute_341 ⟨Nat.zero_le _, Nat.zero_le _⟩ (fun u H locs hu hP hD hS => ?_)
    have hP : va_P E.1 vwCl [(ca, .inr (4, [.ref d, .ref cp, .ref c1, .ref c2])), (d, .inr (3, [.ref dd, .ref dq, .ref dr])), (dd, .inl (E.2.1 0, 16, .inl fD)), (dq, .inl (E.2.1 0, 16, .inl fq)), (dr, .inl (E.2.1 0, 8, .inl fr)), (cp, .inl (E.2.1 0, 16, .inl fp)), (c1, .inl (E.2.1 0, 8, .inl f1)), (c2, .inl (E.2.1 0, 8, .inl f2)), (a, .inl (E.2.1 0, 8, .inl f)), (b, .inl (E.2.1 0, 8, .inl x)), (v, .inl (E.2.1 0, 8, .inl y)), (t, .inl (E.2.1 0, 8, .inl u))] H := hP
    have hD : va_D A [(ca, .inr (4, [.ref d, .ref cp, .ref c1, .ref c2])), (d, .inr (3, [.ref dd, .ref dq, .ref dr])), (dd, .inl (E.2.1 0, 16, .inl fD)), (dq, .inl (E.2.1 0, 16, .inl fq)), (dr, .inl (E.2.1 0, 8, .inl fr)), (cp, .inl (E.2.1 0, 16, .inl fp)), (c1, .inl (E.2.1 0, 8, .inl f1)), (c2, .inl (E.2.1 0, 8, .inl f2)), (a, .inl (E.2.1 0, 8, .inl f)), (b, .inl (E.2.1 0, 8, .inl x)), (v, .inl (E.2.1 0, 8, .inl y)), (t, .inl (E.2.1 0, 8, .inl u))] := hD
    refine lv_goto (tgt := 500) hx hb d_Ca_compute_344 (by decide) ?_
    exact hret _ ls _ _ (t7 fD fq fr fp f1 f2 u) d_Ca_compute_500 (((wv_truth hu).trans (congrArg m_b (sord_ge h333).symm)).trans (m_op_18 _ _ _).symm) hP hS
  · refine lv_iconst (v := nI 1) hx hb d_Ca_compute_336 (by decide) ?_
    refine lv_goto (tgt := 341) hx hb d_Ca_compute_337 (by decide) ?_
    refine k_Sv (As := [.ref t, .int (kb true)]) (rest := []) ⟨hx, hb, hml, hown, hts⟩ (c_W_setTruth l E t z true) (k_cwS 2 hts t_594 t_595 t_73 t_596 (by decide +kernel) ⟨Nat.le_of_ble_eq_true rfl, Nat.le_of_ble_eq_true rfl⟩) hK hG hA hP hD hS [11] rfl (by decide) (fun _ => rfl) rfl hl.1 rfl (Nat.le_of_ble_eq_true rfl) d_Ca_compute_341 ⟨Nat.zero_le _, Nat.zero_le _⟩ (fun u H locs hu hP hD hS => ?_)
    have hP : va_P E.1 vwCl [(ca, .inr (4, [.ref d, .ref cp, .ref c1, .ref c2])), (d, .inr (3, [.ref dd, .ref dq, .ref dr])), (dd, .inl (E.2.1 0, 16, .inl fD)), (dq, .inl (E.2.1 0, 16, .inl fq)), (dr, .inl (E.2.1 0, 8, .inl fr)), (cp, .inl (E.2.1 0, 16, .inl fp)), (c1, .inl (E.2.1 0, 8, .inl f1)), (c2, .inl (E.2.1 0, 8, .inl f2)), (a, .inl (E.2.1 0, 8, .inl f)), (b, .inl (E.2.1 0, 8, .inl x)), (v, .inl (E.2.1 0, 8, .inl y)), (t, .inl (E.2.1 0, 8, .inl u))] H := hP
    have hD : va_D A [(ca, .inr (4, [.ref d, .ref cp, .ref c1, .ref c2])), (d, .inr (3, [.ref dd, .ref dq, .ref dr])), (dd, .inl (E.2.1 0, 16, .inl fD)), (dq, .inl (E.2.1 0, 16, .inl fq)), (dr, .inl (E.2.1 0, 8, .inl fr)), (cp, .inl (E.2.1 0, 16, .inl fp)), (c1, .inl (E.2.1 0, 8, .inl f1)), (c2, .inl (E.2.1 0, 8, .inl f2)), (a, .inl (E.2.1 0, 8, .inl f)), (b, .inl (E.2.1 0, 8, .inl x)), (v, .inl (E.2.1 0, 8, .inl y)), (t, .inl (E.2.1 0, 8, .inl u))] := hD
    refine lv_goto (tgt := 500) hx hb d_Ca_compute_344 (by decide) ?_
    exact hret _ ls _ _ (t7 fD fq fr fp f1 f2 u) d_Ca_compute_500 (((wv_truth hu).trans (congrArg m_b (sord_nge h333).symm)).trans (m_op_18 _ _ _).symm) hP hS

set_option maxHeartbeats 4000000 in
set_option maxRecDepth 100000 in
theorem c_C_compute_19 (l : Launch) (E : kE) (ca d dd dq dr cp c1 c2 : Nat) (fD fq fr fp f1 f2 : Nat → Int32) (a b v t : Nat) (f x y z : Nat → Int32) : Kv l y_Ca_compute (kW y_Ca_compute prog_3_method_2_code 6 (none)) rm_c_C_compute E [.ref ca, .int (nI 19), .ref a, .ref b, .ref v, .ref t] [(ca, .inr (4, [.ref d, .ref cp, .ref c1, .ref c2])), (d, .inr (3, [.ref dd, .ref dq, .ref dr])), (dd, .inl (E.2.1 0, 16, .inl fD)), (dq, .inl (E.2.1 0, 16, .inl fq)), (dr, .inl (E.2.1 0, 8, .inl fr)), (cp, .inl (E.2.1 0, 16, .inl fp)), (c1, .inl (E.2.1 0, 8, .inl f1)), (c2, .inl (E.2.1 0, 8, .inl f2)), (a, .inl (E.2.1 0, 8, .inl f)), (b, .inl (E.2.1 0, 8, .inl x)), (v, .inl (E.2.1 0, 8, .inl y)), (t, .inl (E.2.1 0, 8, .inl z))] (S := Nat → Nat → Int32) (fun u => wv (u 6) 8 = m_op 19 (wv f 8) (wv x 8) (wv y 8)) (fun u => [(ca, .inr (4, [.ref d, .ref cp, .ref c1, .ref c2])), (d, .inr (3, [.ref dd, .ref dq, .ref dr])), (dd, .inl (E.2.1 0, 16, .inl (u 0))), (dq, .inl (E.2.1 0, 16, .inl (u 1))), (dr, .inl (E.2.1 0, 8, .inl (u 2))), (cp, .inl (E.2.1 0, 16, .inl (u 3))), (c1, .inl (E.2.1 0, 8, .inl (u 4))), (c2, .inl (E.2.1 0, 8, .inl (u 5))), (a, .inl (E.2.1 0, 8, .inl f)), (b, .inl (E.2.1 0, 8, .inl x)), (v, .inl (E.2.1 0, 8, .inl y)), (t, .inl (E.2.1 0, 8, .inl (u 6)))]) := by
  refine Kv.ofW (cc := prog_3_method_2_code) (maxL := 6) (by decide) (Nat.le_of_ble_eq_true rfl) ?_
  intro p e s m args below meth c A ls Q hx hb hts hown hml hK hG hA hP hD hS hl hret
  have hl : lv_has ls 6 [(0, .ref ca), (1, .int (nI 19)), (2, .ref a), (3, .ref b), (4, .ref v), (5, .ref t)] := hl
  refine lv_iload_n hx hb d_Ca_compute_0 rfl (lv_at hl 1 rfl) ?_
  refine lv_tableIn (off := 346) (tgt := 347) hx hb d_Ca_compute_1 (by decide) (by decide) (by decide) (by decide) ?_
  refine lv_aload hx hb d_Ca_compute_347 (lv_at hl 5 rfl) ?_
  refine lv_aload_n hx hb d_Ca_compute_349 rfl (lv_at hl 2 rfl) ?_
  refine lv_aload_n hx hb d_Ca_compute_350 rfl (lv_at hl 3 rfl) ?_
  refine k_Sp (As := [.ref a, .ref b]) (rest := [.ref t]) ⟨hx, hb, hml, hown, hts⟩ (c_W_signedOrder l E a b f x) (k_cwS 2 hts t_598 t_599 t_73 t_600 (by decide +kernel) ⟨Nat.le_of_ble_eq_true rfl, Nat.le_of_ble_eq_true rfl⟩) hK hG hA hP hD hS [8, 9] rfl (by decide) rfl hl.1 rfl (Nat.le_of_ble_eq_true rfl) d_Ca_compute_351 ⟨Nat.zero_le _, Nat.zero_le _⟩ (fun r351 hu351 => ?_)
  subst hu351
  refine lv_if_le (tgt := 361) hx hb d_Ca_compute_354 (by decide) (fun h354 => ?_) (fun h354 => ?_)
  · refine lv_iconst (v := nI 0) hx hb d_Ca_compute_361 (by decide) ?_
    refine k_Sv (As := [.ref t, .int (kb false)]) (rest := []) ⟨hx, hb, hml, hown, hts⟩ (c_W_setTruth l E t z false) (k_cwS 2 hts t_594 t_595 t_73 t_596 (by decide +kernel) ⟨Nat.le_of_ble_eq_true rfl, Nat.le_of_ble_eq_true rfl⟩) hK hG hA hP hD hS [11] rfl (by decide) (fun _ => rfl) rfl hl.1 rfl (Nat.le_of_ble_eq_true rfl) d_Ca_compute_362 ⟨Nat.zero_le _, Nat.zero_le _⟩ (fun u H locs hu hP hD hS => ?_)
    have hP : va_P E.1 vwCl [(ca, .inr (4, [.ref d, .ref cp, .ref c1, .ref c2])), (d, .inr (3, [.ref dd, .ref dq, .ref dr])), (dd, .inl (E.2.1 0, 16, .inl fD)), (dq, .inl (E.2.1 0, 16, .inl fq)), (dr, .inl (E.2.1 0, 8, .inl fr)), (cp, .inl (E.2.1 0, 16, .inl fp)), (c1, .inl (E.2.1 0, 8, .inl f1)), (c2, .inl (E.2.1 0, 8, .inl f2)), (a, .inl (E.2.1 0, 8, .inl f)), (b, .inl (E.2.1 0, 8, .inl x)), (v, .inl (E.2.1 0, 8, .inl y)), (t, .inl (E.2.1 0, 8, .inl u))] H := hP
    have hD : va_D A [(ca, .inr (4, [.ref d, .ref cp, .ref c1, .ref c2])), (d, .inr (3, [.ref dd, .ref dq, .ref dr])), (dd, .inl (E.2.1 0, 16, .inl fD)), (dq, .inl (E.2.1 0, 16, .inl fq)), (dr, .inl (E.2.1 0, 8, .inl fr)), (cp, .inl (E.2.1 0, 16, .inl fp)), (c1, .inl (E.2.1 0, 8, .inl f1)), (c2, .inl (E.2.1 0, 8, .inl f2)), (a, .inl (E.2.1 0, 8, .inl f)), (b, .inl (E.2.1 0, 8, .inl x)), (v, .inl (E.2.1 0, 8, .inl y)), (t, .inl (E.2.1 0, 8, .inl u))] := hD
    refine lv_goto (tgt := 500) hx hb d_Ca_compute_365 (by decide) ?_
    exact hret _ ls _ _ (t7 fD fq fr fp f1 f2 u) d_Ca_compute_500 (((wv_truth hu).trans (congrArg m_b (sord_le h354).symm)).trans (m_op_19 _ _ _).symm) hP hS
  · refine lv_iconst (v := nI 1) hx hb d_Ca_compute_357 (by decide) ?_
    refine lv_goto (tgt := 362) hx hb d_Ca_compute_358 (by decide) ?_
    refine k_Sv (As := [.ref t, .int (kb true)]) (rest := []) ⟨hx, hb, hml, hown, hts⟩ (c_W_setTruth l E t z true) (k_cwS 2 hts t_594 t_595 t_73 t_596 (by decide +kernel) ⟨Nat.le_of_ble_eq_true rfl, Nat.le_of_ble_eq_true rfl⟩) hK hG hA hP hD hS [11] rfl (by decide) (fun _ => rfl) rfl hl.1 rfl (Nat.le_of_ble_eq_true rfl) d_Ca_compute_362 ⟨Nat.zero_le _, Nat.zero_le _⟩ (fun u H locs hu hP hD hS => ?_)
    have hP : va_P E.1 vwCl [(ca, .inr (4, [.ref d, .ref cp, .ref c1, .ref c2])), (d, .inr (3, [.ref dd, .ref dq, .ref dr])), (dd, .inl (E.2.1 0, 16, .inl fD)), (dq, .inl (E.2.1 0, 16, .inl fq)), (dr, .inl (E.2.1 0, 8, .inl fr)), (cp, .inl (E.2.1 0, 16, .inl fp)), (c1, .inl (E.2.1 0, 8, .inl f1)), (c2, .inl (E.2.1 0, 8, .inl f2)), (a, .inl (E.2.1 0, 8, .inl f)), (b, .inl (E.2.1 0, 8, .inl x)), (v, .inl (E.2.1 0, 8, .inl y)), (t, .inl (E.2.1 0, 8, .inl u))] H := hP
    have hD : va_D A [(ca, .inr (4, [.ref d, .ref cp, .ref c1, .ref c2])), (d, .inr (3, [.ref dd, .ref dq, .ref dr])), (dd, .inl (E.2.1 0, 16, .inl fD)), (dq, .inl (E.2.1 0, 16, .inl fq)), (dr, .inl (E.2.1 0, 8, .inl fr)), (cp, .inl (E.2.1 0, 16, .inl fp)), (c1, .inl (E.2.1 0, 8, .inl f1)), (c2, .inl (E.2.1 0, 8, .inl f2)), (a, .inl (E.2.1 0, 8, .inl f)), (b, .inl (E.2.1 0, 8, .inl x)), (v, .inl (E.2.1 0, 8, .inl y)), (t, .inl (E.2.1 0, 8, .inl u))] := hD
    refine lv_goto (tgt := 500) hx hb d_Ca_compute_365 (by decide) ?_
    exact hret _ ls _ _ (t7 fD fq fr fp f1 f2 u) d_Ca_compute_500 (((wv_truth hu).trans (congrArg m_b (sord_nle h354).symm)).trans (m_op_19 _ _ _).symm) hP hS

set_option maxHeartbeats 4000000 in
set_option maxRecDepth 100000 in
theorem c_C_compute_20 (l : Launch) (E : kE) (ca d dd dq dr cp c1 c2 : Nat) (fD fq fr fp f1 f2 : Nat → Int32) (a b v t : Nat) (f x y z : Nat → Int32) : Kv l y_Ca_compute (kW y_Ca_compute prog_3_method_2_code 6 (none)) rm_c_C_compute E [.ref ca, .int (nI 20), .ref a, .ref b, .ref v, .ref t] [(ca, .inr (4, [.ref d, .ref cp, .ref c1, .ref c2])), (d, .inr (3, [.ref dd, .ref dq, .ref dr])), (dd, .inl (E.2.1 0, 16, .inl fD)), (dq, .inl (E.2.1 0, 16, .inl fq)), (dr, .inl (E.2.1 0, 8, .inl fr)), (cp, .inl (E.2.1 0, 16, .inl fp)), (c1, .inl (E.2.1 0, 8, .inl f1)), (c2, .inl (E.2.1 0, 8, .inl f2)), (a, .inl (E.2.1 0, 8, .inl f)), (b, .inl (E.2.1 0, 8, .inl x)), (v, .inl (E.2.1 0, 8, .inl y)), (t, .inl (E.2.1 0, 8, .inl z))] (S := Nat → Nat → Int32) (fun u => wv (u 6) 8 = m_op 20 (wv f 8) (wv x 8) (wv y 8)) (fun u => [(ca, .inr (4, [.ref d, .ref cp, .ref c1, .ref c2])), (d, .inr (3, [.ref dd, .ref dq, .ref dr])), (dd, .inl (E.2.1 0, 16, .inl (u 0))), (dq, .inl (E.2.1 0, 16, .inl (u 1))), (dr, .inl (E.2.1 0, 8, .inl (u 2))), (cp, .inl (E.2.1 0, 16, .inl (u 3))), (c1, .inl (E.2.1 0, 8, .inl (u 4))), (c2, .inl (E.2.1 0, 8, .inl (u 5))), (a, .inl (E.2.1 0, 8, .inl f)), (b, .inl (E.2.1 0, 8, .inl x)), (v, .inl (E.2.1 0, 8, .inl y)), (t, .inl (E.2.1 0, 8, .inl (u 6)))]) := by
  refine Kv.ofW (cc := prog_3_method_2_code) (maxL := 6) (by decide) (Nat.le_of_ble_eq_true rfl) ?_
  intro p e s m args below meth c A ls Q hx hb hts hown hml hK hG hA hP hD hS hl hret
  have hl : lv_has ls 6 [(0, .ref ca), (1, .int (nI 20)), (2, .ref a), (3, .ref b), (4, .ref v), (5, .ref t)] := hl
  refine lv_iload_n hx hb d_Ca_compute_0 rfl (lv_at hl 1 rfl) ?_
  refine lv_tableIn (off := 367) (tgt := 368) hx hb d_Ca_compute_1 (by decide) (by decide) (by decide) (by decide) ?_
  refine lv_aload hx hb d_Ca_compute_368 (lv_at hl 5 rfl) ?_
  refine lv_aload_n hx hb d_Ca_compute_370 rfl (lv_at hl 2 rfl) ?_
  refine lv_aload_n hx hb d_Ca_compute_371 rfl (lv_at hl 3 rfl) ?_
  refine k_Sp (As := [.ref a, .ref b]) (rest := [.ref t]) ⟨hx, hb, hml, hown, hts⟩ (c_W_order l E a b f x) (k_cwS 2 hts t_593 t_554 t_73 t_555 (by decide +kernel) ⟨Nat.le_of_ble_eq_true rfl, Nat.le_of_ble_eq_true rfl⟩) hK hG hA hP hD hS [8, 9] rfl (by decide) rfl hl.1 rfl (Nat.le_of_ble_eq_true rfl) d_Ca_compute_372 ⟨Nat.zero_le _, Nat.zero_le _⟩ (fun r372 hu372 => ?_)
  subst hu372
  refine lv_if_ne (tgt := 382) hx hb d_Ca_compute_375 (by decide) (fun h375 => ?_) (fun h375 => ?_)
  · refine lv_iconst (v := nI 0) hx hb d_Ca_compute_382 (by decide) ?_
    refine k_Sv (As := [.ref t, .int (kb false)]) (rest := []) ⟨hx, hb, hml, hown, hts⟩ (c_W_setTruth l E t z false) (k_cwS 2 hts t_594 t_595 t_73 t_596 (by decide +kernel) ⟨Nat.le_of_ble_eq_true rfl, Nat.le_of_ble_eq_true rfl⟩) hK hG hA hP hD hS [11] rfl (by decide) (fun _ => rfl) rfl hl.1 rfl (Nat.le_of_ble_eq_true rfl) d_Ca_compute_383 ⟨Nat.zero_le _, Nat.zero_le _⟩ (fun u H locs hu hP hD hS => ?_)
    have hP : va_P E.1 vwCl [(ca, .inr (4, [.ref d, .ref cp, .ref c1, .ref c2])), (d, .inr (3, [.ref dd, .ref dq, .ref dr])), (dd, .inl (E.2.1 0, 16, .inl fD)), (dq, .inl (E.2.1 0, 16, .inl fq)), (dr, .inl (E.2.1 0, 8, .inl fr)), (cp, .inl (E.2.1 0, 16, .inl fp)), (c1, .inl (E.2.1 0, 8, .inl f1)), (c2, .inl (E.2.1 0, 8, .inl f2)), (a, .inl (E.2.1 0, 8, .inl f)), (b, .inl (E.2.1 0, 8, .inl x)), (v, .inl (E.2.1 0, 8, .inl y)), (t, .inl (E.2.1 0, 8, .inl u))] H := hP
    have hD : va_D A [(ca, .inr (4, [.ref d, .ref cp, .ref c1, .ref c2])), (d, .inr (3, [.ref dd, .ref dq, .ref dr])), (dd, .inl (E.2.1 0, 16, .inl fD)), (dq, .inl (E.2.1 0, 16, .inl fq)), (dr, .inl (E.2.1 0, 8, .inl fr)), (cp, .inl (E.2.1 0, 16, .inl fp)), (c1, .inl (E.2.1 0, 8, .inl f1)), (c2, .inl (E.2.1 0, 8, .inl f2)), (a, .inl (E.2.1 0, 8, .inl f)), (b, .inl (E.2.1 0, 8, .inl x)), (v, .inl (E.2.1 0, 8, .inl y)), (t, .inl (E.2.1 0, 8, .inl u))] := hD
    refine lv_goto (tgt := 500) hx hb d_Ca_compute_386 (by decide) ?_
    exact hret _ ls _ _ (t7 fD fq fr fp f1 f2 u) d_Ca_compute_500 (((wv_truth hu).trans (congrArg m_b (ord_ne h375).symm)).trans (m_op_20 _ _ _).symm) hP hS
  · refine lv_iconst (v := nI 1) hx hb d_Ca_compute_378 (by decide) ?_
    refine lv_goto (tgt := 383) hx hb d_Ca_compute_379 (by decide) ?_
    refine k_Sv (As := [.ref t, .int (kb true)]) (rest := []) ⟨hx, hb, hml, hown, hts⟩ (c_W_setTruth l E t z true) (k_cwS 2 hts t_594 t_595 t_73 t_596 (by decide +kernel) ⟨Nat.le_of_ble_eq_true rfl, Nat.le_of_ble_eq_true rfl⟩) hK hG hA hP hD hS [11] rfl (by decide) (fun _ => rfl) rfl hl.1 rfl (Nat.le_of_ble_eq_true rfl) d_Ca_compute_383 ⟨Nat.zero_le _, Nat.zero_le _⟩ (fun u H locs hu hP hD hS => ?_)
    have hP : va_P E.1 vwCl [(ca, .inr (4, [.ref d, .ref cp, .ref c1, .ref c2])), (d, .inr (3, [.ref dd, .ref dq, .ref dr])), (dd, .inl (E.2.1 0, 16, .inl fD)), (dq, .inl (E.2.1 0, 16, .inl fq)), (dr, .inl (E.2.1 0, 8, .inl fr)), (cp, .inl (E.2.1 0, 16, .inl fp)), (c1, .inl (E.2.1 0, 8, .inl f1)), (c2, .inl (E.2.1 0, 8, .inl f2)), (a, .inl (E.2.1 0, 8, .inl f)), (b, .inl (E.2.1 0, 8, .inl x)), (v, .inl (E.2.1 0, 8, .inl y)), (t, .inl (E.2.1 0, 8, .inl u))] H := hP
    have hD : va_D A [(ca, .inr (4, [.ref d, .ref cp, .ref c1, .ref c2])), (d, .inr (3, [.ref dd, .ref dq, .ref dr])), (dd, .inl (E.2.1 0, 16, .inl fD)), (dq, .inl (E.2.1 0, 16, .inl fq)), (dr, .inl (E.2.1 0, 8, .inl fr)), (cp, .inl (E.2.1 0, 16, .inl fp)), (c1, .inl (E.2.1 0, 8, .inl f1)), (c2, .inl (E.2.1 0, 8, .inl f2)), (a, .inl (E.2.1 0, 8, .inl f)), (b, .inl (E.2.1 0, 8, .inl x)), (v, .inl (E.2.1 0, 8, .inl y)), (t, .inl (E.2.1 0, 8, .inl u))] := hD
    refine lv_goto (tgt := 500) hx hb d_Ca_compute_386 (by decide) ?_
    exact hret _ ls _ _ (t7 fD fq fr fp f1 f2 u) d_Ca_compute_500 (((wv_truth hu).trans (congrArg m_b (ord_eq h375).symm)).trans (m_op_20 _ _ _).symm) hP hS

set_option maxHeartbeats 4000000 in
set_option maxRecDepth 100000 in
theorem c_C_compute_21 (l : Launch) (E : kE) (ca d dd dq dr cp c1 c2 : Nat) (fD fq fr fp f1 f2 : Nat → Int32) (a b v t : Nat) (f x y z : Nat → Int32) : Kv l y_Ca_compute (kW y_Ca_compute prog_3_method_2_code 6 (none)) rm_c_C_compute E [.ref ca, .int (nI 21), .ref a, .ref b, .ref v, .ref t] [(ca, .inr (4, [.ref d, .ref cp, .ref c1, .ref c2])), (d, .inr (3, [.ref dd, .ref dq, .ref dr])), (dd, .inl (E.2.1 0, 16, .inl fD)), (dq, .inl (E.2.1 0, 16, .inl fq)), (dr, .inl (E.2.1 0, 8, .inl fr)), (cp, .inl (E.2.1 0, 16, .inl fp)), (c1, .inl (E.2.1 0, 8, .inl f1)), (c2, .inl (E.2.1 0, 8, .inl f2)), (a, .inl (E.2.1 0, 8, .inl f)), (b, .inl (E.2.1 0, 8, .inl x)), (v, .inl (E.2.1 0, 8, .inl y)), (t, .inl (E.2.1 0, 8, .inl z))] (S := Nat → Nat → Int32) (fun u => wv (u 6) 8 = m_op 21 (wv f 8) (wv x 8) (wv y 8)) (fun u => [(ca, .inr (4, [.ref d, .ref cp, .ref c1, .ref c2])), (d, .inr (3, [.ref dd, .ref dq, .ref dr])), (dd, .inl (E.2.1 0, 16, .inl (u 0))), (dq, .inl (E.2.1 0, 16, .inl (u 1))), (dr, .inl (E.2.1 0, 8, .inl (u 2))), (cp, .inl (E.2.1 0, 16, .inl (u 3))), (c1, .inl (E.2.1 0, 8, .inl (u 4))), (c2, .inl (E.2.1 0, 8, .inl (u 5))), (a, .inl (E.2.1 0, 8, .inl f)), (b, .inl (E.2.1 0, 8, .inl x)), (v, .inl (E.2.1 0, 8, .inl y)), (t, .inl (E.2.1 0, 8, .inl (u 6)))]) := by
  refine Kv.ofW (cc := prog_3_method_2_code) (maxL := 6) (by decide) (Nat.le_of_ble_eq_true rfl) ?_
  intro p e s m args below meth c A ls Q hx hb hts hown hml hK hG hA hP hD hS hl hret
  have hl : lv_has ls 6 [(0, .ref ca), (1, .int (nI 21)), (2, .ref a), (3, .ref b), (4, .ref v), (5, .ref t)] := hl
  refine lv_iload_n hx hb d_Ca_compute_0 rfl (lv_at hl 1 rfl) ?_
  refine lv_tableIn (off := 388) (tgt := 389) hx hb d_Ca_compute_1 (by decide) (by decide) (by decide) (by decide) ?_
  refine lv_aload hx hb d_Ca_compute_389 (lv_at hl 5 rfl) ?_
  refine lv_aload_n hx hb d_Ca_compute_391 rfl (lv_at hl 2 rfl) ?_
  refine k_Sp (As := [.ref a]) (rest := [.ref t]) ⟨hx, hb, hml, hown, hts⟩ (c_W_isZero l E a f) (k_cwS 1 hts t_603 t_384 t_73 t_385 (by decide +kernel) ⟨Nat.le_of_ble_eq_true rfl, Nat.le_of_ble_eq_true rfl⟩) hK hG hA hP hD hS [8] rfl (by decide) rfl hl.1 rfl (Nat.le_of_ble_eq_true rfl) d_Ca_compute_392 ⟨Nat.zero_le _, Nat.zero_le _⟩ (fun r392 hu392 => ?_)
  subst hu392
  refine k_Sv (As := [.ref t, .int (kb (decide (wv f 8 = 0)))]) (rest := []) ⟨hx, hb, hml, hown, hts⟩ (c_W_setTruth l E t z (decide (wv f 8 = 0))) (k_cwS 2 hts t_594 t_595 t_73 t_596 (by decide +kernel) ⟨Nat.le_of_ble_eq_true rfl, Nat.le_of_ble_eq_true rfl⟩) hK hG hA hP hD hS [11] rfl (by decide) (fun _ => rfl) rfl hl.1 rfl (Nat.le_of_ble_eq_true rfl) d_Ca_compute_395 ⟨Nat.zero_le _, Nat.zero_le _⟩ (fun u H locs hu hP hD hS => ?_)
  have hP : va_P E.1 vwCl [(ca, .inr (4, [.ref d, .ref cp, .ref c1, .ref c2])), (d, .inr (3, [.ref dd, .ref dq, .ref dr])), (dd, .inl (E.2.1 0, 16, .inl fD)), (dq, .inl (E.2.1 0, 16, .inl fq)), (dr, .inl (E.2.1 0, 8, .inl fr)), (cp, .inl (E.2.1 0, 16, .inl fp)), (c1, .inl (E.2.1 0, 8, .inl f1)), (c2, .inl (E.2.1 0, 8, .inl f2)), (a, .inl (E.2.1 0, 8, .inl f)), (b, .inl (E.2.1 0, 8, .inl x)), (v, .inl (E.2.1 0, 8, .inl y)), (t, .inl (E.2.1 0, 8, .inl u))] H := hP
  have hD : va_D A [(ca, .inr (4, [.ref d, .ref cp, .ref c1, .ref c2])), (d, .inr (3, [.ref dd, .ref dq, .ref dr])), (dd, .inl (E.2.1 0, 16, .inl fD)), (dq, .inl (E.2.1 0, 16, .inl fq)), (dr, .inl (E.2.1 0, 8, .inl fr)), (cp, .inl (E.2.1 0, 16, .inl fp)), (c1, .inl (E.2.1 0, 8, .inl f1)), (c2, .inl (E.2.1 0, 8, .inl f2)), (a, .inl (E.2.1 0, 8, .inl f)), (b, .inl (E.2.1 0, 8, .inl x)), (v, .inl (E.2.1 0, 8, .inl y)), (t, .inl (E.2.1 0, 8, .inl u))] := hD
  refine lv_goto (tgt := 500) hx hb d_Ca_compute_398 (by decide) ?_
  exact hret _ ls _ _ (t7 fD fq fr fp f1 f2 u) d_Ca_compute_500 ((wv_truth hu).trans (m_op_21 _ _ _).symm) hP hS

set_option maxHeartbeats 4000000 in
set_option maxRecDepth 100000 in
theorem c_C_compute_22 (l : Launch) (E : kE) (ca d dd dq dr cp c1 c2 : Nat) (fD fq fr fp f1 f2 : Nat → Int32) (a b v t : Nat) (f x y z : Nat → Int32) : Kv l y_Ca_compute (kW y_Ca_compute prog_3_method_2_code 6 (none)) rm_c_C_compute E [.ref ca, .int (nI 22), .ref a, .ref b, .ref v, .ref t] [(ca, .inr (4, [.ref d, .ref cp, .ref c1, .ref c2])), (d, .inr (3, [.ref dd, .ref dq, .ref dr])), (dd, .inl (E.2.1 0, 16, .inl fD)), (dq, .inl (E.2.1 0, 16, .inl fq)), (dr, .inl (E.2.1 0, 8, .inl fr)), (cp, .inl (E.2.1 0, 16, .inl fp)), (c1, .inl (E.2.1 0, 8, .inl f1)), (c2, .inl (E.2.1 0, 8, .inl f2)), (a, .inl (E.2.1 0, 8, .inl f)), (b, .inl (E.2.1 0, 8, .inl x)), (v, .inl (E.2.1 0, 8, .inl y)), (t, .inl (E.2.1 0, 8, .inl z))] (S := Nat → Nat → Int32) (fun u => wv (u 6) 8 = m_op 22 (wv f 8) (wv x 8) (wv y 8)) (fun u => [(ca, .inr (4, [.ref d, .ref cp, .ref c1, .ref c2])), (d, .inr (3, [.ref dd, .ref dq, .ref dr])), (dd, .inl (E.2.1 0, 16, .inl (u 0))), (dq, .inl (E.2.1 0, 16, .inl (u 1))), (dr, .inl (E.2.1 0, 8, .inl (u 2))), (cp, .inl (E.2.1 0, 16, .inl (u 3))), (c1, .inl (E.2.1 0, 8, .inl (u 4))), (c2, .inl (E.2.1 0, 8, .inl (u 5))), (a, .inl (E.2.1 0, 8, .inl f)), (b, .inl (E.2.1 0, 8, .inl x)), (v, .inl (E.2.1 0, 8, .inl y)), (t, .inl (E.2.1 0, 8, .inl (u 6)))]) := by
  refine Kv.ofW (cc := prog_3_method_2_code) (maxL := 6) (by decide) (Nat.le_of_ble_eq_true rfl) ?_
  intro p e s m args below meth c A ls Q hx hb hts hown hml hK hG hA hP hD hS hl hret
  have hl : lv_has ls 6 [(0, .ref ca), (1, .int (nI 22)), (2, .ref a), (3, .ref b), (4, .ref v), (5, .ref t)] := hl
  refine lv_iload_n hx hb d_Ca_compute_0 rfl (lv_at hl 1 rfl) ?_
  refine lv_tableIn (off := 400) (tgt := 401) hx hb d_Ca_compute_1 (by decide) (by decide) (by decide) (by decide) ?_
  refine lv_aload_n hx hb d_Ca_compute_401 rfl (lv_at hl 2 rfl) ?_
  refine lv_aload_n hx hb d_Ca_compute_402 rfl (lv_at hl 3 rfl) ?_
  refine lv_aload hx hb d_Ca_compute_403 (lv_at hl 5 rfl) ?_
  refine k_Sv (As := [.ref a, .ref b, .ref t]) (rest := []) ⟨hx, hb, hml, hown, hts⟩ (c_W_and l E a b t f x z) (k_cwS 3 hts t_604 t_605 t_73 t_606 (by decide +kernel) ⟨Nat.le_of_ble_eq_true rfl, Nat.le_of_ble_eq_true rfl⟩) hK hG hA hP hD hS [8, 9, 11] rfl (by decide) (fun _ => rfl) rfl hl.1 rfl (Nat.le_of_ble_eq_true rfl) d_Ca_compute_405 ⟨Nat.zero_le _, Nat.zero_le _⟩ (fun u H locs hu hP hD hS => ?_)
  have hP : va_P E.1 vwCl [(ca, .inr (4, [.ref d, .ref cp, .ref c1, .ref c2])), (d, .inr (3, [.ref dd, .ref dq, .ref dr])), (dd, .inl (E.2.1 0, 16, .inl fD)), (dq, .inl (E.2.1 0, 16, .inl fq)), (dr, .inl (E.2.1 0, 8, .inl fr)), (cp, .inl (E.2.1 0, 16, .inl fp)), (c1, .inl (E.2.1 0, 8, .inl f1)), (c2, .inl (E.2.1 0, 8, .inl f2)), (a, .inl (E.2.1 0, 8, .inl f)), (b, .inl (E.2.1 0, 8, .inl x)), (v, .inl (E.2.1 0, 8, .inl y)), (t, .inl (E.2.1 0, 8, .inl u))] H := hP
  have hD : va_D A [(ca, .inr (4, [.ref d, .ref cp, .ref c1, .ref c2])), (d, .inr (3, [.ref dd, .ref dq, .ref dr])), (dd, .inl (E.2.1 0, 16, .inl fD)), (dq, .inl (E.2.1 0, 16, .inl fq)), (dr, .inl (E.2.1 0, 8, .inl fr)), (cp, .inl (E.2.1 0, 16, .inl fp)), (c1, .inl (E.2.1 0, 8, .inl f1)), (c2, .inl (E.2.1 0, 8, .inl f2)), (a, .inl (E.2.1 0, 8, .inl f)), (b, .inl (E.2.1 0, 8, .inl x)), (v, .inl (E.2.1 0, 8, .inl y)), (t, .inl (E.2.1 0, 8, .inl u))] := hD
  refine lv_goto (tgt := 500) hx hb d_Ca_compute_408 (by decide) ?_
  exact hret _ ls _ _ (t7 fD fq fr fp f1 f2 u) d_Ca_compute_500 ((wv_and hu).trans (m_op_22 _ _ _).symm) hP hS

set_option maxHeartbeats 4000000 in
set_option maxRecDepth 100000 in
theorem c_C_compute_23 (l : Launch) (E : kE) (ca d dd dq dr cp c1 c2 : Nat) (fD fq fr fp f1 f2 : Nat → Int32) (a b v t : Nat) (f x y z : Nat → Int32) : Kv l y_Ca_compute (kW y_Ca_compute prog_3_method_2_code 6 (none)) rm_c_C_compute E [.ref ca, .int (nI 23), .ref a, .ref b, .ref v, .ref t] [(ca, .inr (4, [.ref d, .ref cp, .ref c1, .ref c2])), (d, .inr (3, [.ref dd, .ref dq, .ref dr])), (dd, .inl (E.2.1 0, 16, .inl fD)), (dq, .inl (E.2.1 0, 16, .inl fq)), (dr, .inl (E.2.1 0, 8, .inl fr)), (cp, .inl (E.2.1 0, 16, .inl fp)), (c1, .inl (E.2.1 0, 8, .inl f1)), (c2, .inl (E.2.1 0, 8, .inl f2)), (a, .inl (E.2.1 0, 8, .inl f)), (b, .inl (E.2.1 0, 8, .inl x)), (v, .inl (E.2.1 0, 8, .inl y)), (t, .inl (E.2.1 0, 8, .inl z))] (S := Nat → Nat → Int32) (fun u => wv (u 6) 8 = m_op 23 (wv f 8) (wv x 8) (wv y 8)) (fun u => [(ca, .inr (4, [.ref d, .ref cp, .ref c1, .ref c2])), (d, .inr (3, [.ref dd, .ref dq, .ref dr])), (dd, .inl (E.2.1 0, 16, .inl (u 0))), (dq, .inl (E.2.1 0, 16, .inl (u 1))), (dr, .inl (E.2.1 0, 8, .inl (u 2))), (cp, .inl (E.2.1 0, 16, .inl (u 3))), (c1, .inl (E.2.1 0, 8, .inl (u 4))), (c2, .inl (E.2.1 0, 8, .inl (u 5))), (a, .inl (E.2.1 0, 8, .inl f)), (b, .inl (E.2.1 0, 8, .inl x)), (v, .inl (E.2.1 0, 8, .inl y)), (t, .inl (E.2.1 0, 8, .inl (u 6)))]) := by
  refine Kv.ofW (cc := prog_3_method_2_code) (maxL := 6) (by decide) (Nat.le_of_ble_eq_true rfl) ?_
  intro p e s m args below meth c A ls Q hx hb hts hown hml hK hG hA hP hD hS hl hret
  have hl : lv_has ls 6 [(0, .ref ca), (1, .int (nI 23)), (2, .ref a), (3, .ref b), (4, .ref v), (5, .ref t)] := hl
  refine lv_iload_n hx hb d_Ca_compute_0 rfl (lv_at hl 1 rfl) ?_
  refine lv_tableIn (off := 410) (tgt := 411) hx hb d_Ca_compute_1 (by decide) (by decide) (by decide) (by decide) ?_
  refine lv_aload_n hx hb d_Ca_compute_411 rfl (lv_at hl 2 rfl) ?_
  refine lv_aload_n hx hb d_Ca_compute_412 rfl (lv_at hl 3 rfl) ?_
  refine lv_aload hx hb d_Ca_compute_413 (lv_at hl 5 rfl) ?_
  refine k_Sv (As := [.ref a, .ref b, .ref t]) (rest := []) ⟨hx, hb, hml, hown, hts⟩ (c_W_or l E a b t f x z) (k_cwS 3 hts t_607 t_608 t_73 t_609 (by decide +kernel) ⟨Nat.le_of_ble_eq_true rfl, Nat.le_of_ble_eq_true rfl⟩) hK hG hA hP hD hS [8, 9, 11] rfl (by decide) (fun _ => rfl) rfl hl.1 rfl (Nat.le_of_ble_eq_true rfl) d_Ca_compute_415 ⟨Nat.zero_le _, Nat.zero_le _⟩ (fun u H locs hu hP hD hS => ?_)
  have hP : va_P E.1 vwCl [(ca, .inr (4, [.ref d, .ref cp, .ref c1, .ref c2])), (d, .inr (3, [.ref dd, .ref dq, .ref dr])), (dd, .inl (E.2.1 0, 16, .inl fD)), (dq, .inl (E.2.1 0, 16, .inl fq)), (dr, .inl (E.2.1 0, 8, .inl fr)), (cp, .inl (E.2.1 0, 16, .inl fp)), (c1, .inl (E.2.1 0, 8, .inl f1)), (c2, .inl (E.2.1 0, 8, .inl f2)), (a, .inl (E.2.1 0, 8, .inl f)), (b, .inl (E.2.1 0, 8, .inl x)), (v, .inl (E.2.1 0, 8, .inl y)), (t, .inl (E.2.1 0, 8, .inl u))] H := hP
  have hD : va_D A [(ca, .inr (4, [.ref d, .ref cp, .ref c1, .ref c2])), (d, .inr (3, [.ref dd, .ref dq, .ref dr])), (dd, .inl (E.2.1 0, 16, .inl fD)), (dq, .inl (E.2.1 0, 16, .inl fq)), (dr, .inl (E.2.1 0, 8, .inl fr)), (cp, .inl (E.2.1 0, 16, .inl fp)), (c1, .inl (E.2.1 0, 8, .inl f1)), (c2, .inl (E.2.1 0, 8, .inl f2)), (a, .inl (E.2.1 0, 8, .inl f)), (b, .inl (E.2.1 0, 8, .inl x)), (v, .inl (E.2.1 0, 8, .inl y)), (t, .inl (E.2.1 0, 8, .inl u))] := hD
  refine lv_goto (tgt := 500) hx hb d_Ca_compute_418 (by decide) ?_
  exact hret _ ls _ _ (t7 fD fq fr fp f1 f2 u) d_Ca_compute_500 ((wv_or hu).trans (m_op_23 _ _ _).symm) hP hS

set_option maxHeartbeats 4000000 in
set_option maxRecDepth 100000 in
theorem c_C_compute_24 (l : Launch) (E : kE) (ca d dd dq dr cp c1 c2 : Nat) (fD fq fr fp f1 f2 : Nat → Int32) (a b v t : Nat) (f x y z : Nat → Int32) : Kv l y_Ca_compute (kW y_Ca_compute prog_3_method_2_code 6 (none)) rm_c_C_compute E [.ref ca, .int (nI 24), .ref a, .ref b, .ref v, .ref t] [(ca, .inr (4, [.ref d, .ref cp, .ref c1, .ref c2])), (d, .inr (3, [.ref dd, .ref dq, .ref dr])), (dd, .inl (E.2.1 0, 16, .inl fD)), (dq, .inl (E.2.1 0, 16, .inl fq)), (dr, .inl (E.2.1 0, 8, .inl fr)), (cp, .inl (E.2.1 0, 16, .inl fp)), (c1, .inl (E.2.1 0, 8, .inl f1)), (c2, .inl (E.2.1 0, 8, .inl f2)), (a, .inl (E.2.1 0, 8, .inl f)), (b, .inl (E.2.1 0, 8, .inl x)), (v, .inl (E.2.1 0, 8, .inl y)), (t, .inl (E.2.1 0, 8, .inl z))] (S := Nat → Nat → Int32) (fun u => wv (u 6) 8 = m_op 24 (wv f 8) (wv x 8) (wv y 8)) (fun u => [(ca, .inr (4, [.ref d, .ref cp, .ref c1, .ref c2])), (d, .inr (3, [.ref dd, .ref dq, .ref dr])), (dd, .inl (E.2.1 0, 16, .inl (u 0))), (dq, .inl (E.2.1 0, 16, .inl (u 1))), (dr, .inl (E.2.1 0, 8, .inl (u 2))), (cp, .inl (E.2.1 0, 16, .inl (u 3))), (c1, .inl (E.2.1 0, 8, .inl (u 4))), (c2, .inl (E.2.1 0, 8, .inl (u 5))), (a, .inl (E.2.1 0, 8, .inl f)), (b, .inl (E.2.1 0, 8, .inl x)), (v, .inl (E.2.1 0, 8, .inl y)), (t, .inl (E.2.1 0, 8, .inl (u 6)))]) := by
  refine Kv.ofW (cc := prog_3_method_2_code) (maxL := 6) (by decide) (Nat.le_of_ble_eq_true rfl) ?_
  intro p e s m args below meth c A ls Q hx hb hts hown hml hK hG hA hP hD hS hl hret
  have hl : lv_has ls 6 [(0, .ref ca), (1, .int (nI 24)), (2, .ref a), (3, .ref b), (4, .ref v), (5, .ref t)] := hl
  refine lv_iload_n hx hb d_Ca_compute_0 rfl (lv_at hl 1 rfl) ?_
  refine lv_tableIn (off := 420) (tgt := 421) hx hb d_Ca_compute_1 (by decide) (by decide) (by decide) (by decide) ?_
  refine lv_aload_n hx hb d_Ca_compute_421 rfl (lv_at hl 2 rfl) ?_
  refine lv_aload_n hx hb d_Ca_compute_422 rfl (lv_at hl 3 rfl) ?_
  refine lv_aload hx hb d_Ca_compute_423 (lv_at hl 5 rfl) ?_
  refine k_Sv (As := [.ref a, .ref b, .ref t]) (rest := []) ⟨hx, hb, hml, hown, hts⟩ (c_W_xor l E a b t f x z) (k_cwS 3 hts t_610 t_611 t_73 t_612 (by decide +kernel) ⟨Nat.le_of_ble_eq_true rfl, Nat.le_of_ble_eq_true rfl⟩) hK hG hA hP hD hS [8, 9, 11] rfl (by decide) (fun _ => rfl) rfl hl.1 rfl (Nat.le_of_ble_eq_true rfl) d_Ca_compute_425 ⟨Nat.zero_le _, Nat.zero_le _⟩ (fun u H locs hu hP hD hS => ?_)
  have hP : va_P E.1 vwCl [(ca, .inr (4, [.ref d, .ref cp, .ref c1, .ref c2])), (d, .inr (3, [.ref dd, .ref dq, .ref dr])), (dd, .inl (E.2.1 0, 16, .inl fD)), (dq, .inl (E.2.1 0, 16, .inl fq)), (dr, .inl (E.2.1 0, 8, .inl fr)), (cp, .inl (E.2.1 0, 16, .inl fp)), (c1, .inl (E.2.1 0, 8, .inl f1)), (c2, .inl (E.2.1 0, 8, .inl f2)), (a, .inl (E.2.1 0, 8, .inl f)), (b, .inl (E.2.1 0, 8, .inl x)), (v, .inl (E.2.1 0, 8, .inl y)), (t, .inl (E.2.1 0, 8, .inl u))] H := hP
  have hD : va_D A [(ca, .inr (4, [.ref d, .ref cp, .ref c1, .ref c2])), (d, .inr (3, [.ref dd, .ref dq, .ref dr])), (dd, .inl (E.2.1 0, 16, .inl fD)), (dq, .inl (E.2.1 0, 16, .inl fq)), (dr, .inl (E.2.1 0, 8, .inl fr)), (cp, .inl (E.2.1 0, 16, .inl fp)), (c1, .inl (E.2.1 0, 8, .inl f1)), (c2, .inl (E.2.1 0, 8, .inl f2)), (a, .inl (E.2.1 0, 8, .inl f)), (b, .inl (E.2.1 0, 8, .inl x)), (v, .inl (E.2.1 0, 8, .inl y)), (t, .inl (E.2.1 0, 8, .inl u))] := hD
  refine lv_goto (tgt := 500) hx hb d_Ca_compute_428 (by decide) ?_
  exact hret _ ls _ _ (t7 fD fq fr fp f1 f2 u) d_Ca_compute_500 ((wv_xor hu).trans (m_op_24 _ _ _).symm) hP hS

set_option maxHeartbeats 4000000 in
set_option maxRecDepth 100000 in
theorem c_C_compute_25 (l : Launch) (E : kE) (ca d dd dq dr cp c1 c2 : Nat) (fD fq fr fp f1 f2 : Nat → Int32) (a b v t : Nat) (f x y z : Nat → Int32) : Kv l y_Ca_compute (kW y_Ca_compute prog_3_method_2_code 6 (none)) rm_c_C_compute E [.ref ca, .int (nI 25), .ref a, .ref b, .ref v, .ref t] [(ca, .inr (4, [.ref d, .ref cp, .ref c1, .ref c2])), (d, .inr (3, [.ref dd, .ref dq, .ref dr])), (dd, .inl (E.2.1 0, 16, .inl fD)), (dq, .inl (E.2.1 0, 16, .inl fq)), (dr, .inl (E.2.1 0, 8, .inl fr)), (cp, .inl (E.2.1 0, 16, .inl fp)), (c1, .inl (E.2.1 0, 8, .inl f1)), (c2, .inl (E.2.1 0, 8, .inl f2)), (a, .inl (E.2.1 0, 8, .inl f)), (b, .inl (E.2.1 0, 8, .inl x)), (v, .inl (E.2.1 0, 8, .inl y)), (t, .inl (E.2.1 0, 8, .inl z))] (S := Nat → Nat → Int32) (fun u => wv (u 6) 8 = m_op 25 (wv f 8) (wv x 8) (wv y 8)) (fun u => [(ca, .inr (4, [.ref d, .ref cp, .ref c1, .ref c2])), (d, .inr (3, [.ref dd, .ref dq, .ref dr])), (dd, .inl (E.2.1 0, 16, .inl (u 0))), (dq, .inl (E.2.1 0, 16, .inl (u 1))), (dr, .inl (E.2.1 0, 8, .inl (u 2))), (cp, .inl (E.2.1 0, 16, .inl (u 3))), (c1, .inl (E.2.1 0, 8, .inl (u 4))), (c2, .inl (E.2.1 0, 8, .inl (u 5))), (a, .inl (E.2.1 0, 8, .inl f)), (b, .inl (E.2.1 0, 8, .inl x)), (v, .inl (E.2.1 0, 8, .inl y)), (t, .inl (E.2.1 0, 8, .inl (u 6)))]) := by
  refine Kv.ofW (cc := prog_3_method_2_code) (maxL := 6) (by decide) (Nat.le_of_ble_eq_true rfl) ?_
  intro p e s m args below meth c A ls Q hx hb hts hown hml hK hG hA hP hD hS hl hret
  have hl : lv_has ls 6 [(0, .ref ca), (1, .int (nI 25)), (2, .ref a), (3, .ref b), (4, .ref v), (5, .ref t)] := hl
  refine lv_iload_n hx hb d_Ca_compute_0 rfl (lv_at hl 1 rfl) ?_
  refine lv_tableIn (off := 430) (tgt := 431) hx hb d_Ca_compute_1 (by decide) (by decide) (by decide) (by decide) ?_
  refine lv_aload_n hx hb d_Ca_compute_431 rfl (lv_at hl 2 rfl) ?_
  refine lv_aload hx hb d_Ca_compute_432 (lv_at hl 5 rfl) ?_
  refine k_Sv (As := [.ref a, .ref t]) (rest := []) ⟨hx, hb, hml, hown, hts⟩ (c_W_not l E a t f z) (k_cwS 2 hts t_613 t_614 t_73 t_615 (by decide +kernel) ⟨Nat.le_of_ble_eq_true rfl, Nat.le_of_ble_eq_true rfl⟩) hK hG hA hP hD hS [8, 11] rfl (by decide) (fun _ => rfl) rfl hl.1 rfl (Nat.le_of_ble_eq_true rfl) d_Ca_compute_434 ⟨Nat.zero_le _, Nat.zero_le _⟩ (fun u H locs hu hP hD hS => ?_)
  have hP : va_P E.1 vwCl [(ca, .inr (4, [.ref d, .ref cp, .ref c1, .ref c2])), (d, .inr (3, [.ref dd, .ref dq, .ref dr])), (dd, .inl (E.2.1 0, 16, .inl fD)), (dq, .inl (E.2.1 0, 16, .inl fq)), (dr, .inl (E.2.1 0, 8, .inl fr)), (cp, .inl (E.2.1 0, 16, .inl fp)), (c1, .inl (E.2.1 0, 8, .inl f1)), (c2, .inl (E.2.1 0, 8, .inl f2)), (a, .inl (E.2.1 0, 8, .inl f)), (b, .inl (E.2.1 0, 8, .inl x)), (v, .inl (E.2.1 0, 8, .inl y)), (t, .inl (E.2.1 0, 8, .inl u))] H := hP
  have hD : va_D A [(ca, .inr (4, [.ref d, .ref cp, .ref c1, .ref c2])), (d, .inr (3, [.ref dd, .ref dq, .ref dr])), (dd, .inl (E.2.1 0, 16, .inl fD)), (dq, .inl (E.2.1 0, 16, .inl fq)), (dr, .inl (E.2.1 0, 8, .inl fr)), (cp, .inl (E.2.1 0, 16, .inl fp)), (c1, .inl (E.2.1 0, 8, .inl f1)), (c2, .inl (E.2.1 0, 8, .inl f2)), (a, .inl (E.2.1 0, 8, .inl f)), (b, .inl (E.2.1 0, 8, .inl x)), (v, .inl (E.2.1 0, 8, .inl y)), (t, .inl (E.2.1 0, 8, .inl u))] := hD
  refine lv_goto (tgt := 500) hx hb d_Ca_compute_437 (by decide) ?_
  exact hret _ ls _ _ (t7 fD fq fr fp f1 f2 u) d_Ca_compute_500 ((wv_not hu).trans (m_op_25 _ _ _).symm) hP hS

set_option maxHeartbeats 4000000 in
set_option maxRecDepth 100000 in
theorem c_C_compute_26 (l : Launch) (E : kE) (ca d dd dq dr cp c1 c2 : Nat) (fD fq fr fp f1 f2 : Nat → Int32) (a b v t : Nat) (f x y z : Nat → Int32) : Kv l y_Ca_compute (kW y_Ca_compute prog_3_method_2_code 6 (none)) rm_c_C_compute E [.ref ca, .int (nI 26), .ref a, .ref b, .ref v, .ref t] [(ca, .inr (4, [.ref d, .ref cp, .ref c1, .ref c2])), (d, .inr (3, [.ref dd, .ref dq, .ref dr])), (dd, .inl (E.2.1 0, 16, .inl fD)), (dq, .inl (E.2.1 0, 16, .inl fq)), (dr, .inl (E.2.1 0, 8, .inl fr)), (cp, .inl (E.2.1 0, 16, .inl fp)), (c1, .inl (E.2.1 0, 8, .inl f1)), (c2, .inl (E.2.1 0, 8, .inl f2)), (a, .inl (E.2.1 0, 8, .inl f)), (b, .inl (E.2.1 0, 8, .inl x)), (v, .inl (E.2.1 0, 8, .inl y)), (t, .inl (E.2.1 0, 8, .inl z))] (S := Nat → Nat → Int32) (fun u => wv (u 6) 8 = m_op 26 (wv f 8) (wv x 8) (wv y 8)) (fun u => [(ca, .inr (4, [.ref d, .ref cp, .ref c1, .ref c2])), (d, .inr (3, [.ref dd, .ref dq, .ref dr])), (dd, .inl (E.2.1 0, 16, .inl (u 0))), (dq, .inl (E.2.1 0, 16, .inl (u 1))), (dr, .inl (E.2.1 0, 8, .inl (u 2))), (cp, .inl (E.2.1 0, 16, .inl (u 3))), (c1, .inl (E.2.1 0, 8, .inl (u 4))), (c2, .inl (E.2.1 0, 8, .inl (u 5))), (a, .inl (E.2.1 0, 8, .inl f)), (b, .inl (E.2.1 0, 8, .inl x)), (v, .inl (E.2.1 0, 8, .inl y)), (t, .inl (E.2.1 0, 8, .inl (u 6)))]) := by
  refine Kv.ofW (cc := prog_3_method_2_code) (maxL := 6) (by decide) (Nat.le_of_ble_eq_true rfl) ?_
  intro p e s m args below meth c A ls Q hx hb hts hown hml hK hG hA hP hD hS hl hret
  have hl : lv_has ls 6 [(0, .ref ca), (1, .int (nI 26)), (2, .ref a), (3, .ref b), (4, .ref v), (5, .ref t)] := hl
  refine lv_iload_n hx hb d_Ca_compute_0 rfl (lv_at hl 1 rfl) ?_
  refine lv_tableIn (off := 439) (tgt := 440) hx hb d_Ca_compute_1 (by decide) (by decide) (by decide) (by decide) ?_
  refine lv_aload hx hb d_Ca_compute_440 (lv_at hl 5 rfl) ?_
  refine lv_aload_n hx hb d_Ca_compute_442 rfl (lv_at hl 3 rfl) ?_
  refine lv_aload_n hx hb d_Ca_compute_443 rfl (lv_at hl 2 rfl) ?_
  refine lv_bipush (v := nI 32) hx hb d_Ca_compute_444 (by decide) ?_
  refine k_Sp (As := [.ref a, .int (nI 32)]) (rest := [.ref b, .ref t]) ⟨hx, hb, hml, hown, hts⟩ (c_W_atMost l E a 32 f (by decide)) (k_cwS 2 hts t_589 t_381 t_73 t_382 (by decide +kernel) ⟨Nat.le_of_ble_eq_true rfl, Nat.le_of_ble_eq_true rfl⟩) hK hG hA hP hD hS [8] rfl (by decide) rfl hl.1 rfl (Nat.le_of_ble_eq_true rfl) d_Ca_compute_446 ⟨Nat.zero_le _, Nat.zero_le _⟩ (fun r446 hu446 => ?_)
  subst hu446
  refine k_Sp (As := [.ref b, .int (nI (min (wv f 8) 32))]) (rest := [.ref t]) ⟨hx, hb, hml, hown, hts⟩ (c_W_byteOf l E b (min (wv f 8) 32) x (by omega)) (k_cwS 2 hts t_616 t_485 t_73 t_486 (by decide +kernel) ⟨Nat.le_of_ble_eq_true rfl, Nat.le_of_ble_eq_true rfl⟩) hK hG hA hP hD hS [9] rfl (by decide) rfl hl.1 rfl (Nat.le_of_ble_eq_true rfl) d_Ca_compute_449 ⟨Nat.zero_le _, Nat.zero_le _⟩ (fun r449 hu449 => ?_)
  subst hu449
  refine k_Sv (As := [.ref t, .int (nI (m_byte (min (wv f 8) 32) (wv x 8)))]) (rest := []) ⟨hx, hb, hml, hown, hts⟩ (c_W_setNumber l E t z (nI (m_byte (min (wv f 8) 32) (wv x 8)))) (k_cwS 2 hts t_617 t_501 t_73 t_502 (by decide +kernel) ⟨Nat.le_of_ble_eq_true rfl, Nat.le_of_ble_eq_true rfl⟩) hK hG hA hP hD hS [11] rfl (by decide) (fun _ => rfl) rfl hl.1 rfl (Nat.le_of_ble_eq_true rfl) d_Ca_compute_452 ⟨Nat.zero_le _, Nat.zero_le _⟩ (fun u H locs hu hP hD hS => ?_)
  have hP : va_P E.1 vwCl [(ca, .inr (4, [.ref d, .ref cp, .ref c1, .ref c2])), (d, .inr (3, [.ref dd, .ref dq, .ref dr])), (dd, .inl (E.2.1 0, 16, .inl fD)), (dq, .inl (E.2.1 0, 16, .inl fq)), (dr, .inl (E.2.1 0, 8, .inl fr)), (cp, .inl (E.2.1 0, 16, .inl fp)), (c1, .inl (E.2.1 0, 8, .inl f1)), (c2, .inl (E.2.1 0, 8, .inl f2)), (a, .inl (E.2.1 0, 8, .inl f)), (b, .inl (E.2.1 0, 8, .inl x)), (v, .inl (E.2.1 0, 8, .inl y)), (t, .inl (E.2.1 0, 8, .inl u))] H := hP
  have hD : va_D A [(ca, .inr (4, [.ref d, .ref cp, .ref c1, .ref c2])), (d, .inr (3, [.ref dd, .ref dq, .ref dr])), (dd, .inl (E.2.1 0, 16, .inl fD)), (dq, .inl (E.2.1 0, 16, .inl fq)), (dr, .inl (E.2.1 0, 8, .inl fr)), (cp, .inl (E.2.1 0, 16, .inl fp)), (c1, .inl (E.2.1 0, 8, .inl f1)), (c2, .inl (E.2.1 0, 8, .inl f2)), (a, .inl (E.2.1 0, 8, .inl f)), (b, .inl (E.2.1 0, 8, .inl x)), (v, .inl (E.2.1 0, 8, .inl y)), (t, .inl (E.2.1 0, 8, .inl u))] := hD
  refine lv_goto (tgt := 500) hx hb d_Ca_compute_455 (by decide) ?_
  exact hret _ ls _ _ (t7 fD fq fr fp f1 f2 u) d_Ca_compute_500 (((wv_num (byte_lt _ _) hu).trans (byte_min _ _)).trans (m_op_26 _ _ _).symm) hP hS

set_option maxHeartbeats 4000000 in
set_option maxRecDepth 100000 in
theorem c_C_compute_27 (l : Launch) (E : kE) (ca d dd dq dr cp c1 c2 : Nat) (fD fq fr fp f1 f2 : Nat → Int32) (a b v t : Nat) (f x y z : Nat → Int32) : Kv l y_Ca_compute (kW y_Ca_compute prog_3_method_2_code 6 (none)) rm_c_C_compute E [.ref ca, .int (nI 27), .ref a, .ref b, .ref v, .ref t] [(ca, .inr (4, [.ref d, .ref cp, .ref c1, .ref c2])), (d, .inr (3, [.ref dd, .ref dq, .ref dr])), (dd, .inl (E.2.1 0, 16, .inl fD)), (dq, .inl (E.2.1 0, 16, .inl fq)), (dr, .inl (E.2.1 0, 8, .inl fr)), (cp, .inl (E.2.1 0, 16, .inl fp)), (c1, .inl (E.2.1 0, 8, .inl f1)), (c2, .inl (E.2.1 0, 8, .inl f2)), (a, .inl (E.2.1 0, 8, .inl f)), (b, .inl (E.2.1 0, 8, .inl x)), (v, .inl (E.2.1 0, 8, .inl y)), (t, .inl (E.2.1 0, 8, .inl z))] (S := Nat → Nat → Int32) (fun u => wv (u 6) 8 = m_op 27 (wv f 8) (wv x 8) (wv y 8)) (fun u => [(ca, .inr (4, [.ref d, .ref cp, .ref c1, .ref c2])), (d, .inr (3, [.ref dd, .ref dq, .ref dr])), (dd, .inl (E.2.1 0, 16, .inl (u 0))), (dq, .inl (E.2.1 0, 16, .inl (u 1))), (dr, .inl (E.2.1 0, 8, .inl (u 2))), (cp, .inl (E.2.1 0, 16, .inl (u 3))), (c1, .inl (E.2.1 0, 8, .inl (u 4))), (c2, .inl (E.2.1 0, 8, .inl (u 5))), (a, .inl (E.2.1 0, 8, .inl f)), (b, .inl (E.2.1 0, 8, .inl x)), (v, .inl (E.2.1 0, 8, .inl y)), (t, .inl (E.2.1 0, 8, .inl (u 6)))]) := by
  refine Kv.ofW (cc := prog_3_method_2_code) (maxL := 6) (by decide) (Nat.le_of_ble_eq_true rfl) ?_
  intro p e s m args below meth c A ls Q hx hb hts hown hml hK hG hA hP hD hS hl hret
  have hl : lv_has ls 6 [(0, .ref ca), (1, .int (nI 27)), (2, .ref a), (3, .ref b), (4, .ref v), (5, .ref t)] := hl
  refine lv_iload_n hx hb d_Ca_compute_0 rfl (lv_at hl 1 rfl) ?_
  refine lv_tableIn (off := 457) (tgt := 458) hx hb d_Ca_compute_1 (by decide) (by decide) (by decide) (by decide) ?_
  refine lv_aload_n hx hb d_Ca_compute_458 rfl (lv_at hl 3 rfl) ?_
  refine lv_aload_n hx hb d_Ca_compute_459 rfl (lv_at hl 2 rfl) ?_
  refine k_Sp (As := [.ref a]) (rest := [.ref b]) ⟨hx, hb, hml, hown, hts⟩ (c_C_shiftCount l E a f) (k_cwS 1 hts t_618 t_619 t_67 t_620 (by decide +kernel) ⟨Nat.le_of_ble_eq_true rfl, Nat.le_of_ble_eq_true rfl⟩) hK hG hA hP hD hS [8] rfl (by decide) rfl hl.1 rfl (Nat.le_of_ble_eq_true rfl) d_Ca_compute_460 ⟨Nat.zero_le _, Nat.zero_le _⟩ (fun r460 hu460 => ?_)
  subst hu460
  refine lv_aload hx hb d_Ca_compute_463 (lv_at hl 5 rfl) ?_
  refine k_Sv (As := [.ref b, .int (nI (min (wv f 8) 256)), .ref t]) (rest := []) ⟨hx, hb, hml, hown, hts⟩ (c_W_shiftUp l E b t (min (wv f 8) 256) x z (Nat.min_le_right _ _)) (k_cwS 3 hts t_621 t_622 t_73 t_623 (by decide +kernel) ⟨Nat.le_of_ble_eq_true rfl, Nat.le_of_ble_eq_true rfl⟩) hK hG hA hP hD hS [9, 11] rfl (by decide) (fun _ => rfl) rfl hl.1 rfl (Nat.le_of_ble_eq_true rfl) d_Ca_compute_465 ⟨Nat.zero_le _, Nat.zero_le _⟩ (fun u H locs hu hP hD hS => ?_)
  have hP : va_P E.1 vwCl [(ca, .inr (4, [.ref d, .ref cp, .ref c1, .ref c2])), (d, .inr (3, [.ref dd, .ref dq, .ref dr])), (dd, .inl (E.2.1 0, 16, .inl fD)), (dq, .inl (E.2.1 0, 16, .inl fq)), (dr, .inl (E.2.1 0, 8, .inl fr)), (cp, .inl (E.2.1 0, 16, .inl fp)), (c1, .inl (E.2.1 0, 8, .inl f1)), (c2, .inl (E.2.1 0, 8, .inl f2)), (a, .inl (E.2.1 0, 8, .inl f)), (b, .inl (E.2.1 0, 8, .inl x)), (v, .inl (E.2.1 0, 8, .inl y)), (t, .inl (E.2.1 0, 8, .inl u))] H := hP
  have hD : va_D A [(ca, .inr (4, [.ref d, .ref cp, .ref c1, .ref c2])), (d, .inr (3, [.ref dd, .ref dq, .ref dr])), (dd, .inl (E.2.1 0, 16, .inl fD)), (dq, .inl (E.2.1 0, 16, .inl fq)), (dr, .inl (E.2.1 0, 8, .inl fr)), (cp, .inl (E.2.1 0, 16, .inl fp)), (c1, .inl (E.2.1 0, 8, .inl f1)), (c2, .inl (E.2.1 0, 8, .inl f2)), (a, .inl (E.2.1 0, 8, .inl f)), (b, .inl (E.2.1 0, 8, .inl x)), (v, .inl (E.2.1 0, 8, .inl y)), (t, .inl (E.2.1 0, 8, .inl u))] := hD
  refine lv_goto (tgt := 500) hx hb d_Ca_compute_468 (by decide) ?_
  exact hret _ ls _ _ (t7 fD fq fr fp f1 f2 u) d_Ca_compute_500 ((hu.trans (shl_min _ _)).trans (m_op_27 _ _ _).symm) hP hS

set_option maxHeartbeats 4000000 in
set_option maxRecDepth 100000 in
theorem c_C_compute_28 (l : Launch) (E : kE) (ca d dd dq dr cp c1 c2 : Nat) (fD fq fr fp f1 f2 : Nat → Int32) (a b v t : Nat) (f x y z : Nat → Int32) : Kv l y_Ca_compute (kW y_Ca_compute prog_3_method_2_code 6 (none)) rm_c_C_compute E [.ref ca, .int (nI 28), .ref a, .ref b, .ref v, .ref t] [(ca, .inr (4, [.ref d, .ref cp, .ref c1, .ref c2])), (d, .inr (3, [.ref dd, .ref dq, .ref dr])), (dd, .inl (E.2.1 0, 16, .inl fD)), (dq, .inl (E.2.1 0, 16, .inl fq)), (dr, .inl (E.2.1 0, 8, .inl fr)), (cp, .inl (E.2.1 0, 16, .inl fp)), (c1, .inl (E.2.1 0, 8, .inl f1)), (c2, .inl (E.2.1 0, 8, .inl f2)), (a, .inl (E.2.1 0, 8, .inl f)), (b, .inl (E.2.1 0, 8, .inl x)), (v, .inl (E.2.1 0, 8, .inl y)), (t, .inl (E.2.1 0, 8, .inl z))] (S := Nat → Nat → Int32) (fun u => wv (u 6) 8 = m_op 28 (wv f 8) (wv x 8) (wv y 8)) (fun u => [(ca, .inr (4, [.ref d, .ref cp, .ref c1, .ref c2])), (d, .inr (3, [.ref dd, .ref dq, .ref dr])), (dd, .inl (E.2.1 0, 16, .inl (u 0))), (dq, .inl (E.2.1 0, 16, .inl (u 1))), (dr, .inl (E.2.1 0, 8, .inl (u 2))), (cp, .inl (E.2.1 0, 16, .inl (u 3))), (c1, .inl (E.2.1 0, 8, .inl (u 4))), (c2, .inl (E.2.1 0, 8, .inl (u 5))), (a, .inl (E.2.1 0, 8, .inl f)), (b, .inl (E.2.1 0, 8, .inl x)), (v, .inl (E.2.1 0, 8, .inl y)), (t, .inl (E.2.1 0, 8, .inl (u 6)))]) := by
  refine Kv.ofW (cc := prog_3_method_2_code) (maxL := 6) (by decide) (Nat.le_of_ble_eq_true rfl) ?_
  intro p e s m args below meth c A ls Q hx hb hts hown hml hK hG hA hP hD hS hl hret
  have hl : lv_has ls 6 [(0, .ref ca), (1, .int (nI 28)), (2, .ref a), (3, .ref b), (4, .ref v), (5, .ref t)] := hl
  refine lv_iload_n hx hb d_Ca_compute_0 rfl (lv_at hl 1 rfl) ?_
  refine lv_tableIn (off := 470) (tgt := 471) hx hb d_Ca_compute_1 (by decide) (by decide) (by decide) (by decide) ?_
  refine lv_aload_n hx hb d_Ca_compute_471 rfl (lv_at hl 3 rfl) ?_
  refine lv_aload_n hx hb d_Ca_compute_472 rfl (lv_at hl 2 rfl) ?_
  refine k_Sp (As := [.ref a]) (rest := [.ref b]) ⟨hx, hb, hml, hown, hts⟩ (c_C_shiftCount l E a f) (k_cwS 1 hts t_618 t_619 t_67 t_620 (by decide +kernel) ⟨Nat.le_of_ble_eq_true rfl, Nat.le_of_ble_eq_true rfl⟩) hK hG hA hP hD hS [8] rfl (by decide) rfl hl.1 rfl (Nat.le_of_ble_eq_true rfl) d_Ca_compute_473 ⟨Nat.zero_le _, Nat.zero_le _⟩ (fun r473 hu473 => ?_)
  subst hu473
  refine lv_iconst (v := nI 0) hx hb d_Ca_compute_476 (by decide) ?_
  refine lv_aload hx hb d_Ca_compute_477 (lv_at hl 5 rfl) ?_
  refine k_Sv (As := [.ref b, .int (nI (min (wv f 8) 256)), .int (nI 0), .ref t]) (rest := []) ⟨hx, hb, hml, hown, hts⟩ (c_W_shiftDown l E b t (min (wv f 8) 256) (nI 0) x z (Nat.min_le_right _ _)) (k_cwS 4 hts t_627 t_628 t_73 t_629 (by decide +kernel) ⟨Nat.le_of_ble_eq_true rfl, Nat.le_of_ble_eq_true rfl⟩) hK hG hA hP hD hS [9, 11] rfl (by decide) (fun _ => rfl) rfl hl.1 rfl (Nat.le_of_ble_eq_true rfl) d_Ca_compute_479 ⟨Nat.zero_le _, Nat.zero_le _⟩ (fun u H locs hu hP hD hS => ?_)
  have hP : va_P E.1 vwCl [(ca, .inr (4, [.ref d, .ref cp, .ref c1, .ref c2])), (d, .inr (3, [.ref dd, .ref dq, .ref dr])), (dd, .inl (E.2.1 0, 16, .inl fD)), (dq, .inl (E.2.1 0, 16, .inl fq)), (dr, .inl (E.2.1 0, 8, .inl fr)), (cp, .inl (E.2.1 0, 16, .inl fp)), (c1, .inl (E.2.1 0, 8, .inl f1)), (c2, .inl (E.2.1 0, 8, .inl f2)), (a, .inl (E.2.1 0, 8, .inl f)), (b, .inl (E.2.1 0, 8, .inl x)), (v, .inl (E.2.1 0, 8, .inl y)), (t, .inl (E.2.1 0, 8, .inl u))] H := hP
  have hD : va_D A [(ca, .inr (4, [.ref d, .ref cp, .ref c1, .ref c2])), (d, .inr (3, [.ref dd, .ref dq, .ref dr])), (dd, .inl (E.2.1 0, 16, .inl fD)), (dq, .inl (E.2.1 0, 16, .inl fq)), (dr, .inl (E.2.1 0, 8, .inl fr)), (cp, .inl (E.2.1 0, 16, .inl fp)), (c1, .inl (E.2.1 0, 8, .inl f1)), (c2, .inl (E.2.1 0, 8, .inl f2)), (a, .inl (E.2.1 0, 8, .inl f)), (b, .inl (E.2.1 0, 8, .inl x)), (v, .inl (E.2.1 0, 8, .inl y)), (t, .inl (E.2.1 0, 8, .inl u))] := hD
  refine lv_goto (tgt := 500) hx hb d_Ca_compute_482 (by decide) ?_
  exact hret _ ls _ _ (t7 fD fq fr fp f1 f2 u) d_Ca_compute_500 ((hu.trans (by rw [nI_0, sdF_0]; exact shr_min (wv_lt8 x))).trans (m_op_28 _ _ _).symm) hP hS

set_option maxHeartbeats 4000000 in
set_option maxRecDepth 100000 in
theorem c_C_compute_29 (l : Launch) (E : kE) (ca d dd dq dr cp c1 c2 : Nat) (fD fq fr fp f1 f2 : Nat → Int32) (a b v t : Nat) (f x y z : Nat → Int32) : Kv l y_Ca_compute (kW y_Ca_compute prog_3_method_2_code 6 (none)) rm_c_C_compute E [.ref ca, .int (nI 29), .ref a, .ref b, .ref v, .ref t] [(ca, .inr (4, [.ref d, .ref cp, .ref c1, .ref c2])), (d, .inr (3, [.ref dd, .ref dq, .ref dr])), (dd, .inl (E.2.1 0, 16, .inl fD)), (dq, .inl (E.2.1 0, 16, .inl fq)), (dr, .inl (E.2.1 0, 8, .inl fr)), (cp, .inl (E.2.1 0, 16, .inl fp)), (c1, .inl (E.2.1 0, 8, .inl f1)), (c2, .inl (E.2.1 0, 8, .inl f2)), (a, .inl (E.2.1 0, 8, .inl f)), (b, .inl (E.2.1 0, 8, .inl x)), (v, .inl (E.2.1 0, 8, .inl y)), (t, .inl (E.2.1 0, 8, .inl z))] (S := Nat → Nat → Int32) (fun u => wv (u 6) 8 = m_op 29 (wv f 8) (wv x 8) (wv y 8)) (fun u => [(ca, .inr (4, [.ref d, .ref cp, .ref c1, .ref c2])), (d, .inr (3, [.ref dd, .ref dq, .ref dr])), (dd, .inl (E.2.1 0, 16, .inl (u 0))), (dq, .inl (E.2.1 0, 16, .inl (u 1))), (dr, .inl (E.2.1 0, 8, .inl (u 2))), (cp, .inl (E.2.1 0, 16, .inl (u 3))), (c1, .inl (E.2.1 0, 8, .inl (u 4))), (c2, .inl (E.2.1 0, 8, .inl (u 5))), (a, .inl (E.2.1 0, 8, .inl f)), (b, .inl (E.2.1 0, 8, .inl x)), (v, .inl (E.2.1 0, 8, .inl y)), (t, .inl (E.2.1 0, 8, .inl (u 6)))]) := by
  refine Kv.ofW (cc := prog_3_method_2_code) (maxL := 6) (by decide) (Nat.le_of_ble_eq_true rfl) ?_
  intro p e s m args below meth c A ls Q hx hb hts hown hml hK hG hA hP hD hS hl hret
  have hl : lv_has ls 6 [(0, .ref ca), (1, .int (nI 29)), (2, .ref a), (3, .ref b), (4, .ref v), (5, .ref t)] := hl
  refine lv_iload_n hx hb d_Ca_compute_0 rfl (lv_at hl 1 rfl) ?_
  refine lv_tableIn (off := 484) (tgt := 485) hx hb d_Ca_compute_1 (by decide) (by decide) (by decide) (by decide) ?_
  refine lv_aload_n hx hb d_Ca_compute_485 rfl (lv_at hl 2 rfl) ?_
  refine lv_aload_n hx hb d_Ca_compute_486 rfl (lv_at hl 3 rfl) ?_
  refine lv_aload hx hb d_Ca_compute_487 (lv_at hl 5 rfl) ?_
  refine k_Sv (As := [.ref a, .ref b, .ref t]) (rest := []) ⟨hx, hb, hml, hown, hts⟩ (c_C_shiftDownSigned l E a b t f x z) (k_cwS 3 hts t_630 t_631 t_67 t_632 (by decide +kernel) ⟨Nat.le_of_ble_eq_true rfl, Nat.le_of_ble_eq_true rfl⟩) hK hG hA hP hD hS [8, 9, 11] rfl (by decide) (fun _ => rfl) rfl hl.1 rfl (Nat.le_of_ble_eq_true rfl) d_Ca_compute_489 ⟨Nat.zero_le _, Nat.zero_le _⟩ (fun u H locs hu hP hD hS => ?_)
  have hP : va_P E.1 vwCl [(ca, .inr (4, [.ref d, .ref cp, .ref c1, .ref c2])), (d, .inr (3, [.ref dd, .ref dq, .ref dr])), (dd, .inl (E.2.1 0, 16, .inl fD)), (dq, .inl (E.2.1 0, 16, .inl fq)), (dr, .inl (E.2.1 0, 8, .inl fr)), (cp, .inl (E.2.1 0, 16, .inl fp)), (c1, .inl (E.2.1 0, 8, .inl f1)), (c2, .inl (E.2.1 0, 8, .inl f2)), (a, .inl (E.2.1 0, 8, .inl f)), (b, .inl (E.2.1 0, 8, .inl x)), (v, .inl (E.2.1 0, 8, .inl y)), (t, .inl (E.2.1 0, 8, .inl u))] H := hP
  have hD : va_D A [(ca, .inr (4, [.ref d, .ref cp, .ref c1, .ref c2])), (d, .inr (3, [.ref dd, .ref dq, .ref dr])), (dd, .inl (E.2.1 0, 16, .inl fD)), (dq, .inl (E.2.1 0, 16, .inl fq)), (dr, .inl (E.2.1 0, 8, .inl fr)), (cp, .inl (E.2.1 0, 16, .inl fp)), (c1, .inl (E.2.1 0, 8, .inl f1)), (c2, .inl (E.2.1 0, 8, .inl f2)), (a, .inl (E.2.1 0, 8, .inl f)), (b, .inl (E.2.1 0, 8, .inl x)), (v, .inl (E.2.1 0, 8, .inl y)), (t, .inl (E.2.1 0, 8, .inl u))] := hD
  refine lv_goto (tgt := 500) hx hb d_Ca_compute_492 (by decide) ?_
  exact hret _ ls _ _ (t7 fD fq fr fp f1 f2 u) d_Ca_compute_500 ((hu).trans (m_op_29 _ _ _).symm) hP hS

set_option maxHeartbeats 4000000 in
set_option maxRecDepth 100000 in
theorem c_C_compute (l : Launch) (E : kE) (ca d dd dq dr cp c1 c2 : Nat) (fD fq fr fp f1 f2 : Nat → Int32) (a b v t o : Nat) (f x y z : Nat → Int32) (ho : o < 256) (hk : m_known o = true) (h0 : 0 < o) (h32 : o < 32) : Kv l y_Ca_compute (kW y_Ca_compute prog_3_method_2_code 6 (none)) rm_c_C_compute E [.ref ca, .int (nI o), .ref a, .ref b, .ref v, .ref t] [(ca, .inr (4, [.ref d, .ref cp, .ref c1, .ref c2])), (d, .inr (3, [.ref dd, .ref dq, .ref dr])), (dd, .inl (E.2.1 0, 16, .inl fD)), (dq, .inl (E.2.1 0, 16, .inl fq)), (dr, .inl (E.2.1 0, 8, .inl fr)), (cp, .inl (E.2.1 0, 16, .inl fp)), (c1, .inl (E.2.1 0, 8, .inl f1)), (c2, .inl (E.2.1 0, 8, .inl f2)), (a, .inl (E.2.1 0, 8, .inl f)), (b, .inl (E.2.1 0, 8, .inl x)), (v, .inl (E.2.1 0, 8, .inl y)), (t, .inl (E.2.1 0, 8, .inl z))] (S := Nat → Nat → Int32) (fun u => wv (u 6) 8 = m_op o (wv f 8) (wv x 8) (wv y 8)) (fun u => [(ca, .inr (4, [.ref d, .ref cp, .ref c1, .ref c2])), (d, .inr (3, [.ref dd, .ref dq, .ref dr])), (dd, .inl (E.2.1 0, 16, .inl (u 0))), (dq, .inl (E.2.1 0, 16, .inl (u 1))), (dr, .inl (E.2.1 0, 8, .inl (u 2))), (cp, .inl (E.2.1 0, 16, .inl (u 3))), (c1, .inl (E.2.1 0, 8, .inl (u 4))), (c2, .inl (E.2.1 0, 8, .inl (u 5))), (a, .inl (E.2.1 0, 8, .inl f)), (b, .inl (E.2.1 0, 8, .inl x)), (v, .inl (E.2.1 0, 8, .inl y)), (t, .inl (E.2.1 0, 8, .inl (u 6)))]) := by
  have hop := op_in o ho hk h0 h32
  simp only [List.mem_cons, List.not_mem_nil, or_false] at hop
  rcases hop with rfl | rfl | rfl | rfl | rfl | rfl | rfl | rfl | rfl | rfl | rfl | rfl | rfl | rfl | rfl | rfl | rfl | rfl | rfl | rfl | rfl | rfl | rfl | rfl
  · exact c_C_compute_1 l E ca d dd dq dr cp c1 c2 fD fq fr fp f1 f2 a b v t f x y z
  · exact c_C_compute_2 l E ca d dd dq dr cp c1 c2 fD fq fr fp f1 f2 a b v t f x y z
  · exact c_C_compute_3 l E ca d dd dq dr cp c1 c2 fD fq fr fp f1 f2 a b v t f x y z
  · exact c_C_compute_4 l E ca d dd dq dr cp c1 c2 fD fq fr fp f1 f2 a b v t f x y z
  · exact c_C_compute_5 l E ca d dd dq dr cp c1 c2 fD fq fr fp f1 f2 a b v t f x y z
  · exact c_C_compute_6 l E ca d dd dq dr cp c1 c2 fD fq fr fp f1 f2 a b v t f x y z
  · exact c_C_compute_7 l E ca d dd dq dr cp c1 c2 fD fq fr fp f1 f2 a b v t f x y z
  · exact c_C_compute_8 l E ca d dd dq dr cp c1 c2 fD fq fr fp f1 f2 a b v t f x y z
  · exact c_C_compute_9 l E ca d dd dq dr cp c1 c2 fD fq fr fp f1 f2 a b v t f x y z
  · exact c_C_compute_11 l E ca d dd dq dr cp c1 c2 fD fq fr fp f1 f2 a b v t f x y z
  · exact c_C_compute_16 l E ca d dd dq dr cp c1 c2 fD fq fr fp f1 f2 a b v t f x y z
  · exact c_C_compute_17 l E ca d dd dq dr cp c1 c2 fD fq fr fp f1 f2 a b v t f x y z
  · exact c_C_compute_18 l E ca d dd dq dr cp c1 c2 fD fq fr fp f1 f2 a b v t f x y z
  · exact c_C_compute_19 l E ca d dd dq dr cp c1 c2 fD fq fr fp f1 f2 a b v t f x y z
  · exact c_C_compute_20 l E ca d dd dq dr cp c1 c2 fD fq fr fp f1 f2 a b v t f x y z
  · exact c_C_compute_21 l E ca d dd dq dr cp c1 c2 fD fq fr fp f1 f2 a b v t f x y z
  · exact c_C_compute_22 l E ca d dd dq dr cp c1 c2 fD fq fr fp f1 f2 a b v t f x y z
  · exact c_C_compute_23 l E ca d dd dq dr cp c1 c2 fD fq fr fp f1 f2 a b v t f x y z
  · exact c_C_compute_24 l E ca d dd dq dr cp c1 c2 fD fq fr fp f1 f2 a b v t f x y z
  · exact c_C_compute_25 l E ca d dd dq dr cp c1 c2 fD fq fr fp f1 f2 a b v t f x y z
  · exact c_C_compute_26 l E ca d dd dq dr cp c1 c2 fD fq fr fp f1 f2 a b v t f x y z
  · exact c_C_compute_27 l E ca d dd dq dr cp c1 c2 fD fq fr fp f1 f2 a b v t f x y z
  · exact c_C_compute_28 l E ca d dd dq dr cp c1 c2 fD fq fr fp f1 f2 a b v t f x y z
  · exact c_C_compute_29 l E ca d dd dq dr cp c1 c2 fD fq fr fp f1 f2 a b v t f x y z

