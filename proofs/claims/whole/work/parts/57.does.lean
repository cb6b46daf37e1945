abbrev y_M_does : MethodName := ⟨"WideStackModel", "does", "(I)V"⟩
theorem d_M_does_0 : decode prog_12_method_39_code 0 = .ok (.iload_n 1, 1) := by decide +kernel
theorem d_M_does_1 : decode prog_12_method_39_code 1 = .ok (.iconst 1, 1) := by decide +kernel
theorem d_M_does_2 : decode prog_12_method_39_code 2 = .ok (.if_icmp .lt 17, 3) := by decide +kernel
theorem d_M_does_5 : decode prog_12_method_39_code 5 = .ok (.iload_n 1, 1) := by decide +kernel
theorem d_M_does_6 : decode prog_12_method_39_code 6 = .ok (.bipush 11, 2) := by decide +kernel
theorem d_M_does_8 : decode prog_12_method_39_code 8 = .ok (.if_icmp .gt 11, 3) := by decide +kernel
theorem d_M_does_11 : decode prog_12_method_39_code 11 = .ok (.aload_n 0, 1) := by decide +kernel
theorem d_M_does_12 : decode prog_12_method_39_code 12 = .ok (.iload_n 1, 1) := by decide +kernel
theorem d_M_does_13 : decode prog_12_method_39_code 13 = .ok (.invokevirtual 142, 3) := by decide +kernel
theorem d_M_does_16 : decode prog_12_method_39_code 16 = .ok (.goto 334, 3) := by decide +kernel
theorem d_M_does_19 : decode prog_12_method_39_code 19 = .ok (.iload_n 1, 1) := by decide +kernel
theorem d_M_does_20 : decode prog_12_method_39_code 20 = .ok (.bipush 16, 2) := by decide +kernel
theorem d_M_does_22 : decode prog_12_method_39_code 22 = .ok (.if_icmp .lt 32, 3) := by decide +kernel
theorem d_M_does_25 : decode prog_12_method_39_code 25 = .ok (.iload_n 1, 1) := by decide +kernel
theorem d_M_does_26 : decode prog_12_method_39_code 26 = .ok (.bipush 21, 2) := by decide +kernel
theorem d_M_does_28 : decode prog_12_method_39_code 28 = .ok (.if_icmp .gt 26, 3) := by decide +kernel
theorem d_M_does_31 : decode prog_12_method_39_code 31 = .ok (.aload_n 0, 1) := by decide +kernel
theorem d_M_does_32 : decode prog_12_method_39_code 32 = .ok (.sipush 304, 3) := by decide +kernel
theorem d_M_does_35 : decode prog_12_method_39_code 35 = .ok (.aload_n 0, 1) := by decide +kernel
theorem d_M_does_36 : decode prog_12_method_39_code 36 = .ok (.iload_n 1, 1) := by decide +kernel
theorem d_M_does_37 : decode prog_12_method_39_code 37 = .ok (.invokevirtual 145, 3) := by decide +kernel
theorem d_M_does_40 : decode prog_12_method_39_code 40 = .ok (.ifCond .eq 7, 3) := by decide +kernel
theorem d_M_does_43 : decode prog_12_method_39_code 43 = .ok (.iconst 1, 1) := by decide +kernel
theorem d_M_does_44 : decode prog_12_method_39_code 44 = .ok (.goto 4, 3) := by decide +kernel
theorem d_M_does_47 : decode prog_12_method_39_code 47 = .ok (.iconst 0, 1) := by decide +kernel
theorem d_M_does_48 : decode prog_12_method_39_code 48 = .ok (.invokevirtual 148, 3) := by decide +kernel
theorem d_M_does_51 : decode prog_12_method_39_code 51 = .ok (.goto 299, 3) := by decide +kernel
theorem d_M_does_54 : decode prog_12_method_39_code 54 = .ok (.iload_n 1, 1) := by decide +kernel
theorem d_M_does_55 : decode prog_12_method_39_code 55 = .ok (.bipush 22, 2) := by decide +kernel
theorem d_M_does_57 : decode prog_12_method_39_code 57 = .ok (.if_icmp .lt 17, 3) := by decide +kernel
theorem d_M_does_60 : decode prog_12_method_39_code 60 = .ok (.iload_n 1, 1) := by decide +kernel
theorem d_M_does_61 : decode prog_12_method_39_code 61 = .ok (.bipush 25, 2) := by decide +kernel
theorem d_M_does_63 : decode prog_12_method_39_code 63 = .ok (.if_icmp .gt 11, 3) := by decide +kernel
theorem d_M_does_66 : decode prog_12_method_39_code 66 = .ok (.aload_n 0, 1) := by decide +kernel
theorem d_M_does_67 : decode prog_12_method_39_code 67 = .ok (.iload_n 1, 1) := by decide +kernel
theorem d_M_does_68 : decode prog_12_method_39_code 68 = .ok (.invokevirtual 151, 3) := by decide +kernel
theorem d_M_does_71 : decode prog_12_method_39_code 71 = .ok (.goto 279, 3) := by decide +kernel
theorem d_M_does_74 : decode prog_12_method_39_code 74 = .ok (.iload_n 1, 1) := by decide +kernel
theorem d_M_does_75 : decode prog_12_method_39_code 75 = .ok (.bipush 26, 2) := by decide +kernel
theorem d_M_does_77 : decode prog_12_method_39_code 77 = .ok (.if_icmp .ne 43, 3) := by decide +kernel
theorem d_M_does_80 : decode prog_12_method_39_code 80 = .ok (.aload_n 0, 1) := by decide +kernel
theorem d_M_does_81 : decode prog_12_method_39_code 81 = .ok (.sipush 304, 3) := by decide +kernel
theorem d_M_does_84 : decode prog_12_method_39_code 84 = .ok (.aload_n 0, 1) := by decide +kernel
theorem d_M_does_85 : decode prog_12_method_39_code 85 = .ok (.sipush 256, 3) := by decide +kernel
theorem d_M_does_88 : decode prog_12_method_39_code 88 = .ok (.invokevirtual 88, 3) := by decide +kernel
theorem d_M_does_91 : decode prog_12_method_39_code 91 = .ok (.bipush 31, 2) := by decide +kernel
theorem d_M_does_93 : decode prog_12_method_39_code 93 = .ok (.if_icmp .le 7, 3) := by decide +kernel
theorem d_M_does_96 : decode prog_12_method_39_code 96 = .ok (.iconst 0, 1) := by decide +kernel
theorem d_M_does_97 : decode prog_12_method_39_code 97 = .ok (.goto 17, 3) := by decide +kernel
theorem d_M_does_100 : decode prog_12_method_39_code 100 = .ok (.aload_n 0, 1) := by decide +kernel
theorem d_M_does_101 : decode prog_12_method_39_code 101 = .ok (.sipush 272, 3) := by decide +kernel
theorem d_M_does_104 : decode prog_12_method_39_code 104 = .ok (.aload_n 0, 1) := by decide +kernel
theorem d_M_does_105 : decode prog_12_method_39_code 105 = .ok (.sipush 256, 3) := by decide +kernel
theorem d_M_does_108 : decode prog_12_method_39_code 108 = .ok (.invokevirtual 88, 3) := by decide +kernel
theorem d_M_does_111 : decode prog_12_method_39_code 111 = .ok (.invokevirtual 154, 3) := by decide +kernel
theorem d_M_does_114 : decode prog_12_method_39_code 114 = .ok (.invokevirtual 148, 3) := by decide +kernel
theorem d_M_does_117 : decode prog_12_method_39_code 117 = .ok (.goto 233, 3) := by decide +kernel
theorem d_M_does_120 : decode prog_12_method_39_code 120 = .ok (.iload_n 1, 1) := by decide +kernel
theorem d_M_does_121 : decode prog_12_method_39_code 121 = .ok (.bipush 27, 2) := by decide +kernel
theorem d_M_does_123 : decode prog_12_method_39_code 123 = .ok (.if_icmp .ne 38, 3) := by decide +kernel
theorem d_M_does_126 : decode prog_12_method_39_code 126 = .ok (.aload_n 0, 1) := by decide +kernel
theorem d_M_does_127 : decode prog_12_method_39_code 127 = .ok (.aload_n 0, 1) := by decide +kernel
theorem d_M_does_128 : decode prog_12_method_39_code 128 = .ok (.sipush 256, 3) := by decide +kernel
theorem d_M_does_131 : decode prog_12_method_39_code 131 = .ok (.invokevirtual 88, 3) := by decide +kernel
theorem d_M_does_134 : decode prog_12_method_39_code 134 = .ok (.sipush 255, 3) := by decide +kernel
theorem d_M_does_137 : decode prog_12_method_39_code 137 = .ok (.if_icmp .le 9, 3) := by decide +kernel
theorem d_M_does_140 : decode prog_12_method_39_code 140 = .ok (.sipush (-256), 3) := by decide +kernel
theorem d_M_does_143 : decode prog_12_method_39_code 143 = .ok (.goto 11, 3) := by decide +kernel
theorem d_M_does_146 : decode prog_12_method_39_code 146 = .ok (.aload_n 0, 1) := by decide +kernel
theorem d_M_does_147 : decode prog_12_method_39_code 147 = .ok (.sipush 256, 3) := by decide +kernel
theorem d_M_does_150 : decode prog_12_method_39_code 150 = .ok (.invokevirtual 88, 3) := by decide +kernel
theorem d_M_does_153 : decode prog_12_method_39_code 153 = .ok (.ineg, 1) := by decide +kernel
theorem d_M_does_154 : decode prog_12_method_39_code 154 = .ok (.iconst 0, 1) := by decide +kernel
theorem d_M_does_155 : decode prog_12_method_39_code 155 = .ok (.invokevirtual 157, 3) := by decide +kernel
theorem d_M_does_158 : decode prog_12_method_39_code 158 = .ok (.goto 192, 3) := by decide +kernel
theorem d_M_does_161 : decode prog_12_method_39_code 161 = .ok (.iload_n 1, 1) := by decide +kernel
theorem d_M_does_162 : decode prog_12_method_39_code 162 = .ok (.bipush 28, 2) := by decide +kernel
theorem d_M_does_164 : decode prog_12_method_39_code 164 = .ok (.if_icmp .ne 37, 3) := by decide +kernel
theorem d_M_does_167 : decode prog_12_method_39_code 167 = .ok (.aload_n 0, 1) := by decide +kernel
theorem d_M_does_168 : decode prog_12_method_39_code 168 = .ok (.aload_n 0, 1) := by decide +kernel
theorem d_M_does_169 : decode prog_12_method_39_code 169 = .ok (.sipush 256, 3) := by decide +kernel
theorem d_M_does_172 : decode prog_12_method_39_code 172 = .ok (.invokevirtual 88, 3) := by decide +kernel
theorem d_M_does_175 : decode prog_12_method_39_code 175 = .ok (.sipush 255, 3) := by decide +kernel
theorem d_M_does_178 : decode prog_12_method_39_code 178 = .ok (.if_icmp .le 9, 3) := by decide +kernel
theorem d_M_does_181 : decode prog_12_method_39_code 181 = .ok (.sipush 256, 3) := by decide +kernel
theorem d_M_does_184 : decode prog_12_method_39_code 184 = .ok (.goto 10, 3) := by decide +kernel
theorem d_M_does_187 : decode prog_12_method_39_code 187 = .ok (.aload_n 0, 1) := by decide +kernel
theorem d_M_does_188 : decode prog_12_method_39_code 188 = .ok (.sipush 256, 3) := by decide +kernel
theorem d_M_does_191 : decode prog_12_method_39_code 191 = .ok (.invokevirtual 88, 3) := by decide +kernel
theorem d_M_does_194 : decode prog_12_method_39_code 194 = .ok (.iconst 0, 1) := by decide +kernel
theorem d_M_does_195 : decode prog_12_method_39_code 195 = .ok (.invokevirtual 157, 3) := by decide +kernel
theorem d_M_does_198 : decode prog_12_method_39_code 198 = .ok (.goto 152, 3) := by decide +kernel
theorem d_M_does_201 : decode prog_12_method_39_code 201 = .ok (.iload_n 1, 1) := by decide +kernel
theorem d_M_does_202 : decode prog_12_method_39_code 202 = .ok (.bipush 29, 2) := by decide +kernel
theorem d_M_does_204 : decode prog_12_method_39_code 204 = .ok (.if_icmp .ne 51, 3) := by decide +kernel
theorem d_M_does_207 : decode prog_12_method_39_code 207 = .ok (.aload_n 0, 1) := by decide +kernel
theorem d_M_does_208 : decode prog_12_method_39_code 208 = .ok (.aload_n 0, 1) := by decide +kernel
theorem d_M_does_209 : decode prog_12_method_39_code 209 = .ok (.sipush 256, 3) := by decide +kernel
theorem d_M_does_212 : decode prog_12_method_39_code 212 = .ok (.invokevirtual 88, 3) := by decide +kernel
theorem d_M_does_215 : decode prog_12_method_39_code 215 = .ok (.sipush 255, 3) := by decide +kernel
theorem d_M_does_218 : decode prog_12_method_39_code 218 = .ok (.if_icmp .le 9, 3) := by decide +kernel
theorem d_M_does_221 : decode prog_12_method_39_code 221 = .ok (.sipush 256, 3) := by decide +kernel
theorem d_M_does_224 : decode prog_12_method_39_code 224 = .ok (.goto 10, 3) := by decide +kernel
theorem d_M_does_227 : decode prog_12_method_39_code 227 = .ok (.aload_n 0, 1) := by decide +kernel
theorem d_M_does_228 : decode prog_12_method_39_code 228 = .ok (.sipush 256, 3) := by decide +kernel
theorem d_M_does_231 : decode prog_12_method_39_code 231 = .ok (.invokevirtual 88, 3) := by decide +kernel
theorem d_M_does_234 : decode prog_12_method_39_code 234 = .ok (.aload_n 0, 1) := by decide +kernel
theorem d_M_does_235 : decode prog_12_method_39_code 235 = .ok (.sipush 272, 3) := by decide +kernel
theorem d_M_does_238 : decode prog_12_method_39_code 238 = .ok (.invokevirtual 53, 3) := by decide +kernel
theorem d_M_does_241 : decode prog_12_method_39_code 241 = .ok (.ifCond .eq 7, 3) := by decide +kernel
theorem d_M_does_244 : decode prog_12_method_39_code 244 = .ok (.iconst 1, 1) := by decide +kernel
theorem d_M_does_245 : decode prog_12_method_39_code 245 = .ok (.goto 4, 3) := by decide +kernel
theorem d_M_does_248 : decode prog_12_method_39_code 248 = .ok (.iconst 0, 1) := by decide +kernel
theorem d_M_does_249 : decode prog_12_method_39_code 249 = .ok (.invokevirtual 157, 3) := by decide +kernel
theorem d_M_does_252 : decode prog_12_method_39_code 252 = .ok (.goto 98, 3) := by decide +kernel
theorem d_M_does_255 : decode prog_12_method_39_code 255 = .ok (.iload_n 1, 1) := by decide +kernel
theorem d_M_does_256 : decode prog_12_method_39_code 256 = .ok (.bipush 81, 2) := by decide +kernel
theorem d_M_does_258 : decode prog_12_method_39_code 258 = .ok (.if_icmp .lt 17, 3) := by decide +kernel
theorem d_M_does_261 : decode prog_12_method_39_code 261 = .ok (.iload_n 1, 1) := by decide +kernel
theorem d_M_does_262 : decode prog_12_method_39_code 262 = .ok (.bipush 83, 2) := by decide +kernel
theorem d_M_does_264 : decode prog_12_method_39_code 264 = .ok (.if_icmp .gt 11, 3) := by decide +kernel
theorem d_M_does_267 : decode prog_12_method_39_code 267 = .ok (.aload_n 0, 1) := by decide +kernel
theorem d_M_does_268 : decode prog_12_method_39_code 268 = .ok (.iload_n 1, 1) := by decide +kernel
theorem d_M_does_269 : decode prog_12_method_39_code 269 = .ok (.invokevirtual 160, 3) := by decide +kernel
theorem d_M_does_272 : decode prog_12_method_39_code 272 = .ok (.goto 78, 3) := by decide +kernel
theorem d_M_does_275 : decode prog_12_method_39_code 275 = .ok (.iload_n 1, 1) := by decide +kernel
theorem d_M_does_276 : decode prog_12_method_39_code 276 = .ok (.bipush 88, 2) := by decide +kernel
theorem d_M_does_278 : decode prog_12_method_39_code 278 = .ok (.if_icmp .ne 17, 3) := by decide +kernel
theorem d_M_does_281 : decode prog_12_method_39_code 281 = .ok (.aload_n 0, 1) := by decide +kernel
theorem d_M_does_282 : decode prog_12_method_39_code 282 = .ok (.sipush 304, 3) := by decide +kernel
theorem d_M_does_285 : decode prog_12_method_39_code 285 = .ok (.aload_n 0, 1) := by decide +kernel
theorem d_M_does_286 : decode prog_12_method_39_code 286 = .ok (.getfield 100, 3) := by decide +kernel
theorem d_M_does_289 : decode prog_12_method_39_code 289 = .ok (.invokevirtual 148, 3) := by decide +kernel
theorem d_M_does_292 : decode prog_12_method_39_code 292 = .ok (.goto 58, 3) := by decide +kernel
theorem d_M_does_295 : decode prog_12_method_39_code 295 = .ok (.iload_n 1, 1) := by decide +kernel
theorem d_M_does_296 : decode prog_12_method_39_code 296 = .ok (.bipush 89, 2) := by decide +kernel
theorem d_M_does_298 : decode prog_12_method_39_code 298 = .ok (.if_icmp .ne 17, 3) := by decide +kernel
theorem d_M_does_301 : decode prog_12_method_39_code 301 = .ok (.aload_n 0, 1) := by decide +kernel
theorem d_M_does_302 : decode prog_12_method_39_code 302 = .ok (.sipush 304, 3) := by decide +kernel
theorem d_M_does_305 : decode prog_12_method_39_code 305 = .ok (.aload_n 0, 1) := by decide +kernel
theorem d_M_does_306 : decode prog_12_method_39_code 306 = .ok (.getfield 103, 3) := by decide +kernel
theorem d_M_does_309 : decode prog_12_method_39_code 309 = .ok (.invokevirtual 148, 3) := by decide +kernel
theorem d_M_does_312 : decode prog_12_method_39_code 312 = .ok (.goto 38, 3) := by decide +kernel
theorem d_M_does_315 : decode prog_12_method_39_code 315 = .ok (.iload_n 1, 1) := by decide +kernel
theorem d_M_does_316 : decode prog_12_method_39_code 316 = .ok (.bipush 90, 2) := by decide +kernel
theorem d_M_does_318 : decode prog_12_method_39_code 318 = .ok (.if_icmp .ne 17, 3) := by decide +kernel
theorem d_M_does_321 : decode prog_12_method_39_code 321 = .ok (.aload_n 0, 1) := by decide +kernel
theorem d_M_does_322 : decode prog_12_method_39_code 322 = .ok (.sipush 304, 3) := by decide +kernel
theorem d_M_does_325 : decode prog_12_method_39_code 325 = .ok (.aload_n 0, 1) := by decide +kernel
theorem d_M_does_326 : decode prog_12_method_39_code 326 = .ok (.getfield 97, 3) := by decide +kernel
theorem d_M_does_329 : decode prog_12_method_39_code 329 = .ok (.invokevirtual 148, 3) := by decide +kernel
theorem d_M_does_332 : decode prog_12_method_39_code 332 = .ok (.goto 18, 3) := by decide +kernel
theorem d_M_does_335 : decode prog_12_method_39_code 335 = .ok (.iload_n 1, 1) := by decide +kernel
theorem d_M_does_336 : decode prog_12_method_39_code 336 = .ok (.invokestatic 37, 3) := by decide +kernel
theorem d_M_does_339 : decode prog_12_method_39_code 339 = .ok (.ifCond .eq 11, 3) := by decide +kernel
theorem d_M_does_342 : decode prog_12_method_39_code 342 = .ok (.aload_n 0, 1) := by decide +kernel
theorem d_M_does_343 : decode prog_12_method_39_code 343 = .ok (.iload_n 1, 1) := by decide +kernel
theorem d_M_does_344 : decode prog_12_method_39_code 344 = .ok (.bipush 95, 2) := by decide +kernel
theorem d_M_does_346 : decode prog_12_method_39_code 346 = .ok (.isub, 1) := by decide +kernel
theorem d_M_does_347 : decode prog_12_method_39_code 347 = .ok (.invokevirtual 163, 3) := by decide +kernel
theorem d_M_does_350 : decode prog_12_method_39_code 350 = .ok (.return_, 1) := by decide +kernel
def rm_c_M_does : Room := { frames := 4, cells := 0, slots := 0, locals := 95 }
set_option maxHeartbeats 4000000 in
set_option maxRecDepth 100000 in
theorem c_M_does (l : Launch) (E : kE) (mo mb mm mw mh ml len en gas ctr siz hgt frm ret : Nat) (on ay : Bool) (nb bb : Nat → Nat) (okb : okB len bb nb) (g : Nat → Nat) (hg : ∀ j, g j < 65536) (mem : Nat → Nat) (hm : ∀ j, mem j < 256) (o : Nat) (ho : o < 128) (hk : m_known o = true) (hu0 : m_used o (gv g 256 16) (gv g 272 16) ≤ 160) (hc : ctr < 1000) (hgs : gas < 100000) (hsz : siz < 100000) : Kv l y_M_does (kW y_M_does prog_12_method_39_code 2 (none)) rm_c_M_does E [.ref mo, .int (nI o)] [(mo, .inr (8, [.int (nI len), .ref mb, .int (kb on), .int (nI en), .int (nI gas), .int (nI ctr), .int (nI siz), .int (nI hgt), .int (nI frm), .int (nI ret), .ref mm, .ref mw, .ref mh, .ref ml, .int (kb ay)])), (mb, .inl (E.2.1 0, 96, .inl (nF nb))), (mm, .inl (E.2.1 0, 160, .inl (nF mem))), (mw, .inl (E.2.1 0, 370, .inl (nF g)))] (S := Nat → Nat) (fun u => doP g u o (m_res bb o gas ctr siz (gv g 256 16) (gv g 272 16) (gv g 288 16) mem)) (fun u => [(mo, .inr (8, [.int (nI len), .ref mb, .int (kb on), .int (nI en), .int (nI gas), .int (nI ctr), .int (nI siz), .int (nI hgt), .int (nI frm), .int (nI ret), .ref mm, .ref mw, .ref mh, .ref ml, .int (kb ay)])), (mb, .inl (E.2.1 0, 96, .inl (nF nb))), (mm, .inl (E.2.1 0, 160, .inl (nF (m_mem o (gv g 256 16) (gv g 272 16) mem)))), (mw, .inl (E.2.1 0, 370, .inl (nF u)))]) := by
  refine Kv.ofW (cc := prog_12_method_39_code) (maxL := 2) (by decide) (Nat.le_of_ble_eq_true rfl) ?_
  intro p e s m args below meth c A ls Q hx hb hts hown hml hK hG hA hP hD hS hl hret
  have hl : lv_has ls 2 [(0, .ref mo), (1, .int (nI o))] := hl
  have hk2 := (kn_iff o).mp hk
  refine lv_iload_n hx hb d_M_does_0 rfl (lv_at hl 1 rfl) ?_
  refine lv_iconst (v := nI 1) hx hb d_M_does_1 (by decide) ?_
  refine kn_lt (tgt := 19) hx hb (by omega) (by omega) d_M_does_2 (by decide) (fun h2 => ?_) (fun h2 => ?_)
  · refine lv_iload_n hx hb d_M_does_19 rfl (lv_at hl 1 rfl) ?_
    refine lv_bipush (v := nI 16) hx hb d_M_does_20 (by decide) ?_
    refine kn_lt (tgt := 54) hx hb (by omega) (by omega) d_M_does_22 (by decide) (fun h22 => ?_) (fun h22 => ?_)
    · refine lv_iload_n hx hb d_M_does_54 rfl (lv_at hl 1 rfl) ?_
      refine lv_bipush (v := nI 22) hx hb d_M_does_55 (by decide) ?_
      refine kn_lt (tgt := 74) hx hb (by omega) (by omega) d_M_does_57 (by decide) (fun h57 => ?_) (fun h57 => ?_)
      · refine lv_iload_n hx hb d_M_does_74 rfl (lv_at hl 1 rfl) ?_
        refine lv_bipush (v := nI 26) hx hb d_M_does_75 (by decide) ?_
        refine kn_ne (tgt := 120) hx hb (by omega) (by omega) d_M_does_77 (by decide) (fun h77 => ?_) (fun h77 => ?_)
        · refine lv_iload_n hx hb d_M_does_120 rfl (lv_at hl 1 rfl) ?_
          refine lv_bipush (v := nI 27) hx hb d_M_does_121 (by decide) ?_
          refine kn_ne (tgt := 161) hx hb (by omega) (by omega) d_M_does_123 (by decide) (fun h123 => ?_) (fun h123 => ?_)
          · refine lv_iload_n hx hb d_M_does_161 rfl (lv_at hl 1 rfl) ?_
            refine lv_bipush (v := nI 28) hx hb d_M_does_162 (by decide) ?_
            refine kn_ne (tgt := 201) hx hb (by omega) (by omega) d_M_does_164 (by decide) (fun h164 => ?_) (fun h164 => ?_)
            · refine lv_iload_n hx hb d_M_does_201 rfl (lv_at hl 1 rfl) ?_
              refine lv_bipush (v := nI 29) hx hb d_M_does_202 (by decide) ?_
              refine kn_ne (tgt := 255) hx hb (by omega) (by omega) d_M_does_204 (by decide) (fun h204 => ?_) (fun h204 => ?_)
              · refine lv_iload_n hx hb d_M_does_255 rfl (lv_at hl 1 rfl) ?_
                refine lv_bipush (v := nI 81) hx hb d_M_does_256 (by decide) ?_
                refine kn_lt (tgt := 275) hx hb (by omega) (by omega) d_M_does_258 (by decide) (fun h258 => ?_) (fun h258 => ?_)
                · refine lv_iload_n hx hb d_M_does_275 rfl (lv_at hl 1 rfl) ?_
                  refine lv_bipush (v := nI 88) hx hb d_M_does_276 (by decide) ?_
                  refine kn_ne (tgt := 295) hx hb (by omega) (by omega) d_M_does_278 (by decide) (fun h278 => ?_) (fun h278 => ?_)
                  · refine lv_iload_n hx hb d_M_does_295 rfl (lv_at hl 1 rfl) ?_
                    refine lv_bipush (v := nI 89) hx hb d_M_does_296 (by decide) ?_
                    refine kn_ne (tgt := 315) hx hb (by omega) (by omega) d_M_does_298 (by decide) (fun h298 => ?_) (fun h298 => ?_)
                    · refine lv_iload_n hx hb d_M_does_315 rfl (lv_at hl 1 rfl) ?_
                      refine lv_bipush (v := nI 90) hx hb d_M_does_316 (by decide) ?_
                      refine kn_ne (tgt := 335) hx hb (by omega) (by omega) d_M_does_318 (by decide) (fun h318 => ?_) (fun h318 => ?_)
                      · refine lv_iload_n hx hb d_M_does_335 rfl (lv_at hl 1 rfl) ?_
                        refine k_Sp (As := [.int (nI o)]) (rest := []) ⟨hx, hb, hml, hown, hts⟩ (c_M_hasNumber l E o (by omega)) (k_cwS 1 hts t_816 t_817 t_71 t_818 (by decide +kernel) ⟨Nat.le_of_ble_eq_true rfl, Nat.le_of_ble_eq_true rfl⟩) hK hG hA hP hD hS [] rfl (by decide) rfl hl.1 rfl (Nat.le_of_ble_eq_true rfl) d_M_does_336 ⟨Nat.zero_le _, Nat.zero_le _⟩ (fun r336 hu336 => ?_)
                        subst hu336
                        refine lv_if_eq (tgt := 350) hx hb d_M_does_339 (by decide) (fun h339 => ?_) (fun h339 => ?_)
                        · have hq := of_decide_eq_false (kb_0.mp h339)
                          exact hret _ ls _ _ (g) d_M_does_350 (do_0 hg (mg_0 hk (by omega) (by omega) (by omega) (by omega))) (by rw [← mm_81 (o := o) (A := gv g 256 16) (B := gv g 272 16) (by omega) (by omega)]; exact hP) hS
                        · have hq := of_decide_eq_true (kb_n0 h339)
                          refine lv_aload_n hx hb d_M_does_342 rfl (lv_at hl 0 rfl) ?_
                          refine lv_iload_n hx hb d_M_does_343 rfl (lv_at hl 1 rfl) ?_
                          refine lv_bipush (v := nI 95) hx hb d_M_does_344 (by decide) ?_
                          refine lv_isub hx hb d_M_does_346 ?_
                          refine k_top (pk_sub (by omega)) ?_
                          refine k_Vv (As := [.int (nI (o - 95))]) (rest := []) ⟨hx, hb, hml, hown, hts⟩ (c_M_reads l E mo mb mm mw mh ml len en gas ctr siz hgt frm ret on ay g hg nb bb okb (o - 95) (by omega) hc) (k_cwV 1 hts t_962 t_964 t_57 t_71 t_965 (by decide +kernel) ⟨Nat.le_of_ble_eq_true rfl, Nat.le_of_ble_eq_true rfl⟩) hK hG hA hP hD hS [0, 1, 3] rfl (by decide) 0 rfl rfl (fun _ => rfl) rfl hl.1 rfl (Nat.le_of_ble_eq_true rfl) d_M_does_347 ⟨Nat.zero_le _, Nat.zero_le _⟩ (fun u1 H locs hu1 hP hD hS => ?_)
                          have hP : va_P E.1 vwCl [(mo, .inr (8, [.int (nI len), .ref mb, .int (kb on), .int (nI en), .int (nI gas), .int (nI ctr), .int (nI siz), .int (nI hgt), .int (nI frm), .int (nI ret), .ref mm, .ref mw, .ref mh, .ref ml, .int (kb ay)])), (mb, .inl (E.2.1 0, 96, .inl (nF nb))), (mm, .inl (E.2.1 0, 160, .inl (nF mem))), (mw, .inl (E.2.1 0, 370, .inl (nF u1)))] H := hP
                          have hD : va_D A [(mo, .inr (8, [.int (nI len), .ref mb, .int (kb on), .int (nI en), .int (nI gas), .int (nI ctr), .int (nI siz), .int (nI hgt), .int (nI frm), .int (nI ret), .ref mm, .ref mw, .ref mh, .ref ml, .int (kb ay)])), (mb, .inl (E.2.1 0, 96, .inl (nF nb))), (mm, .inl (E.2.1 0, 160, .inl (nF mem))), (mw, .inl (E.2.1 0, 370, .inl (nF u1)))] := hD
                          exact hret _ ls _ _ (u1) d_M_does_350 (do_f (fun _ => hu1.1.trans (mr_num hq)) hu1.2.1 hu1.2.2) (by rw [← mm_81 (o := o) (A := gv g 256 16) (B := gv g 272 16) (by omega) (by omega)]; exact hP) hS
                      · refine lv_aload_n hx hb d_M_does_321 rfl (lv_at hl 0 rfl) ?_
                        refine lv_sipush (v := nI 304) hx hb d_M_does_322 (by decide) ?_
                        refine lv_aload_n hx hb d_M_does_325 rfl (lv_at hl 0 rfl) ?_
                        refine va_get (D := E.1) (ci := 8) (v := .int (nI gas)) (C := "WideStackModel") (T := T_M) (N := 15) hx hb hts in_M hown hK hP 0 rfl rfl 4 (by decide) (hts _ t_751) (fun _ h9 => h9) rfl d_M_does_326 ?_
                        have hnv : gas < 2147483648 := (by omega)
                        refine k_Vv (As := [.int (nI 304), .int (nI gas)]) (rest := []) ⟨hx, hb, hml, hown, hts⟩ (c_M_number l E mo mb mm mw mh ml len en gas ctr siz hgt frm ret on ay g hg 304 gas (by decide) hnv) (k_cwV 2 hts t_942 t_944 t_52 t_71 t_945 (by decide +kernel) ⟨Nat.le_of_ble_eq_true rfl, Nat.le_of_ble_eq_true rfl⟩) hK hG hA hP hD hS [0, 3] rfl (by decide) 0 rfl rfl (fun _ => rfl) rfl hl.1 rfl (Nat.le_of_ble_eq_true rfl) d_M_does_329 ⟨Nat.zero_le _, Nat.zero_le _⟩ (fun u1 H locs hu1 hP hD hS => ?_)
                        have hP : va_P E.1 vwCl [(mo, .inr (8, [.int (nI len), .ref mb, .int (kb on), .int (nI en), .int (nI gas), .int (nI ctr), .int (nI siz), .int (nI hgt), .int (nI frm), .int (nI ret), .ref mm, .ref mw, .ref mh, .ref ml, .int (kb ay)])), (mb, .inl (E.2.1 0, 96, .inl (nF nb))), (mm, .inl (E.2.1 0, 160, .inl (nF mem))), (mw, .inl (E.2.1 0, 370, .inl (nF (nmb g 304 gas))))] H := hP
                        have hD : va_D A [(mo, .inr (8, [.int (nI len), .ref mb, .int (kb on), .int (nI en), .int (nI gas), .int (nI ctr), .int (nI siz), .int (nI hgt), .int (nI frm), .int (nI ret), .ref mm, .ref mw, .ref mh, .ref ml, .int (kb ay)])), (mb, .inl (E.2.1 0, 96, .inl (nF nb))), (mm, .inl (E.2.1 0, 160, .inl (nF mem))), (mw, .inl (E.2.1 0, 370, .inl (nF (nmb g 304 gas))))] := hD
                        refine lv_goto (tgt := 350) hx hb d_M_does_332 (by decide) ?_
                        exact hret _ ls _ _ (nmb g 304 gas) d_M_does_350 (do_n hg (by omega) (mr_90 h318)) (by rw [← mm_81 (o := o) (A := gv g 256 16) (B := gv g 272 16) (by omega) (by omega)]; exact hP) hS
                    · refine lv_aload_n hx hb d_M_does_301 rfl (lv_at hl 0 rfl) ?_
                      refine lv_sipush (v := nI 304) hx hb d_M_does_302 (by decide) ?_
                      refine lv_aload_n hx hb d_M_does_305 rfl (lv_at hl 0 rfl) ?_
                      refine va_get (D := E.1) (ci := 8) (v := .int (nI siz)) (C := "WideStackModel") (T := T_M) (N := 15) hx hb hts in_M hown hK hP 0 rfl rfl 6 (by decide) (hts _ t_753) (fun _ h9 => h9) rfl d_M_does_306 ?_
                      have hnv : siz < 2147483648 := (by omega)
                      refine k_Vv (As := [.int (nI 304), .int (nI siz)]) (rest := []) ⟨hx, hb, hml, hown, hts⟩ (c_M_number l E mo mb mm mw mh ml len en gas ctr siz hgt frm ret on ay g hg 304 siz (by decide) hnv) (k_cwV 2 hts t_942 t_944 t_52 t_71 t_945 (by decide +kernel) ⟨Nat.le_of_ble_eq_true rfl, Nat.le_of_ble_eq_true rfl⟩) hK hG hA hP hD hS [0, 3] rfl (by decide) 0 rfl rfl (fun _ => rfl) rfl hl.1 rfl (Nat.le_of_ble_eq_true rfl) d_M_does_309 ⟨Nat.zero_le _, Nat.zero_le _⟩ (fun u1 H locs hu1 hP hD hS => ?_)
                      have hP : va_P E.1 vwCl [(mo, .inr (8, [.int (nI len), .ref mb, .int (kb on), .int (nI en), .int (nI gas), .int (nI ctr), .int (nI siz), .int (nI hgt), .int (nI frm), .int (nI ret), .ref mm, .ref mw, .ref mh, .ref ml, .int (kb ay)])), (mb, .inl (E.2.1 0, 96, .inl (nF nb))), (mm, .inl (E.2.1 0, 160, .inl (nF mem))), (mw, .inl (E.2.1 0, 370, .inl (nF (nmb g 304 siz))))] H := hP
                      have hD : va_D A [(mo, .inr (8, [.int (nI len), .ref mb, .int (kb on), .int (nI en), .int (nI gas), .int (nI ctr), .int (nI siz), .int (nI hgt), .int (nI frm), .int (nI ret), .ref mm, .ref mw, .ref mh, .ref ml, .int (kb ay)])), (mb, .inl (E.2.1 0, 96, .inl (nF nb))), (mm, .inl (E.2.1 0, 160, .inl (nF mem))), (mw, .inl (E.2.1 0, 370, .inl (nF (nmb g 304 siz))))] := hD
                      refine lv_goto (tgt := 350) hx hb d_M_does_312 (by decide) ?_
                      exact hret _ ls _ _ (nmb g 304 siz) d_M_does_350 (do_n hg (by omega) (mr_89 h298)) (by rw [← mm_81 (o := o) (A := gv g 256 16) (B := gv g 272 16) (by omega) (by omega)]; exact hP) hS
                  · refine lv_aload_n hx hb d_M_does_281 rfl (lv_at hl 0 rfl) ?_
                    refine lv_sipush (v := nI 304) hx hb d_M_does_282 (by decide) ?_
                    refine lv_aload_n hx hb d_M_does_285 rfl (lv_at hl 0 rfl) ?_
                    refine va_get (D := E.1) (ci := 8) (v := .int (nI ctr)) (C := "WideStackModel") (T := T_M) (N := 15) hx hb hts in_M hown hK hP 0 rfl rfl 5 (by decide) (hts _ t_752) (fun _ h9 => h9) rfl d_M_does_286 ?_
                    have hnv : ctr < 2147483648 := (by omega)
                    refine k_Vv (As := [.int (nI 304), .int (nI ctr)]) (rest := []) ⟨hx, hb, hml, hown, hts⟩ (c_M_number l E mo mb mm mw mh ml len en gas ctr siz hgt frm ret on ay g hg 304 ctr (by decide) hnv) (k_cwV 2 hts t_942 t_944 t_52 t_71 t_945 (by decide +kernel) ⟨Nat.le_of_ble_eq_true rfl, Nat.le_of_ble_eq_true rfl⟩) hK hG hA hP hD hS [0, 3] rfl (by decide) 0 rfl rfl (fun _ => rfl) rfl hl.1 rfl (Nat.le_of_ble_eq_true rfl) d_M_does_289 ⟨Nat.zero_le _, Nat.zero_le _⟩ (fun u1 H locs hu1 hP hD hS => ?_)
                    have hP : va_P E.1 vwCl [(mo, .inr (8, [.int (nI len), .ref mb, .int (kb on), .int (nI en), .int (nI gas), .int (nI ctr), .int (nI siz), .int (nI hgt), .int (nI frm), .int (nI ret), .ref mm, .ref mw, .ref mh, .ref ml, .int (kb ay)])), (mb, .inl (E.2.1 0, 96, .inl (nF nb))), (mm, .inl (E.2.1 0, 160, .inl (nF mem))), (mw, .inl (E.2.1 0, 370, .inl (nF (nmb g 304 ctr))))] H := hP
                    have hD : va_D A [(mo, .inr (8, [.int (nI len), .ref mb, .int (kb on), .int (nI en), .int (nI gas), .int (nI ctr), .int (nI siz), .int (nI hgt), .int (nI frm), .int (nI ret), .ref mm, .ref mw, .ref mh, .ref ml, .int (kb ay)])), (mb, .inl (E.2.1 0, 96, .inl (nF nb))), (mm, .inl (E.2.1 0, 160, .inl (nF mem))), (mw, .inl (E.2.1 0, 370, .inl (nF (nmb g 304 ctr))))] := hD
                    refine lv_goto (tgt := 350) hx hb d_M_does_292 (by decide) ?_
                    exact hret _ ls _ _ (nmb g 304 ctr) d_M_does_350 (do_n hg (by omega) (mr_88 h278)) (by rw [← mm_81 (o := o) (A := gv g 256 16) (B := gv g 272 16) (by omega) (by omega)]; exact hP) hS
                · refine lv_iload_n hx hb d_M_does_261 rfl (lv_at hl 1 rfl) ?_
                  refine lv_bipush (v := nI 83) hx hb d_M_does_262 (by decide) ?_
                  refine kn_gt (tgt := 275) hx hb (by omega) (by omega) d_M_does_264 (by decide) (fun h264 => ?_) (fun h264 => ?_)
                  · refine lv_iload_n hx hb d_M_does_275 rfl (lv_at hl 1 rfl) ?_
                    refine lv_bipush (v := nI 88) hx hb d_M_does_276 (by decide) ?_
                    refine kn_ne (tgt := 295) hx hb (by omega) (by omega) d_M_does_278 (by decide) (fun h278 => ?_) (fun h278 => ?_)
                    · refine lv_iload_n hx hb d_M_does_295 rfl (lv_at hl 1 rfl) ?_
                      refine lv_bipush (v := nI 89) hx hb d_M_does_296 (by decide) ?_
                      refine kn_ne (tgt := 315) hx hb (by omega) (by omega) d_M_does_298 (by decide) (fun h298 => ?_) (fun h298 => ?_)
                      · refine lv_iload_n hx hb d_M_does_315 rfl (lv_at hl 1 rfl) ?_
                        refine lv_bipush (v := nI 90) hx hb d_M_does_316 (by decide) ?_
                        refine kn_ne (tgt := 335) hx hb (by omega) (by omega) d_M_does_318 (by decide) (fun h318 => ?_) (fun h318 => ?_)
                        · refine lv_iload_n hx hb d_M_does_335 rfl (lv_at hl 1 rfl) ?_
                          refine k_Sp (As := [.int (nI o)]) (rest := []) ⟨hx, hb, hml, hown, hts⟩ (c_M_hasNumber l E o (by omega)) (k_cwS 1 hts t_816 t_817 t_71 t_818 (by decide +kernel) ⟨Nat.le_of_ble_eq_true rfl, Nat.le_of_ble_eq_true rfl⟩) hK hG hA hP hD hS [] rfl (by decide) rfl hl.1 rfl (Nat.le_of_ble_eq_true rfl) d_M_does_336 ⟨Nat.zero_le _, Nat.zero_le _⟩ (fun r336 hu336 => ?_)
                          subst hu336
                          refine lv_if_eq (tgt := 350) hx hb d_M_does_339 (by decide) (fun h339 => ?_) (fun h339 => ?_)
                          · have hq := of_decide_eq_false (kb_0.mp h339)
                            exact hret _ ls _ _ (g) d_M_does_350 (do_0 hg (mg_0 hk (by omega) (by omega) (by omega) (by omega))) (by rw [← mm_81 (o := o) (A := gv g 256 16) (B := gv g 272 16) (by omega) (by omega)]; exact hP) hS
                          · have hq := of_decide_eq_true (kb_n0 h339)
                            refine lv_aload_n hx hb d_M_does_342 rfl (lv_at hl 0 rfl) ?_
                            refine lv_iload_n hx hb d_M_does_343 rfl (lv_at hl 1 rfl) ?_
                            refine lv_bipush (v := nI 95) hx hb d_M_does_344 (by decide) ?_
                            refine lv_isub hx hb d_M_does_346 ?_
                            refine k_top (pk_sub (by omega)) ?_
                            refine k_Vv (As := [.int (nI (o - 95))]) (rest := []) ⟨hx, hb, hml, hown, hts⟩ (c_M_reads l E mo mb mm mw mh ml len en gas ctr siz hgt frm ret on ay g hg nb bb okb (o - 95) (by omega) hc) (k_cwV 1 hts t_962 t_964 t_57 t_71 t_965 (by decide +kernel) ⟨Nat.le_of_ble_eq_true rfl, Nat.le_of_ble_eq_true rfl⟩) hK hG hA hP hD hS [0, 1, 3] rfl (by decide) 0 rfl rfl (fun _ => rfl) rfl hl.1 rfl (Nat.le_of_ble_eq_true rfl) d_M_does_347 ⟨Nat.zero_le _, Nat.zero_le _⟩ (fun u1 H locs hu1 hP hD hS => ?_)
                            have hP : va_P E.1 vwCl [(mo, .inr (8, [.int (nI len), .ref mb, .int (kb on), .int (nI en), .int (nI gas), .int (nI ctr), .int (nI siz), .int (nI hgt), .int (nI frm), .int (nI ret), .ref mm, .ref mw, .ref mh, .ref ml, .int (kb ay)])), (mb, .inl (E.2.1 0, 96, .inl (nF nb))), (mm, .inl (E.2.1 0, 160, .inl (nF mem))), (mw, .inl (E.2.1 0, 370, .inl (nF u1)))] H := hP
                            have hD : va_D A [(mo, .inr (8, [.int (nI len), .ref mb, .int (kb on), .int (nI en), .int (nI gas), .int (nI ctr), .int (nI siz), .int (nI hgt), .int (nI frm), .int (nI ret), .ref mm, .ref mw, .ref mh, .ref ml, .int (kb ay)])), (mb, .inl (E.2.1 0, 96, .inl (nF nb))), (mm, .inl (E.2.1 0, 160, .inl (nF mem))), (mw, .inl (E.2.1 0, 370, .inl (nF u1)))] := hD
                            exact hret _ ls _ _ (u1) d_M_does_350 (do_f (fun _ => hu1.1.trans (mr_num hq)) hu1.2.1 hu1.2.2) (by rw [← mm_81 (o := o) (A := gv g 256 16) (B := gv g 272 16) (by omega) (by omega)]; exact hP) hS
                        · refine lv_aload_n hx hb d_M_does_321 rfl (lv_at hl 0 rfl) ?_
                          refine lv_sipush (v := nI 304) hx hb d_M_does_322 (by decide) ?_
                          refine lv_aload_n hx hb d_M_does_325 rfl (lv_at hl 0 rfl) ?_
                          refine va_get (D := E.1) (ci := 8) (v := .int (nI gas)) (C := "WideStackModel") (T := T_M) (N := 15) hx hb hts in_M hown hK hP 0 rfl rfl 4 (by decide) (hts _ t_751) (fun _ h9 => h9) rfl d_M_does_326 ?_
                          have hnv : gas < 2147483648 := (by omega)
                          refine k_Vv (As := [.int (nI 304), .int (nI gas)]) (rest := []) ⟨hx, hb, hml, hown, hts⟩ (c_M_number l E mo mb mm mw mh ml len en gas ctr siz hgt frm ret on ay g hg 304 gas (by decide) hnv) (k_cwV 2 hts t_942 t_944 t_52 t_71 t_945 (by decide +kernel) ⟨Nat.le_of_ble_eq_true rfl, Nat.le_of_ble_eq_true rfl⟩) hK hG hA hP hD hS [0, 3] rfl (by decide) 0 rfl rfl (fun _ => rfl) rfl hl.1 rfl (Nat.le_of_ble_eq_true rfl) d_M_does_329 ⟨Nat.zero_le _, Nat.zero_le _⟩ (fun u1 H locs hu1 hP hD hS => ?_)
                          have hP : va_P E.1 vwCl [(mo, .inr (8, [.int (nI len), .ref mb, .int (kb on), .int (nI en), .int (nI gas), .int (nI ctr), .int (nI siz), .int (nI hgt), .int (nI frm), .int (nI ret), .ref mm, .ref mw, .ref mh, .ref ml, .int (kb ay)])), (mb, .inl (E.2.1 0, 96, .inl (nF nb))), (mm, .inl (E.2.1 0, 160, .inl (nF mem))), (mw, .inl (E.2.1 0, 370, .inl (nF (nmb g 304 gas))))] H := hP
                          have hD : va_D A [(mo, .inr (8, [.int (nI len), .ref mb, .int (kb on), .int (nI en), .int (nI gas), .int (nI ctr), .int (nI siz), .int (nI hgt), .int (nI frm), .int (nI ret), .ref mm, .ref mw, .ref mh, .ref ml, .int (kb ay)])), (mb, .inl (E.2.1 0, 96, .inl (nF nb))), (mm, .inl (E.2.1 0, 160, .inl (nF mem))), (mw, .inl (E.2.1 0, 370, .inl (nF (nmb g 304 gas))))] := hD
                          refine lv_goto (tgt := 350) hx hb d_M_does_332 (by decide) ?_
                          exact hret _ ls _ _ (nmb g 304 gas) d_M_does_350 (do_n hg (by omega) (mr_90 h318)) (by rw [← mm_81 (o := o) (A := gv g 256 16) (B := gv g 272 16) (by omega) (by omega)]; exact hP) hS
                      · refine lv_aload_n hx hb d_M_does_301 rfl (lv_at hl 0 rfl) ?_
                        refine lv_sipush (v := nI 304) hx hb d_M_does_302 (by decide) ?_
                        refine lv_aload_n hx hb d_M_does_305 rfl (lv_at hl 0 rfl) ?_
                        refine va_get (D := E.1) (ci := 8) (v := .int (nI siz)) (C := "WideStackModel") (T := T_M) (N := 15) hx hb hts in_M hown hK hP 0 rfl rfl 6 (by decide) (hts _ t_753) (fun _ h9 => h9) rfl d_M_does_306 ?_
                        have hnv : siz < 2147483648 := (by omega)
                        refine k_Vv (As := [.int (nI 304), .int (nI siz)]) (rest := []) ⟨hx, hb, hml, hown, hts⟩ (c_M_number l E mo mb mm mw mh ml len en gas ctr siz hgt frm ret on ay g hg 304 siz (by decide) hnv) (k_cwV 2 hts t_942 t_944 t_52 t_71 t_945 (by decide +kernel) ⟨Nat.le_of_ble_eq_true rfl, Nat.le_of_ble_eq_true rfl⟩) hK hG hA hP hD hS [0, 3] rfl (by decide) 0 rfl rfl (fun _ => rfl) rfl hl.1 rfl (Nat.le_of_ble_eq_true rfl) d_M_does_309 ⟨Nat.zero_le _, Nat.zero_le _⟩ (fun u1 H locs hu1 hP hD hS => ?_)
                        have hP : va_P E.1 vwCl [(mo, .inr (8, [.int (nI len), .ref mb, .int (kb on), .int (nI en), .int (nI gas), .int (nI ctr), .int (nI siz), .int (nI hgt), .int (nI frm), .int (nI ret), .ref mm, .ref mw, .ref mh, .ref ml, .int (kb ay)])), (mb, .inl (E.2.1 0, 96, .inl (nF nb))), (mm, .inl (E.2.1 0, 160, .inl (nF mem))), (mw, .inl (E.2.1 0, 370, .inl (nF (nmb g 304 siz))))] H := hP
                        have hD : va_D A [(mo, .inr (8, [.int (nI len), .ref mb, .int (kb on), .int (nI en), .int (nI gas), .int (nI ctr), .int (nI siz), .int (nI hgt), .int (nI frm), .int (nI ret), .ref mm, .ref mw, .ref mh, .ref ml, .int (kb ay)])), (mb, .inl (E.2.1 0, 96, .inl (nF nb))), (mm, .inl (E.2.1 0, 160, .inl (nF mem))), (mw, .inl (E.2.1 0, 370, .inl (nF (nmb g 304 siz))))] := hD
                        refine lv_goto (tgt := 350) hx hb d_M_does_312 (by decide) ?_
                        exact hret _ ls _ _ (nmb g 304 siz) d_M_does_350 (do_n hg (by omega) (mr_89 h298)) (by rw [← mm_81 (o := o) (A := gv g 256 16) (B := gv g 272 16) (by omega) (by omega)]; exact hP) hS
                    · refine lv_aload_n hx hb d_M_does_281 rfl (lv_at hl 0 rfl) ?_
                      refine lv_sipush (v := nI 304) hx hb d_M_does_282 (by decide) ?_
                      refine lv_aload_n hx hb d_M_does_285 rfl (lv_at hl 0 rfl) ?_
                      refine va_get (D := E.1) (ci := 8) (v := .int (nI ctr)) (C := "WideStackModel") (T := T_M) (N := 15) hx hb hts in_M hown hK hP 0 rfl rfl 5 (by decide) (hts _ t_752) (fun _ h9 => h9) rfl d_M_does_286 ?_
                      have hnv : ctr < 2147483648 := (by omega)
                      refine k_Vv (As := [.int (nI 304), .int (nI ctr)]) (rest := []) ⟨hx, hb, hml, hown, hts⟩ (c_M_number l E mo mb mm mw mh ml len en gas ctr siz hgt frm ret on ay g hg 304 ctr (by decide) hnv) (k_cwV 2 hts t_942 t_944 t_52 t_71 t_945 (by decide +kernel) ⟨Nat.le_of_ble_eq_true rfl, Nat.le_of_ble_eq_true rfl⟩) hK hG hA hP hD hS [0, 3] rfl (by decide) 0 rfl rfl (fun _ => rfl) rfl hl.1 rfl (Nat.le_of_ble_eq_true rfl) d_M_does_289 ⟨Nat.zero_le _, Nat.zero_le _⟩ (fun u1 H locs hu1 hP hD hS => ?_)
                      have hP : va_P E.1 vwCl [(mo, .inr (8, [.int (nI len), .ref mb, .int (kb on), .int (nI en), .int (nI gas), .int (nI ctr), .int (nI siz), .int (nI hgt), .int (nI frm), .int (nI ret), .ref mm, .ref mw, .ref mh, .ref ml, .int (kb ay)])), (mb, .inl (E.2.1 0, 96, .inl (nF nb))), (mm, .inl (E.2.1 0, 160, .inl (nF mem))), (mw, .inl (E.2.1 0, 370, .inl (nF (nmb g 304 ctr))))] H := hP
                      have hD : va_D A [(mo, .inr (8, [.int (nI len), .ref mb, .int (kb on), .int (nI en), .int (nI gas), .int (nI ctr), .int (nI siz), .int (nI hgt), .int (nI frm), .int (nI ret), .ref mm, .ref mw, .ref mh, .ref ml, .int (kb ay)])), (mb, .inl (E.2.1 0, 96, .inl (nF nb))), (mm, .inl (E.2.1 0, 160, .inl (nF mem))), (mw, .inl (E.2.1 0, 370, .inl (nF (nmb g 304 ctr))))] := hD
                      refine lv_goto (tgt := 350) hx hb d_M_does_292 (by decide) ?_
                      exact hret _ ls _ _ (nmb g 304 ctr) d_M_does_350 (do_n hg (by omega) (mr_88 h278)) (by rw [← mm_81 (o := o) (A := gv g 256 16) (B := gv g 272 16) (by omega) (by omega)]; exact hP) hS
                  · refine lv_aload_n hx hb d_M_does_267 rfl (lv_at hl 0 rfl) ?_
                    refine lv_iload_n hx hb d_M_does_268 rfl (lv_at hl 1 rfl) ?_
                    refine k_Vv (As := [.int (nI o)]) (rest := []) ⟨hx, hb, hml, hown, hts⟩ (c_M_remembers l E mo mb mm mw mh ml len en gas ctr siz hgt frm ret on ay g hg mem hm o (by omega) hu0) (k_cwV 1 hts t_958 t_960 t_56 t_71 t_961 (by decide +kernel) ⟨Nat.le_of_ble_eq_true rfl, Nat.le_of_ble_eq_true rfl⟩) hK hG hA hP hD hS [0, 2, 3] rfl (by decide) 0 rfl rfl (fun _ => rfl) rfl hl.1 rfl (Nat.le_of_ble_eq_true rfl) d_M_does_269 ⟨Nat.zero_le _, Nat.zero_le _⟩ (fun u1 H locs hu1 hP hD hS => ?_)
                    have hP : va_P E.1 vwCl [(mo, .inr (8, [.int (nI len), .ref mb, .int (kb on), .int (nI en), .int (nI gas), .int (nI ctr), .int (nI siz), .int (nI hgt), .int (nI frm), .int (nI ret), .ref mm, .ref mw, .ref mh, .ref ml, .int (kb ay)])), (mb, .inl (E.2.1 0, 96, .inl (nF nb))), (mm, .inl (E.2.1 0, 160, .inl (nF (m_mem o (gv g 256 16) (gv g 272 16) mem)))), (mw, .inl (E.2.1 0, 370, .inl (nF u1)))] H := hP
                    have hD : va_D A [(mo, .inr (8, [.int (nI len), .ref mb, .int (kb on), .int (nI en), .int (nI gas), .int (nI ctr), .int (nI siz), .int (nI hgt), .int (nI frm), .int (nI ret), .ref mm, .ref mw, .ref mh, .ref ml, .int (kb ay)])), (mb, .inl (E.2.1 0, 96, .inl (nF nb))), (mm, .inl (E.2.1 0, 160, .inl (nF (m_mem o (gv g 256 16) (gv g 272 16) mem)))), (mw, .inl (E.2.1 0, 370, .inl (nF u1)))] := hD
                    refine lv_goto (tgt := 350) hx hb d_M_does_272 (by decide) ?_
                    exact hret _ ls _ _ (u1) d_M_does_350 (do_f (fun q => by by_cases q1 : o = 81; exact (hu1.1 q1).trans (mr_81 q1); exact absurd q (fun q => mg_83 (by omega) q)) hu1.2.1 hu1.2.2) hP hS
              · refine lv_aload_n hx hb d_M_does_207 rfl (lv_at hl 0 rfl) ?_
                refine lv_aload_n hx hb d_M_does_208 rfl (lv_at hl 0 rfl) ?_
                refine lv_sipush (v := nI 256) hx hb d_M_does_209 (by decide) ?_
                refine k_Vp (As := [.int (nI 256)]) (rest := [.ref mo]) ⟨hx, hb, hml, hown, hts⟩ (c_M_small l E mo mb mm mw mh ml len en gas ctr siz hgt frm ret on ay g hg 256 (by decide)) (k_cwV 1 hts t_857 t_859 t_32 t_71 t_860 (by decide +kernel) ⟨Nat.le_of_ble_eq_true rfl, Nat.le_of_ble_eq_true rfl⟩) hK hG hA hP hD hS [0, 3] rfl (by decide) 0 rfl rfl rfl hl.1 rfl (Nat.le_of_ble_eq_true rfl) d_M_does_212 ⟨Nat.zero_le _, Nat.zero_le _⟩ (fun r212 hu212 => ?_)
                subst hu212
                refine lv_sipush (v := nI 255) hx hb d_M_does_215 (by decide) ?_
                refine kn_le (tgt := 227) hx hb (by omega) (by omega) d_M_does_218 (by decide) (fun h218 => ?_) (fun h218 => ?_)
                · refine lv_aload_n hx hb d_M_does_227 rfl (lv_at hl 0 rfl) ?_
                  refine lv_sipush (v := nI 256) hx hb d_M_does_228 (by decide) ?_
                  refine k_Vp (As := [.int (nI 256)]) (rest := [.ref mo]) ⟨hx, hb, hml, hown, hts⟩ (c_M_small l E mo mb mm mw mh ml len en gas ctr siz hgt frm ret on ay g hg 256 (by decide)) (k_cwV 1 hts t_857 t_859 t_32 t_71 t_860 (by decide +kernel) ⟨Nat.le_of_ble_eq_true rfl, Nat.le_of_ble_eq_true rfl⟩) hK hG hA hP hD hS [0, 3] rfl (by decide) 0 rfl rfl rfl hl.1 rfl (Nat.le_of_ble_eq_true rfl) d_M_does_231 ⟨Nat.zero_le _, Nat.zero_le _⟩ (fun r231 hu231 => ?_)
                  subst hu231
                  refine lv_aload_n hx hb d_M_does_234 rfl (lv_at hl 0 rfl) ?_
                  refine lv_sipush (v := nI 272) hx hb d_M_does_235 (by decide) ?_
                  refine k_Vp (As := [.int (nI 272)]) (rest := [.int (nI (min (gv g 256 16) 65535)), .ref mo]) ⟨hx, hb, hml, hown, hts⟩ (c_M_isNegative l E mo mb mm mw mh ml len en gas ctr siz hgt frm ret on ay g hg 272 (by decide)) (k_cwV 1 hts t_922 t_924 t_47 t_71 t_925 (by decide +kernel) ⟨Nat.le_of_ble_eq_true rfl, Nat.le_of_ble_eq_true rfl⟩) hK hG hA hP hD hS [0, 3] rfl (by decide) 0 rfl rfl rfl hl.1 rfl (Nat.le_of_ble_eq_true rfl) d_M_does_238 ⟨Nat.zero_le _, Nat.zero_le _⟩ (fun r238 hu238 => ?_)
                  subst hu238
                  refine lv_if_eq (tgt := 248) hx hb d_M_does_241 (by decide) (fun h241 => ?_) (fun h241 => ?_)
                  · refine lv_iconst (v := nI 0) hx hb d_M_does_248 (by decide) ?_
                    refine k_Vv (As := [.int (nI (min (gv g 256 16) 65535)), .int (nI 0)]) (rest := []) ⟨hx, hb, hml, hown, hts⟩ (c_M_shiftDown l E mo mb mm mw mh ml len en gas ctr siz hgt frm ret on ay g hg (min (gv g 256 16) 65535) 0 (by omega) (by decide)) (k_cwV 2 hts t_954 t_956 t_55 t_71 t_957 (by decide +kernel) ⟨Nat.le_of_ble_eq_true rfl, Nat.le_of_ble_eq_true rfl⟩) hK hG hA hP hD hS [0, 3] rfl (by decide) 0 rfl rfl (fun _ => rfl) rfl hl.1 rfl (Nat.le_of_ble_eq_true rfl) d_M_does_249 ⟨Nat.zero_le _, Nat.zero_le _⟩ (fun u1 H locs hu1 hP hD hS => ?_)
                    have hP : va_P E.1 vwCl [(mo, .inr (8, [.int (nI len), .ref mb, .int (kb on), .int (nI en), .int (nI gas), .int (nI ctr), .int (nI siz), .int (nI hgt), .int (nI frm), .int (nI ret), .ref mm, .ref mw, .ref mh, .ref ml, .int (kb ay)])), (mb, .inl (E.2.1 0, 96, .inl (nF nb))), (mm, .inl (E.2.1 0, 160, .inl (nF mem))), (mw, .inl (E.2.1 0, 370, .inl (nF u1)))] H := hP
                    have hD : va_D A [(mo, .inr (8, [.int (nI len), .ref mb, .int (kb on), .int (nI en), .int (nI gas), .int (nI ctr), .int (nI siz), .int (nI hgt), .int (nI frm), .int (nI ret), .ref mm, .ref mw, .ref mh, .ref ml, .int (kb ay)])), (mb, .inl (E.2.1 0, 96, .inl (nF nb))), (mm, .inl (E.2.1 0, 160, .inl (nF mem))), (mw, .inl (E.2.1 0, 370, .inl (nF u1)))] := hD
                    refine lv_goto (tgt := 350) hx hb d_M_does_252 (by decide) ?_
                    exact hret _ ls _ _ (u1) d_M_does_350 (do_f (fun _ => (by rw [h204, mo_29]; exact sh_sar0 (gv_lt16 hg 272) (kb_0.mp h241) hu1 (by first | exact Or.inl (min_s h218) | exact Or.inr (min_b h218)) : gv u1 304 16 = m_op o (gv g 256 16) (gv g 272 16) (gv g 288 16)).trans (mr_op (by omega))) hu1.1 hu1.2.1) (by rw [← mm_81 (o := o) (A := gv g 256 16) (B := gv g 272 16) (by omega) (by omega)]; exact hP) hS
                  · refine lv_iconst (v := nI 1) hx hb d_M_does_244 (by decide) ?_
                    refine lv_goto (tgt := 249) hx hb d_M_does_245 (by decide) ?_
                    refine k_Vv (As := [.int (nI (min (gv g 256 16) 65535)), .int (nI 1)]) (rest := []) ⟨hx, hb, hml, hown, hts⟩ (c_M_shiftDown l E mo mb mm mw mh ml len en gas ctr siz hgt frm ret on ay g hg (min (gv g 256 16) 65535) 1 (by omega) (by decide)) (k_cwV 2 hts t_954 t_956 t_55 t_71 t_957 (by decide +kernel) ⟨Nat.le_of_ble_eq_true rfl, Nat.le_of_ble_eq_true rfl⟩) hK hG hA hP hD hS [0, 3] rfl (by decide) 0 rfl rfl (fun _ => rfl) rfl hl.1 rfl (Nat.le_of_ble_eq_true rfl) d_M_does_249 ⟨Nat.zero_le _, Nat.zero_le _⟩ (fun u1 H locs hu1 hP hD hS => ?_)
                    have hP : va_P E.1 vwCl [(mo, .inr (8, [.int (nI len), .ref mb, .int (kb on), .int (nI en), .int (nI gas), .int (nI ctr), .int (nI siz), .int (nI hgt), .int (nI frm), .int (nI ret), .ref mm, .ref mw, .ref mh, .ref ml, .int (kb ay)])), (mb, .inl (E.2.1 0, 96, .inl (nF nb))), (mm, .inl (E.2.1 0, 160, .inl (nF mem))), (mw, .inl (E.2.1 0, 370, .inl (nF u1)))] H := hP
                    have hD : va_D A [(mo, .inr (8, [.int (nI len), .ref mb, .int (kb on), .int (nI en), .int (nI gas), .int (nI ctr), .int (nI siz), .int (nI hgt), .int (nI frm), .int (nI ret), .ref mm, .ref mw, .ref mh, .ref ml, .int (kb ay)])), (mb, .inl (E.2.1 0, 96, .inl (nF nb))), (mm, .inl (E.2.1 0, 160, .inl (nF mem))), (mw, .inl (E.2.1 0, 370, .inl (nF u1)))] := hD
                    refine lv_goto (tgt := 350) hx hb d_M_does_252 (by decide) ?_
                    exact hret _ ls _ _ (u1) d_M_does_350 (do_f (fun _ => (by rw [h204, mo_29]; exact sh_sar1 (gv_lt16 hg 272) (kb_n0 h241) hu1 (by first | exact Or.inl (min_s h218) | exact Or.inr (min_b h218)) : gv u1 304 16 = m_op o (gv g 256 16) (gv g 272 16) (gv g 288 16)).trans (mr_op (by omega))) hu1.1 hu1.2.1) (by rw [← mm_81 (o := o) (A := gv g 256 16) (B := gv g 272 16) (by omega) (by omega)]; exact hP) hS
                · refine lv_sipush (v := nI 256) hx hb d_M_does_221 (by decide) ?_
                  refine lv_goto (tgt := 234) hx hb d_M_does_224 (by decide) ?_
                  refine lv_aload_n hx hb d_M_does_234 rfl (lv_at hl 0 rfl) ?_
                  refine lv_sipush (v := nI 272) hx hb d_M_does_235 (by decide) ?_
                  refine k_Vp (As := [.int (nI 272)]) (rest := [.int (nI 256), .ref mo]) ⟨hx, hb, hml, hown, hts⟩ (c_M_isNegative l E mo mb mm mw mh ml len en gas ctr siz hgt frm ret on ay g hg 272 (by decide)) (k_cwV 1 hts t_922 t_924 t_47 t_71 t_925 (by decide +kernel) ⟨Nat.le_of_ble_eq_true rfl, Nat.le_of_ble_eq_true rfl⟩) hK hG hA hP hD hS [0, 3] rfl (by decide) 0 rfl rfl rfl hl.1 rfl (Nat.le_of_ble_eq_true rfl) d_M_does_238 ⟨Nat.zero_le _, Nat.zero_le _⟩ (fun r238 hu238 => ?_)
                  subst hu238
                  refine lv_if_eq (tgt := 248) hx hb d_M_does_241 (by decide) (fun h241 => ?_) (fun h241 => ?_)
                  · refine lv_iconst (v := nI 0) hx hb d_M_does_248 (by decide) ?_
                    refine k_Vv (As := [.int (nI 256), .int (nI 0)]) (rest := []) ⟨hx, hb, hml, hown, hts⟩ (c_M_shiftDown l E mo mb mm mw mh ml len en gas ctr siz hgt frm ret on ay g hg 256 0 (by omega) (by decide)) (k_cwV 2 hts t_954 t_956 t_55 t_71 t_957 (by decide +kernel) ⟨Nat.le_of_ble_eq_true rfl, Nat.le_of_ble_eq_true rfl⟩) hK hG hA hP hD hS [0, 3] rfl (by decide) 0 rfl rfl (fun _ => rfl) rfl hl.1 rfl (Nat.le_of_ble_eq_true rfl) d_M_does_249 ⟨Nat.zero_le _, Nat.zero_le _⟩ (fun u1 H locs hu1 hP hD hS => ?_)
                    have hP : va_P E.1 vwCl [(mo, .inr (8, [.int (nI len), .ref mb, .int (kb on), .int (nI en), .int (nI gas), .int (nI ctr), .int (nI siz), .int (nI hgt), .int (nI frm), .int (nI ret), .ref mm, .ref mw, .ref mh, .ref ml, .int (kb ay)])), (mb, .inl (E.2.1 0, 96, .inl (nF nb))), (mm, .inl (E.2.1 0, 160, .inl (nF mem))), (mw, .inl (E.2.1 0, 370, .inl (nF u1)))] H := hP
                    have hD : va_D A [(mo, .inr (8, [.int (nI len), .ref mb, .int (kb on), .int (nI en), .int (nI gas), .int (nI ctr), .int (nI siz), .int (nI hgt), .int (nI frm), .int (nI ret), .ref mm, .ref mw, .ref mh, .ref ml, .int (kb ay)])), (mb, .inl (E.2.1 0, 96, .inl (nF nb))), (mm, .inl (E.2.1 0, 160, .inl (nF mem))), (mw, .inl (E.2.1 0, 370, .inl (nF u1)))] := hD
                    refine lv_goto (tgt := 350) hx hb d_M_does_252 (by decide) ?_
                    exact hret _ ls _ _ (u1) d_M_does_350 (do_f (fun _ => (by rw [h204, mo_29]; exact sh_sar0 (gv_lt16 hg 272) (kb_0.mp h241) hu1 (by first | exact Or.inl (min_s h218) | exact Or.inr (min_b h218)) : gv u1 304 16 = m_op o (gv g 256 16) (gv g 272 16) (gv g 288 16)).trans (mr_op (by omega))) hu1.1 hu1.2.1) (by rw [← mm_81 (o := o) (A := gv g 256 16) (B := gv g 272 16) (by omega) (by omega)]; exact hP) hS
                  · refine lv_iconst (v := nI 1) hx hb d_M_does_244 (by decide) ?_
                    refine lv_goto (tgt := 249) hx hb d_M_does_245 (by decide) ?_
                    refine k_Vv (As := [.int (nI 256), .int (nI 1)]) (rest := []) ⟨hx, hb, hml, hown, hts⟩ (c_M_shiftDown l E mo mb mm mw mh ml len en gas ctr siz hgt frm ret on ay g hg 256 1 (by omega) (by decide)) (k_cwV 2 hts t_954 t_956 t_55 t_71 t_957 (by decide +kernel) ⟨Nat.le_of_ble_eq_true rfl, Nat.le_of_ble_eq_true rfl⟩) hK hG hA hP hD hS [0, 3] rfl (by decide) 0 rfl rfl (fun _ => rfl) rfl hl.1 rfl (Nat.le_of_ble_eq_true rfl) d_M_does_249 ⟨Nat.zero_le _, Nat.zero_le _⟩ (fun u1 H locs hu1 hP hD hS => ?_)
                    have hP : va_P E.1 vwCl [(mo, .inr (8, [.int (nI len), .ref mb, .int (kb on), .int (nI en), .int (nI gas), .int (nI ctr), .int (nI siz), .int (nI hgt), .int (nI frm), .int (nI ret), .ref mm, .ref mw, .ref mh, .ref ml, .int (kb ay)])), (mb, .inl (E.2.1 0, 96, .inl (nF nb))), (mm, .inl (E.2.1 0, 160, .inl (nF mem))), (mw, .inl (E.2.1 0, 370, .inl (nF u1)))] H := hP
                    have hD : va_D A [(mo, .inr (8, [.int (nI len), .ref mb, .int (kb on), .int (nI en), .int (nI gas), .int (nI ctr), .int (nI siz), .int (nI hgt), .int (nI frm), .int (nI ret), .ref mm, .ref mw, .ref mh, .ref ml, .int (kb ay)])), (mb, .inl (E.2.1 0, 96, .inl (nF nb))), (mm, .inl (E.2.1 0, 160, .inl (nF mem))), (mw, .inl (E.2.1 0, 370, .inl (nF u1)))] := hD
                    refine lv_goto (tgt := 350) hx hb d_M_does_252 (by decide) ?_
                    exact hret _ ls _ _ (u1) d_M_does_350 (do_f (fun _ => (by rw [h204, mo_29]; exact sh_sar1 (gv_lt16 hg 272) (kb_n0 h241) hu1 (by first | exact Or.inl (min_s h218) | exact Or.inr (min_b h218)) : gv u1 304 16 = m_op o (gv g 256 16) (gv g 272 16) (gv g 288 16)).trans (mr_op (by omega))) hu1.1 hu1.2.1) (by rw [← mm_81 (o := o) (A := gv g 256 16) (B := gv g 272 16) (by omega) (by omega)]; exact hP) hS
            · refine lv_aload_n hx hb d_M_does_167 rfl (lv_at hl 0 rfl) ?_
              refine lv_aload_n hx hb d_M_does_168 rfl (lv_at hl 0 rfl) ?_
              refine lv_sipush (v := nI 256) hx hb d_M_does_169 (by decide) ?_
              refine k_Vp (As := [.int (nI 256)]) (rest := [.ref mo]) ⟨hx, hb, hml, hown, hts⟩ (c_M_small l E mo mb mm mw mh ml len en gas ctr siz hgt frm ret on ay g hg 256 (by decide)) (k_cwV 1 hts t_857 t_859 t_32 t_71 t_860 (by decide +kernel) ⟨Nat.le_of_ble_eq_true rfl, Nat.le_of_ble_eq_true rfl⟩) hK hG hA hP hD hS [0, 3] rfl (by decide) 0 rfl rfl rfl hl.1 rfl (Nat.le_of_ble_eq_true rfl) d_M_does_172 ⟨Nat.zero_le _, Nat.zero_le _⟩ (fun r172 hu172 => ?_)
              subst hu172
              refine lv_sipush (v := nI 255) hx hb d_M_does_175 (by decide) ?_
              refine kn_le (tgt := 187) hx hb (by omega) (by omega) d_M_does_178 (by decide) (fun h178 => ?_) (fun h178 => ?_)
              · refine lv_aload_n hx hb d_M_does_187 rfl (lv_at hl 0 rfl) ?_
                refine lv_sipush (v := nI 256) hx hb d_M_does_188 (by decide) ?_
                refine k_Vp (As := [.int (nI 256)]) (rest := [.ref mo]) ⟨hx, hb, hml, hown, hts⟩ (c_M_small l E mo mb mm mw mh ml len en gas ctr siz hgt frm ret on ay g hg 256 (by decide)) (k_cwV 1 hts t_857 t_859 t_32 t_71 t_860 (by decide +kernel) ⟨Nat.le_of_ble_eq_true rfl, Nat.le_of_ble_eq_true rfl⟩) hK hG hA hP hD hS [0, 3] rfl (by decide) 0 rfl rfl rfl hl.1 rfl (Nat.le_of_ble_eq_true rfl) d_M_does_191 ⟨Nat.zero_le _, Nat.zero_le _⟩ (fun r191 hu191 => ?_)
                subst hu191
                refine lv_iconst (v := nI 0) hx hb d_M_does_194 (by decide) ?_
                refine k_Vv (As := [.int (nI (min (gv g 256 16) 65535)), .int (nI 0)]) (rest := []) ⟨hx, hb, hml, hown, hts⟩ (c_M_shiftDown l E mo mb mm mw mh ml len en gas ctr siz hgt frm ret on ay g hg (min (gv g 256 16) 65535) 0 (by omega) (by decide)) (k_cwV 2 hts t_954 t_956 t_55 t_71 t_957 (by decide +kernel) ⟨Nat.le_of_ble_eq_true rfl, Nat.le_of_ble_eq_true rfl⟩) hK hG hA hP hD hS [0, 3] rfl (by decide) 0 rfl rfl (fun _ => rfl) rfl hl.1 rfl (Nat.le_of_ble_eq_true rfl) d_M_does_195 ⟨Nat.zero_le _, Nat.zero_le _⟩ (fun u1 H locs hu1 hP hD hS => ?_)
                have hP : va_P E.1 vwCl [(mo, .inr (8, [.int (nI len), .ref mb, .int (kb on), .int (nI en), .int (nI gas), .int (nI ctr), .int (nI siz), .int (nI hgt), .int (nI frm), .int (nI ret), .ref mm, .ref mw, .ref mh, .ref ml, .int (kb ay)])), (mb, .inl (E.2.1 0, 96, .inl (nF nb))), (mm, .inl (E.2.1 0, 160, .inl (nF mem))), (mw, .inl (E.2.1 0, 370, .inl (nF u1)))] H := hP
                have hD : va_D A [(mo, .inr (8, [.int (nI len), .ref mb, .int (kb on), .int (nI en), .int (nI gas), .int (nI ctr), .int (nI siz), .int (nI hgt), .int (nI frm), .int (nI ret), .ref mm, .ref mw, .ref mh, .ref ml, .int (kb ay)])), (mb, .inl (E.2.1 0, 96, .inl (nF nb))), (mm, .inl (E.2.1 0, 160, .inl (nF mem))), (mw, .inl (E.2.1 0, 370, .inl (nF u1)))] := hD
                refine lv_goto (tgt := 350) hx hb d_M_does_198 (by decide) ?_
                exact hret _ ls _ _ (u1) d_M_does_350 (do_f (fun _ => (by rw [h164, mo_28]; exact sh_shr (gv_lt16 hg 272) hu1 (by first | exact Or.inl (min_s h178) | exact Or.inr (min_b h178)) : gv u1 304 16 = m_op o (gv g 256 16) (gv g 272 16) (gv g 288 16)).trans (mr_op (by omega))) hu1.1 hu1.2.1) (by rw [← mm_81 (o := o) (A := gv g 256 16) (B := gv g 272 16) (by omega) (by omega)]; exact hP) hS
              · refine lv_sipush (v := nI 256) hx hb d_M_does_181 (by decide) ?_
                refine lv_goto (tgt := 194) hx hb d_M_does_184 (by decide) ?_
                refine lv_iconst (v := nI 0) hx hb d_M_does_194 (by decide) ?_
                refine k_Vv (As := [.int (nI 256), .int (nI 0)]) (rest := []) ⟨hx, hb, hml, hown, hts⟩ (c_M_shiftDown l E mo mb mm mw mh ml len en gas ctr siz hgt frm ret on ay g hg 256 0 (by omega) (by decide)) (k_cwV 2 hts t_954 t_956 t_55 t_71 t_957 (by decide +kernel) ⟨Nat.le_of_ble_eq_true rfl, Nat.le_of_ble_eq_true rfl⟩) hK hG hA hP hD hS [0, 3] rfl (by decide) 0 rfl rfl (fun _ => rfl) rfl hl.1 rfl (Nat.le_of_ble_eq_true rfl) d_M_does_195 ⟨Nat.zero_le _, Nat.zero_le _⟩ (fun u1 H locs hu1 hP hD hS => ?_)
                have hP : va_P E.1 vwCl [(mo, .inr (8, [.int (nI len), .ref mb, .int (kb on), .int (nI en), .int (nI gas), .int (nI ctr), .int (nI siz), .int (nI hgt), .int (nI frm), .int (nI ret), .ref mm, .ref mw, .ref mh, .ref ml, .int (kb ay)])), (mb, .inl (E.2.1 0, 96, .inl (nF nb))), (mm, .inl (E.2.1 0, 160, .inl (nF mem))), (mw, .inl (E.2.1 0, 370, .inl (nF u1)))] H := hP
                have hD : va_D A [(mo, .inr (8, [.int (nI len), .ref mb, .int (kb on), .int (nI en), .int (nI gas), .int (nI ctr), .int (nI siz), .int (nI hgt), .int (nI frm), .int (nI ret), .ref mm, .ref mw, .ref mh, .ref ml, .int (kb ay)])), (mb, .inl (E.2.1 0, 96, .inl (nF nb))), (mm, .inl (E.2.1 0, 160, .inl (nF mem))), (mw, .inl (E.2.1 0, 370, .inl (nF u1)))] := hD
                refine lv_goto (tgt := 350) hx hb d_M_does_198 (by decide) ?_
                exact hret _ ls _ _ (u1) d_M_does_350 (do_f (fun _ => (by rw [h164, mo_28]; exact sh_shr (gv_lt16 hg 272) hu1 (by first | exact Or.inl (min_s h178) | exact Or.inr (min_b h178)) : gv u1 304 16 = m_op o (gv g 256 16) (gv g 272 16) (gv g 288 16)).trans (mr_op (by omega))) hu1.1 hu1.2.1) (by rw [← mm_81 (o := o) (A := gv g 256 16) (B := gv g 272 16) (by omega) (by omega)]; exact hP) hS
          · refine lv_aload_n hx hb d_M_does_126 rfl (lv_at hl 0 rfl) ?_
            refine lv_aload_n hx hb d_M_does_127 rfl (lv_at hl 0 rfl) ?_
            refine lv_sipush (v := nI 256) hx hb d_M_does_128 (by decide) ?_
            refine k_Vp (As := [.int (nI 256)]) (rest := [.ref mo]) ⟨hx, hb, hml, hown, hts⟩ (c_M_small l E mo mb mm mw mh ml len en gas ctr siz hgt frm ret on ay g hg 256 (by decide)) (k_cwV 1 hts t_857 t_859 t_32 t_71 t_860 (by decide +kernel) ⟨Nat.le_of_ble_eq_true rfl, Nat.le_of_ble_eq_true rfl⟩) hK hG hA hP hD hS [0, 3] rfl (by decide) 0 rfl rfl rfl hl.1 rfl (Nat.le_of_ble_eq_true rfl) d_M_does_131 ⟨Nat.zero_le _, Nat.zero_le _⟩ (fun r131 hu131 => ?_)
            subst hu131
            refine lv_sipush (v := nI 255) hx hb d_M_does_134 (by decide) ?_
            refine kn_le (tgt := 146) hx hb (by omega) (by omega) d_M_does_137 (by decide) (fun h137 => ?_) (fun h137 => ?_)
            · refine lv_aload_n hx hb d_M_does_146 rfl (lv_at hl 0 rfl) ?_
              refine lv_sipush (v := nI 256) hx hb d_M_does_147 (by decide) ?_
              refine k_Vp (As := [.int (nI 256)]) (rest := [.ref mo]) ⟨hx, hb, hml, hown, hts⟩ (c_M_small l E mo mb mm mw mh ml len en gas ctr siz hgt frm ret on ay g hg 256 (by decide)) (k_cwV 1 hts t_857 t_859 t_32 t_71 t_860 (by decide +kernel) ⟨Nat.le_of_ble_eq_true rfl, Nat.le_of_ble_eq_true rfl⟩) hK hG hA hP hD hS [0, 3] rfl (by decide) 0 rfl rfl rfl hl.1 rfl (Nat.le_of_ble_eq_true rfl) d_M_does_150 ⟨Nat.zero_le _, Nat.zero_le _⟩ (fun r150 hu150 => ?_)
              subst hu150
              refine lv_ineg hx hb d_M_does_153 ?_
              refine lv_iconst (v := nI 0) hx hb d_M_does_154 (by decide) ?_
              refine k_Vv (As := [.int (-(nI (min (gv g 256 16) 65535))), .int (nI 0)]) (rest := []) ⟨hx, hb, hml, hown, hts⟩ (c_M_shiftUp l E mo mb mm mw mh ml len en gas ctr siz hgt frm ret on ay g hg (min (gv g 256 16) 65535) 0 (by omega) (by decide)) (k_cwV 2 hts t_954 t_956 t_55 t_71 t_957 (by decide +kernel) ⟨Nat.le_of_ble_eq_true rfl, Nat.le_of_ble_eq_true rfl⟩) hK hG hA hP hD hS [0, 3] rfl (by decide) 0 rfl rfl (fun _ => rfl) rfl hl.1 rfl (Nat.le_of_ble_eq_true rfl) d_M_does_155 ⟨Nat.zero_le _, Nat.zero_le _⟩ (fun u1 H locs hu1 hP hD hS => ?_)
              have hP : va_P E.1 vwCl [(mo, .inr (8, [.int (nI len), .ref mb, .int (kb on), .int (nI en), .int (nI gas), .int (nI ctr), .int (nI siz), .int (nI hgt), .int (nI frm), .int (nI ret), .ref mm, .ref mw, .ref mh, .ref ml, .int (kb ay)])), (mb, .inl (E.2.1 0, 96, .inl (nF nb))), (mm, .inl (E.2.1 0, 160, .inl (nF mem))), (mw, .inl (E.2.1 0, 370, .inl (nF u1)))] H := hP
              have hD : va_D A [(mo, .inr (8, [.int (nI len), .ref mb, .int (kb on), .int (nI en), .int (nI gas), .int (nI ctr), .int (nI siz), .int (nI hgt), .int (nI frm), .int (nI ret), .ref mm, .ref mw, .ref mh, .ref ml, .int (kb ay)])), (mb, .inl (E.2.1 0, 96, .inl (nF nb))), (mm, .inl (E.2.1 0, 160, .inl (nF mem))), (mw, .inl (E.2.1 0, 370, .inl (nF u1)))] := hD
              refine lv_goto (tgt := 350) hx hb d_M_does_158 (by decide) ?_
              exact hret _ ls _ _ (u1) d_M_does_350 (do_f (fun _ => (by rw [h123, mo_27]; exact sh_shl hu1 (by first | exact Or.inl (min_s h137) | exact Or.inr (min_b h137)) : gv u1 304 16 = m_op o (gv g 256 16) (gv g 272 16) (gv g 288 16)).trans (mr_op (by omega))) hu1.1 hu1.2.1) (by rw [← mm_81 (o := o) (A := gv g 256 16) (B := gv g 272 16) (by omega) (by omega)]; exact hP) hS
            · refine lv_sipush (v := -256) hx hb d_M_does_140 (by decide) ?_
              refine k_top (y := -(nI 256)) (by decide) ?_
              refine lv_goto (tgt := 154) hx hb d_M_does_143 (by decide) ?_
              refine lv_iconst (v := nI 0) hx hb d_M_does_154 (by decide) ?_
              refine k_Vv (As := [.int (-(nI 256)), .int (nI 0)]) (rest := []) ⟨hx, hb, hml, hown, hts⟩ (c_M_shiftUp l E mo mb mm mw mh ml len en gas ctr siz hgt frm ret on ay g hg 256 0 (by omega) (by decide)) (k_cwV 2 hts t_954 t_956 t_55 t_71 t_957 (by decide +kernel) ⟨Nat.le_of_ble_eq_true rfl, Nat.le_of_ble_eq_true rfl⟩) hK hG hA hP hD hS [0, 3] rfl (by decide) 0 rfl rfl (fun _ => rfl) rfl hl.1 rfl (Nat.le_of_ble_eq_true rfl) d_M_does_155 ⟨Nat.zero_le _, Nat.zero_le _⟩ (fun u1 H locs hu1 hP hD hS => ?_)
              have hP : va_P E.1 vwCl [(mo, .inr (8, [.int (nI len), .ref mb, .int (kb on), .int (nI en), .int (nI gas), .int (nI ctr), .int (nI siz), .int (nI hgt), .int (nI frm), .int (nI ret), .ref mm, .ref mw, .ref mh, .ref ml, .int (kb ay)])), (mb, .inl (E.2.1 0, 96, .inl (nF nb))), (mm, .inl (E.2.1 0, 160, .inl (nF mem))), (mw, .inl (E.2.1 0, 370, .inl (nF u1)))] H := hP
              have hD : va_D A [(mo, .inr (8, [.int (nI len), .ref mb, .int (kb on), .int (nI en), .int (nI gas), .int (nI ctr), .int (nI siz), .int (nI hgt), .int (nI frm), .int (nI ret), .ref mm, .ref mw, .ref mh, .ref ml, .int (kb ay)])), (mb, .inl (E.2.1 0, 96, .inl (nF nb))), (mm, .inl (E.2.1 0, 160, .inl (nF mem))), (mw, .inl (E.2.1 0, 370, .inl (nF u1)))] := hD
              refine lv_goto (tgt := 350) hx hb d_M_does_158 (by decide) ?_
              exact hret _ ls _ _ (u1) d_M_does_350 (do_f (fun _ => (by rw [h123, mo_27]; exact sh_shl hu1 (by first | exact Or.inl (min_s h137) | exact Or.inr (min_b h137)) : gv u1 304 16 = m_op o (gv g 256 16) (gv g 272 16) (gv g 288 16)).trans (mr_op (by omega))) hu1.1 hu1.2.1) (by rw [← mm_81 (o := o) (A := gv g 256 16) (B := gv g 272 16) (by omega) (by omega)]; exact hP) hS
        · refine lv_aload_n hx hb d_M_does_80 rfl (lv_at hl 0 rfl) ?_
          refine lv_sipush (v := nI 304) hx hb d_M_does_81 (by decide) ?_
          refine lv_aload_n hx hb d_M_does_84 rfl (lv_at hl 0 rfl) ?_
          refine lv_sipush (v := nI 256) hx hb d_M_does_85 (by decide) ?_
          refine k_Vp (As := [.int (nI 256)]) (rest := [.int (nI 304), .ref mo]) ⟨hx, hb, hml, hown, hts⟩ (c_M_small l E mo mb mm mw mh ml len en gas ctr siz hgt frm ret on ay g hg 256 (by decide)) (k_cwV 1 hts t_857 t_859 t_32 t_71 t_860 (by decide +kernel) ⟨Nat.le_of_ble_eq_true rfl, Nat.le_of_ble_eq_true rfl⟩) hK hG hA hP hD hS [0, 3] rfl (by decide) 0 rfl rfl rfl hl.1 rfl (Nat.le_of_ble_eq_true rfl) d_M_does_88 ⟨Nat.zero_le _, Nat.zero_le _⟩ (fun r88 hu88 => ?_)
          subst hu88
          refine lv_bipush (v := nI 31) hx hb d_M_does_91 (by decide) ?_
          refine kn_le (tgt := 100) hx hb (by omega) (by omega) d_M_does_93 (by decide) (fun h93 => ?_) (fun h93 => ?_)
          · refine lv_aload_n hx hb d_M_does_100 rfl (lv_at hl 0 rfl) ?_
            refine lv_sipush (v := nI 272) hx hb d_M_does_101 (by decide) ?_
            refine lv_aload_n hx hb d_M_does_104 rfl (lv_at hl 0 rfl) ?_
            refine lv_sipush (v := nI 256) hx hb d_M_does_105 (by decide) ?_
            refine k_Vp (As := [.int (nI 256)]) (rest := [.int (nI 272), .ref mo, .int (nI 304), .ref mo]) ⟨hx, hb, hml, hown, hts⟩ (c_M_small l E mo mb mm mw mh ml len en gas ctr siz hgt frm ret on ay g hg 256 (by decide)) (k_cwV 1 hts t_857 t_859 t_32 t_71 t_860 (by decide +kernel) ⟨Nat.le_of_ble_eq_true rfl, Nat.le_of_ble_eq_true rfl⟩) hK hG hA hP hD hS [0, 3] rfl (by decide) 0 rfl rfl rfl hl.1 rfl (Nat.le_of_ble_eq_true rfl) d_M_does_108 ⟨Nat.zero_le _, Nat.zero_le _⟩ (fun r108 hu108 => ?_)
            subst hu108
            refine k_Vp (As := [.int (nI 272), .int (nI (min (gv g 256 16) 65535))]) (rest := [.int (nI 304), .ref mo]) ⟨hx, hb, hml, hown, hts⟩ (c_M_byteOf l E mo mb mm mw mh ml len en gas ctr siz hgt frm ret on ay g hg 272 (min (gv g 256 16) 65535) (by decide) (by omega)) (k_cwV 2 hts t_950 t_952 t_54 t_71 t_953 (by decide +kernel) ⟨Nat.le_of_ble_eq_true rfl, Nat.le_of_ble_eq_true rfl⟩) hK hG hA hP hD hS [0, 3] rfl (by decide) 0 rfl rfl rfl hl.1 rfl (Nat.le_of_ble_eq_true rfl) d_M_does_111 ⟨Nat.zero_le _, Nat.zero_le _⟩ (fun r111 hu111 => ?_)
            subst hu111
            have hnv : (m_byte (min (gv g 256 16) 65535) (gv g 272 16)) < 2147483648 := (Nat.lt_trans (byte_b _ _) (by decide))
            refine k_Vv (As := [.int (nI 304), .int (nI (m_byte (min (gv g 256 16) 65535) (gv g 272 16)))]) (rest := []) ⟨hx, hb, hml, hown, hts⟩ (c_M_number l E mo mb mm mw mh ml len en gas ctr siz hgt frm ret on ay g hg 304 (m_byte (min (gv g 256 16) 65535) (gv g 272 16)) (by decide) hnv) (k_cwV 2 hts t_942 t_944 t_52 t_71 t_945 (by decide +kernel) ⟨Nat.le_of_ble_eq_true rfl, Nat.le_of_ble_eq_true rfl⟩) hK hG hA hP hD hS [0, 3] rfl (by decide) 0 rfl rfl (fun _ => rfl) rfl hl.1 rfl (Nat.le_of_ble_eq_true rfl) d_M_does_114 ⟨Nat.zero_le _, Nat.zero_le _⟩ (fun u1 H locs hu1 hP hD hS => ?_)
            have hP : va_P E.1 vwCl [(mo, .inr (8, [.int (nI len), .ref mb, .int (kb on), .int (nI en), .int (nI gas), .int (nI ctr), .int (nI siz), .int (nI hgt), .int (nI frm), .int (nI ret), .ref mm, .ref mw, .ref mh, .ref ml, .int (kb ay)])), (mb, .inl (E.2.1 0, 96, .inl (nF nb))), (mm, .inl (E.2.1 0, 160, .inl (nF mem))), (mw, .inl (E.2.1 0, 370, .inl (nF (nmb g 304 (m_byte (min (gv g 256 16) 65535) (gv g 272 16))))))] H := hP
            have hD : va_D A [(mo, .inr (8, [.int (nI len), .ref mb, .int (kb on), .int (nI en), .int (nI gas), .int (nI ctr), .int (nI siz), .int (nI hgt), .int (nI frm), .int (nI ret), .ref mm, .ref mw, .ref mh, .ref ml, .int (kb ay)])), (mb, .inl (E.2.1 0, 96, .inl (nF nb))), (mm, .inl (E.2.1 0, 160, .inl (nF mem))), (mw, .inl (E.2.1 0, 370, .inl (nF (nmb g 304 (m_byte (min (gv g 256 16) 65535) (gv g 272 16))))))] := hD
            refine lv_goto (tgt := 350) hx hb d_M_does_117 (by decide) ?_
            exact hret _ ls _ _ (nmb g 304 (m_byte (min (gv g 256 16) 65535) (gv g 272 16))) d_M_does_350 (do_n hg (Nat.lt_trans hnv (by decide)) ((by rw [h77, mo_26]; first | exact byt_min h93 | exact byt_big h93 : m_byte (min (gv g 256 16) 65535) (gv g 272 16) = m_op o (gv g 256 16) (gv g 272 16) (gv g 288 16)).trans (mr_op (by omega)))) (by rw [← mm_81 (o := o) (A := gv g 256 16) (B := gv g 272 16) (by omega) (by omega)]; exact hP) hS
          · refine lv_iconst (v := nI 0) hx hb d_M_does_96 (by decide) ?_
            refine lv_goto (tgt := 114) hx hb d_M_does_97 (by decide) ?_
            have hnv : 0 < 2147483648 := (by omega)
            refine k_Vv (As := [.int (nI 304), .int (nI 0)]) (rest := []) ⟨hx, hb, hml, hown, hts⟩ (c_M_number l E mo mb mm mw mh ml len en gas ctr siz hgt frm ret on ay g hg 304 0 (by decide) hnv) (k_cwV 2 hts t_942 t_944 t_52 t_71 t_945 (by decide +kernel) ⟨Nat.le_of_ble_eq_true rfl, Nat.le_of_ble_eq_true rfl⟩) hK hG hA hP hD hS [0, 3] rfl (by decide) 0 rfl rfl (fun _ => rfl) rfl hl.1 rfl (Nat.le_of_ble_eq_true rfl) d_M_does_114 ⟨Nat.zero_le _, Nat.zero_le _⟩ (fun u1 H locs hu1 hP hD hS => ?_)
            have hP : va_P E.1 vwCl [(mo, .inr (8, [.int (nI len), .ref mb, .int (kb on), .int (nI en), .int (nI gas), .int (nI ctr), .int (nI siz), .int (nI hgt), .int (nI frm), .int (nI ret), .ref mm, .ref mw, .ref mh, .ref ml, .int (kb ay)])), (mb, .inl (E.2.1 0, 96, .inl (nF nb))), (mm, .inl (E.2.1 0, 160, .inl (nF mem))), (mw, .inl (E.2.1 0, 370, .inl (nF (nmb g 304 0))))] H := hP
            have hD : va_D A [(mo, .inr (8, [.int (nI len), .ref mb, .int (kb on), .int (nI en), .int (nI gas), .int (nI ctr), .int (nI siz), .int (nI hgt), .int (nI frm), .int (nI ret), .ref mm, .ref mw, .ref mh, .ref ml, .int (kb ay)])), (mb, .inl (E.2.1 0, 96, .inl (nF nb))), (mm, .inl (E.2.1 0, 160, .inl (nF mem))), (mw, .inl (E.2.1 0, 370, .inl (nF (nmb g 304 0))))] := hD
            refine lv_goto (tgt := 350) hx hb d_M_does_117 (by decide) ?_
            exact hret _ ls _ _ (nmb g 304 0) d_M_does_350 (do_n hg (Nat.lt_trans hnv (by decide)) ((by rw [h77, mo_26]; first | exact byt_min h93 | exact byt_big h93 : 0 = m_op o (gv g 256 16) (gv g 272 16) (gv g 288 16)).trans (mr_op (by omega)))) (by rw [← mm_81 (o := o) (A := gv g 256 16) (B := gv g 272 16) (by omega) (by omega)]; exact hP) hS
      · refine lv_iload_n hx hb d_M_does_60 rfl (lv_at hl 1 rfl) ?_
        refine lv_bipush (v := nI 25) hx hb d_M_does_61 (by decide) ?_
        refine kn_gt (tgt := 74) hx hb (by omega) (by omega) d_M_does_63 (by decide) (fun h63 => ?_) (fun h63 => ?_)
        · refine lv_iload_n hx hb d_M_does_74 rfl (lv_at hl 1 rfl) ?_
          refine lv_bipush (v := nI 26) hx hb d_M_does_75 (by decide) ?_
          refine kn_ne (tgt := 120) hx hb (by omega) (by omega) d_M_does_77 (by decide) (fun h77 => ?_) (fun h77 => ?_)
          · refine lv_iload_n hx hb d_M_does_120 rfl (lv_at hl 1 rfl) ?_
            refine lv_bipush (v := nI 27) hx hb d_M_does_121 (by decide) ?_
            refine kn_ne (tgt := 161) hx hb (by omega) (by omega) d_M_does_123 (by decide) (fun h123 => ?_) (fun h123 => ?_)
            · refine lv_iload_n hx hb d_M_does_161 rfl (lv_at hl 1 rfl) ?_
              refine lv_bipush (v := nI 28) hx hb d_M_does_162 (by decide) ?_
              refine kn_ne (tgt := 201) hx hb (by omega) (by omega) d_M_does_164 (by decide) (fun h164 => ?_) (fun h164 => ?_)
              · refine lv_iload_n hx hb d_M_does_201 rfl (lv_at hl 1 rfl) ?_
                refine lv_bipush (v := nI 29) hx hb d_M_does_202 (by decide) ?_
                refine kn_ne (tgt := 255) hx hb (by omega) (by omega) d_M_does_204 (by decide) (fun h204 => ?_) (fun h204 => ?_)
                · refine lv_iload_n hx hb d_M_does_255 rfl (lv_at hl 1 rfl) ?_
                  refine lv_bipush (v := nI 81) hx hb d_M_does_256 (by decide) ?_
                  refine kn_lt (tgt := 275) hx hb (by omega) (by omega) d_M_does_258 (by decide) (fun h258 => ?_) (fun h258 => ?_)
                  · refine lv_iload_n hx hb d_M_does_275 rfl (lv_at hl 1 rfl) ?_
                    refine lv_bipush (v := nI 88) hx hb d_M_does_276 (by decide) ?_
                    refine kn_ne (tgt := 295) hx hb (by omega) (by omega) d_M_does_278 (by decide) (fun h278 => ?_) (fun h278 => ?_)
                    · refine lv_iload_n hx hb d_M_does_295 rfl (lv_at hl 1 rfl) ?_
                      refine lv_bipush (v := nI 89) hx hb d_M_does_296 (by decide) ?_
                      refine kn_ne (tgt := 315) hx hb (by omega) (by omega) d_M_does_298 (by decide) (fun h298 => ?_) (fun h298 => ?_)
                      · refine lv_iload_n hx hb d_M_does_315 rfl (lv_at hl 1 rfl) ?_
                        refine lv_bipush (v := nI 90) hx hb d_M_does_316 (by decide) ?_
                        refine kn_ne (tgt := 335) hx hb (by omega) (by omega) d_M_does_318 (by decide) (fun h318 => ?_) (fun h318 => ?_)
                        · refine lv_iload_n hx hb d_M_does_335 rfl (lv_at hl 1 rfl) ?_
                          refine k_Sp (As := [.int (nI o)]) (rest := []) ⟨hx, hb, hml, hown, hts⟩ (c_M_hasNumber l E o (by omega)) (k_cwS 1 hts t_816 t_817 t_71 t_818 (by decide +kernel) ⟨Nat.le_of_ble_eq_true rfl, Nat.le_of_ble_eq_true rfl⟩) hK hG hA hP hD hS [] rfl (by decide) rfl hl.1 rfl (Nat.le_of_ble_eq_true rfl) d_M_does_336 ⟨Nat.zero_le _, Nat.zero_le _⟩ (fun r336 hu336 => ?_)
                          subst hu336
                          refine lv_if_eq (tgt := 350) hx hb d_M_does_339 (by decide) (fun h339 => ?_) (fun h339 => ?_)
                          · have hq := of_decide_eq_false (kb_0.mp h339)
                            exact hret _ ls _ _ (g) d_M_does_350 (do_0 hg (mg_0 hk (by omega) (by omega) (by omega) (by omega))) (by rw [← mm_81 (o := o) (A := gv g 256 16) (B := gv g 272 16) (by omega) (by omega)]; exact hP) hS
                          · have hq := of_decide_eq_true (kb_n0 h339)
                            refine lv_aload_n hx hb d_M_does_342 rfl (lv_at hl 0 rfl) ?_
                            refine lv_iload_n hx hb d_M_does_343 rfl (lv_at hl 1 rfl) ?_
                            refine lv_bipush (v := nI 95) hx hb d_M_does_344 (by decide) ?_
                            refine lv_isub hx hb d_M_does_346 ?_
                            refine k_top (pk_sub (by omega)) ?_
                            refine k_Vv (As := [.int (nI (o - 95))]) (rest := []) ⟨hx, hb, hml, hown, hts⟩ (c_M_reads l E mo mb mm mw mh ml len en gas ctr siz hgt frm ret on ay g hg nb bb okb (o - 95) (by omega) hc) (k_cwV 1 hts t_962 t_964 t_57 t_71 t_965 (by decide +kernel) ⟨Nat.le_of_ble_eq_true rfl, Nat.le_of_ble_eq_true rfl⟩) hK hG hA hP hD hS [0, 1, 3] rfl (by decide) 0 rfl rfl (fun _ => rfl) rfl hl.1 rfl (Nat.le_of_ble_eq_true rfl) d_M_does_347 ⟨Nat.zero_le _, Nat.zero_le _⟩ (fun u1 H locs hu1 hP hD hS => ?_)
                            have hP : va_P E.1 vwCl [(mo, .inr (8, [.int (nI len), .ref mb, .int (kb on), .int (nI en), .int (nI gas), .int (nI ctr), .int (nI siz), .int (nI hgt), .int (nI frm), .int (nI ret), .ref mm, .ref mw, .ref mh, .ref ml, .int (kb ay)])), (mb, .inl (E.2.1 0, 96, .inl (nF nb))), (mm, .inl (E.2.1 0, 160, .inl (nF mem))), (mw, .inl (E.2.1 0, 370, .inl (nF u1)))] H := hP
                            have hD : va_D A [(mo, .inr (8, [.int (nI len), .ref mb, .int (kb on), .int (nI en), .int (nI gas), .int (nI ctr), .int (nI siz), .int (nI hgt), .int (nI frm), .int (nI ret), .ref mm, .ref mw, .ref mh, .ref ml, .int (kb ay)])), (mb, .inl (E.2.1 0, 96, .inl (nF nb))), (mm, .inl (E.2.1 0, 160, .inl (nF mem))), (mw, .inl (E.2.1 0, 370, .inl (nF u1)))] := hD
                            exact hret _ ls _ _ (u1) d_M_does_350 (do_f (fun _ => hu1.1.trans (mr_num hq)) hu1.2.1 hu1.2.2) (by rw [← mm_81 (o := o) (A := gv g 256 16) (B := gv g 272 16) (by omega) (by omega)]; exact hP) hS
                        · refine lv_aload_n hx hb d_M_does_321 rfl (lv_at hl 0 rfl) ?_
                          refine lv_sipush (v := nI 304) hx hb d_M_does_322 (by decide) ?_
                          refine lv_aload_n hx hb d_M_does_325 rfl (lv_at hl 0 rfl) ?_
                          refine va_get (D := E.1) (ci := 8) (v := .int (nI gas)) (C := "WideStackModel") (T := T_M) (N := 15) hx hb hts in_M hown hK hP 0 rfl rfl 4 (by decide) (hts _ t_751) (fun _ h9 => h9) rfl d_M_does_326 ?_
                          have hnv : gas < 2147483648 := (by omega)
                          refine k_Vv (As := [.int (nI 304), .int (nI gas)]) (rest := []) ⟨hx, hb, hml, hown, hts⟩ (c_M_number l E mo mb mm mw mh ml len en gas ctr siz hgt frm ret on ay g hg 304 gas (by decide) hnv) (k_cwV 2 hts t_942 t_944 t_52 t_71 t_945 (by decide +kernel) ⟨Nat.le_of_ble_eq_true rfl, Nat.le_of_ble_eq_true rfl⟩) hK hG hA hP hD hS [0, 3] rfl (by decide) 0 rfl rfl (fun _ => rfl) rfl hl.1 rfl (Nat.le_of_ble_eq_true rfl) d_M_does_329 ⟨Nat.zero_le _, Nat.zero_le _⟩ (fun u1 H locs hu1 hP hD hS => ?_)
                          have hP : va_P E.1 vwCl [(mo, .inr (8, [.int (nI len), .ref mb, .int (kb on), .int (nI en), .int (nI gas), .int (nI ctr), .int (nI siz), .int (nI hgt), .int (nI frm), .int (nI ret), .ref mm, .ref mw, .ref mh, .ref ml, .int (kb ay)])), (mb, .inl (E.2.1 0, 96, .inl (nF nb))), (mm, .inl (E.2.1 0, 160, .inl (nF mem))), (mw, .inl (E.2.1 0, 370, .inl (nF (nmb g 304 gas))))] H := hP
                          have hD : va_D A [(mo, .inr (8, [.int (nI len), .ref mb, .int (kb on), .int (nI en), .int (nI gas), .int (nI ctr), .int (nI siz), .int (nI hgt), .int (nI frm), .int (nI ret), .ref mm, .ref mw, .ref mh, .ref ml, .int (kb ay)])), (mb, .inl (E.2.1 0, 96, .inl (nF nb))), (mm, .inl (E.2.1 0, 160, .inl (nF mem))), (mw, .inl (E.2.1 0, 370, .inl (nF (nmb g 304 gas))))] := hD
                          refine lv_goto (tgt := 350) hx hb d_M_does_332 (by decide) ?_
                          exact hret _ ls _ _ (nmb g 304 gas) d_M_does_350 (do_n hg (by omega) (mr_90 h318)) (by rw [← mm_81 (o := o) (A := gv g 256 16) (B := gv g 272 16) (by omega) (by omega)]; exact hP) hS
                      · refine lv_aload_n hx hb d_M_does_301 rfl (lv_at hl 0 rfl) ?_
                        refine lv_sipush (v := nI 304) hx hb d_M_does_302 (by decide) ?_
                        refine lv_aload_n hx hb d_M_does_305 rfl (lv_at hl 0 rfl) ?_
                        refine va_get (D := E.1) (ci := 8) (v := .int (nI siz)) (C := "WideStackModel") (T := T_M) (N := 15) hx hb hts in_M hown hK hP 0 rfl rfl 6 (by decide) (hts _ t_753) (fun _ h9 => h9) rfl d_M_does_306 ?_
                        have hnv : siz < 2147483648 := (by omega)
                        refine k_Vv (As := [.int (nI 304), .int (nI siz)]) (rest := []) ⟨hx, hb, hml, hown, hts⟩ (c_M_number l E mo mb mm mw mh ml len en gas ctr siz hgt frm ret on ay g hg 304 siz (by decide) hnv) (k_cwV 2 hts t_942 t_944 t_52 t_71 t_945 (by decide +kernel) ⟨Nat.le_of_ble_eq_true rfl, Nat.le_of_ble_eq_true rfl⟩) hK hG hA hP hD hS [0, 3] rfl (by decide) 0 rfl rfl (fun _ => rfl) rfl hl.1 rfl (Nat.le_of_ble_eq_true rfl) d_M_does_309 ⟨Nat.zero_le _, Nat.zero_le _⟩ (fun u1 H locs hu1 hP hD hS => ?_)
                        have hP : va_P E.1 vwCl [(mo, .inr (8, [.int (nI len), .ref mb, .int (kb on), .int (nI en), .int (nI gas), .int (nI ctr), .int (nI siz), .int (nI hgt), .int (nI frm), .int (nI ret), .ref mm, .ref mw, .ref mh, .ref ml, .int (kb ay)])), (mb, .inl (E.2.1 0, 96, .inl (nF nb))), (mm, .inl (E.2.1 0, 160, .inl (nF mem))), (mw, .inl (E.2.1 0, 370, .inl (nF (nmb g 304 siz))))] H := hP
                        have hD : va_D A [(mo, .inr (8, [.int (nI len), .ref mb, .int (kb on), .int (nI en), .int (nI gas), .int (nI ctr), .int (nI siz), .int (nI hgt), .int (nI frm), .int (nI ret), .ref mm, .ref mw, .ref mh, .ref ml, .int (kb ay)])), (mb, .inl (E.2.1 0, 96, .inl (nF nb))), (mm, .inl (E.2.1 0, 160, .inl (nF mem))), (mw, .inl (E.2.1 0, 370, .inl (nF (nmb g 304 siz))))] := hD
                        refine lv_goto (tgt := 350) hx hb d_M_does_312 (by decide) ?_
                        exact hret _ ls _ _ (nmb g 304 siz) d_M_does_350 (do_n hg (by omega) (mr_89 h298)) (by rw [← mm_81 (o := o) (A := gv g 256 16) (B := gv g 272 16) (by omega) (by omega)]; exact hP) hS
                    · refine lv_aload_n hx hb d_M_does_281 rfl (lv_at hl 0 rfl) ?_
                      refine lv_sipush (v := nI 304) hx hb d_M_does_282 (by decide) ?_
                      refine lv_aload_n hx hb d_M_does_285 rfl (lv_at hl 0 rfl) ?_
                      refine va_get (D := E.1) (ci := 8) (v := .int (nI ctr)) (C := "WideStackModel") (T := T_M) (N := 15) hx hb hts in_M hown hK hP 0 rfl rfl 5 (by decide) (hts _ t_752) (fun _ h9 => h9) rfl d_M_does_286 ?_
                      have hnv : ctr < 2147483648 := (by omega)
                      refine k_Vv (As := [.int (nI 304), .int (nI ctr)]) (rest := []) ⟨hx, hb, hml, hown, hts⟩ (c_M_number l E mo mb mm mw mh ml len en gas ctr siz hgt frm ret on ay g hg 304 ctr (by decide) hnv) (k_cwV 2 hts t_942 t_944 t_52 t_71 t_945 (by decide +kernel) ⟨Nat.le_of_ble_eq_true rfl, Nat.le_of_ble_eq_true rfl⟩) hK hG hA hP hD hS [0, 3] rfl (by decide) 0 rfl rfl (fun _ => rfl) rfl hl.1 rfl (Nat.le_of_ble_eq_true rfl) d_M_does_289 ⟨Nat.zero_le _, Nat.zero_le _⟩ (fun u1 H locs hu1 hP hD hS => ?_)
                      have hP : va_P E.1 vwCl [(mo, .inr (8, [.int (nI len), .ref mb, .int (kb on), .int (nI en), .int (nI gas), .int (nI ctr), .int (nI siz), .int (nI hgt), .int (nI frm), .int (nI ret), .ref mm, .ref mw, .ref mh, .ref ml, .int (kb ay)])), (mb, .inl (E.2.1 0, 96, .inl (nF nb))), (mm, .inl (E.2.1 0, 160, .inl (nF mem))), (mw, .inl (E.2.1 0, 370, .inl (nF (nmb g 304 ctr))))] H := hP
                      have hD : va_D A [(mo, .inr (8, [.int (nI len), .ref mb, .int (kb on), .int (nI en), .int (nI gas), .int (nI ctr), .int (nI siz), .int (nI hgt), .int (nI frm), .int (nI ret), .ref mm, .ref mw, .ref mh, .ref ml, .int (kb ay)])), (mb, .inl (E.2.1 0, 96, .inl (nF nb))), (mm, .inl (E.2.1 0, 160, .inl (nF mem))), (mw, .inl (E.2.1 0, 370, .inl (nF (nmb g 304 ctr))))] := hD
                      refine lv_goto (tgt := 350) hx hb d_M_does_292 (by decide) ?_
                      exact hret _ ls _ _ (nmb g 304 ctr) d_M_does_350 (do_n hg (by omega) (mr_88 h278)) (by rw [← mm_81 (o := o) (A := gv g 256 16) (B := gv g 272 16) (by omega) (by omega)]; exact hP) hS
                  · refine lv_iload_n hx hb d_M_does_261 rfl (lv_at hl 1 rfl) ?_
                    refine lv_bipush (v := nI 83) hx hb d_M_does_262 (by decide) ?_
                    refine kn_gt (tgt := 275) hx hb (by omega) (by omega) d_M_does_264 (by decide) (fun h264 => ?_) (fun h264 => ?_)
                    · refine lv_iload_n hx hb d_M_does_275 rfl (lv_at hl 1 rfl) ?_
                      refine lv_bipush (v := nI 88) hx hb d_M_does_276 (by decide) ?_
                      refine kn_ne (tgt := 295) hx hb (by omega) (by omega) d_M_does_278 (by decide) (fun h278 => ?_) (fun h278 => ?_)
                      · refine lv_iload_n hx hb d_M_does_295 rfl (lv_at hl 1 rfl) ?_
                        refine lv_bipush (v := nI 89) hx hb d_M_does_296 (by decide) ?_
                        refine kn_ne (tgt := 315) hx hb (by omega) (by omega) d_M_does_298 (by decide) (fun h298 => ?_) (fun h298 => ?_)
                        · refine lv_iload_n hx hb d_M_does_315 rfl (lv_at hl 1 rfl) ?_
                          refine lv_bipush (v := nI 90) hx hb d_M_does_316 (by decide) ?_
                          refine kn_ne (tgt := 335) hx hb (by omega) (by omega) d_M_does_318 (by decide) (fun h318 => ?_) (fun h318 => ?_)
                          · refine lv_iload_n hx hb d_M_does_335 rfl (lv_at hl 1 rfl) ?_
                            refine k_Sp (As := [.int (nI o)]) (rest := []) ⟨hx, hb, hml, hown, hts⟩ (c_M_hasNumber l E o (by omega)) (k_cwS 1 hts t_816 t_817 t_71 t_818 (by decide +kernel) ⟨Nat.le_of_ble_eq_true rfl, Nat.le_of_ble_eq_true rfl⟩) hK hG hA hP hD hS [] rfl (by decide) rfl hl.1 rfl (Nat.le_of_ble_eq_true rfl) d_M_does_336 ⟨Nat.zero_le _, Nat.zero_le _⟩ (fun r336 hu336 => ?_)
                            subst hu336
                            refine lv_if_eq (tgt := 350) hx hb d_M_does_339 (by decide) (fun h339 => ?_) (fun h339 => ?_)
                            · have hq := of_decide_eq_false (kb_0.mp h339)
                              exact hret _ ls _ _ (g) d_M_does_350 (do_0 hg (mg_0 hk (by omega) (by omega) (by omega) (by omega))) (by rw [← mm_81 (o := o) (A := gv g 256 16) (B := gv g 272 16) (by omega) (by omega)]; exact hP) hS
                            · have hq := of_decide_eq_true (kb_n0 h339)
                              refine lv_aload_n hx hb d_M_does_342 rfl (lv_at hl 0 rfl) ?_
                              refine lv_iload_n hx hb d_M_does_343 rfl (lv_at hl 1 rfl) ?_
                              refine lv_bipush (v := nI 95) hx hb d_M_does_344 (by decide) ?_
                              refine lv_isub hx hb d_M_does_346 ?_
                              refine k_top (pk_sub (by omega)) ?_
                              refine k_Vv (As := [.int (nI (o - 95))]) (rest := []) ⟨hx, hb, hml, hown, hts⟩ (c_M_reads l E mo mb mm mw mh ml len en gas ctr siz hgt frm ret on ay g hg nb bb okb (o - 95) (by omega) hc) (k_cwV 1 hts t_962 t_964 t_57 t_71 t_965 (by decide +kernel) ⟨Nat.le_of_ble_eq_true rfl, Nat.le_of_ble_eq_true rfl⟩) hK hG hA hP hD hS [0, 1, 3] rfl (by decide) 0 rfl rfl (fun _ => rfl) rfl hl.1 rfl (Nat.le_of_ble_eq_true rfl) d_M_does_347 ⟨Nat.zero_le _, Nat.zero_le _⟩ (fun u1 H locs hu1 hP hD hS => ?_)
                              have hP : va_P E.1 vwCl [(mo, .inr (8, [.int (nI len), .ref mb, .int (kb on), .int (nI en), .int (nI gas), .int (nI ctr), .int (nI siz), .int (nI hgt), .int (nI frm), .int (nI ret), .ref mm, .ref mw, .ref mh, .ref ml, .int (kb ay)])), (mb, .inl (E.2.1 0, 96, .inl (nF nb))), (mm, .inl (E.2.1 0, 160, .inl (nF mem))), (mw, .inl (E.2.1 0, 370, .inl (nF u1)))] H := hP
                              have hD : va_D A [(mo, .inr (8, [.int (nI len), .ref mb, .int (kb on), .int (nI en), .int (nI gas), .int (nI ctr), .int (nI siz), .int (nI hgt), .int (nI frm), .int (nI ret), .ref mm, .ref mw, .ref mh, .ref ml, .int (kb ay)])), (mb, .inl (E.2.1 0, 96, .inl (nF nb))), (mm, .inl (E.2.1 0, 160, .inl (nF mem))), (mw, .inl (E.2.1 0, 370, .inl (nF u1)))] := hD
                              exact hret _ ls _ _ (u1) d_M_does_350 (do_f (fun _ => hu1.1.trans (mr_num hq)) hu1.2.1 hu1.2.2) (by rw [← mm_81 (o := o) (A := gv g 256 16) (B := gv g 272 16) (by omega) (by omega)]; exact hP) hS
                          · refine lv_aload_n hx hb d_M_does_321 rfl (lv_at hl 0 rfl) ?_
                            refine lv_sipush (v := nI 304) hx hb d_M_does_322 (by decide) ?_
                            refine lv_aload_n hx hb d_M_does_325 rfl (lv_at hl 0 rfl) ?_
                            refine va_get (D := E.1) (ci := 8) (v := .int (nI gas)) (C := "WideStackModel") (T := T_M) (N := 15) hx hb hts in_M hown hK hP 0 rfl rfl 4 (by decide) (hts _ t_751) (fun _ h9 => h9) rfl d_M_does_326 ?_
                            have hnv : gas < 2147483648 := (by omega)
                            refine k_Vv (As := [.int (nI 304), .int (nI gas)]) (rest := []) ⟨hx, hb, hml, hown, hts⟩ (c_M_number l E mo mb mm mw mh ml len en gas ctr siz hgt frm ret on ay g hg 304 gas (by decide) hnv) (k_cwV 2 hts t_942 t_944 t_52 t_71 t_945 (by decide +kernel) ⟨Nat.le_of_ble_eq_true rfl, Nat.le_of_ble_eq_true rfl⟩) hK hG hA hP hD hS [0, 3] rfl (by decide) 0 rfl rfl (fun _ => rfl) rfl hl.1 rfl (Nat.le_of_ble_eq_true rfl) d_M_does_329 ⟨Nat.zero_le _, Nat.zero_le _⟩ (fun u1 H locs hu1 hP hD hS => ?_)
                            have hP : va_P E.1 vwCl [(mo, .inr (8, [.int (nI len), .ref mb, .int (kb on), .int (nI en), .int (nI gas), .int (nI ctr), .int (nI siz), .int (nI hgt), .int (nI frm), .int (nI ret), .ref mm, .ref mw, .ref mh, .ref ml, .int (kb ay)])), (mb, .inl (E.2.1 0, 96, .inl (nF nb))), (mm, .inl (E.2.1 0, 160, .inl (nF mem))), (mw, .inl (E.2.1 0, 370, .inl (nF (nmb g 304 gas))))] H := hP
                            have hD : va_D A [(mo, .inr (8, [.int (nI len), .ref mb, .int (kb on), .int (nI en), .int (nI gas), .int (nI ctr), .int (nI siz), .int (nI hgt), .int (nI frm), .int (nI ret), .ref mm, .ref mw, .ref mh, .ref ml, .int (kb ay)])), (mb, .inl (E.2.1 0, 96, .inl (nF nb))), (mm, .inl (E.2.1 0, 160, .inl (nF mem))), (mw, .inl (E.2.1 0, 370, .inl (nF (nmb g 304 gas))))] := hD
                            refine lv_goto (tgt := 350) hx hb d_M_does_332 (by decide) ?_
                            exact hret _ ls _ _ (nmb g 304 gas) d_M_does_350 (do_n hg (by omega) (mr_90 h318)) (by rw [← mm_81 (o := o) (A := gv g 256 16) (B := gv g 272 16) (by omega) (by omega)]; exact hP) hS
                        · refine lv_aload_n hx hb d_M_does_301 rfl (lv_at hl 0 rfl) ?_
                          refine lv_sipush (v := nI 304) hx hb d_M_does_302 (by decide) ?_
                          refine lv_aload_n hx hb d_M_does_305 rfl (lv_at hl 0 rfl) ?_
                          refine va_get (D := E.1) (ci := 8) (v := .int (nI siz)) (C := "WideStackModel") (T := T_M) (N := 15) hx hb hts in_M hown hK hP 0 rfl rfl 6 (by decide) (hts _ t_753) (fun _ h9 => h9) rfl d_M_does_306 ?_
                          have hnv : siz < 2147483648 := (by omega)
                          refine k_Vv (As := [.int (nI 304), .int (nI siz)]) (rest := []) ⟨hx, hb, hml, hown, hts⟩ (c_M_number l E mo mb mm mw mh ml len en gas ctr siz hgt frm ret on ay g hg 304 siz (by decide) hnv) (k_cwV 2 hts t_942 t_944 t_52 t_71 t_945 (by decide +kernel) ⟨Nat.le_of_ble_eq_true rfl, Nat.le_of_ble_eq_true rfl⟩) hK hG hA hP hD hS [0, 3] rfl (by decide) 0 rfl rfl (fun _ => rfl) rfl hl.1 rfl (Nat.le_of_ble_eq_true rfl) d_M_does_309 ⟨Nat.zero_le _, Nat.zero_le _⟩ (fun u1 H locs hu1 hP hD hS => ?_)
                          have hP : va_P E.1 vwCl [(mo, .inr (8, [.int (nI len), .ref mb, .int (kb on), .int (nI en), .int (nI gas), .int (nI ctr), .int (nI siz), .int (nI hgt), .int (nI frm), .int (nI ret), .ref mm, .ref mw, .ref mh, .ref ml, .int (kb ay)])), (mb, .inl (E.2.1 0, 96, .inl (nF nb))), (mm, .inl (E.2.1 0, 160, .inl (nF mem))), (mw, .inl (E.2.1 0, 370, .inl (nF (nmb g 304 siz))))] H := hP
                          have hD : va_D A [(mo, .inr (8, [.int (nI len), .ref mb, .int (kb on), .int (nI en), .int (nI gas), .int (nI ctr), .int (nI siz), .int (nI hgt), .int (nI frm), .int (nI ret), .ref mm, .ref mw, .ref mh, .ref ml, .int (kb ay)])), (mb, .inl (E.2.1 0, 96, .inl (nF nb))), (mm, .inl (E.2.1 0, 160, .inl (nF mem))), (mw, .inl (E.2.1 0, 370, .inl (nF (nmb g 304 siz))))] := hD
                          refine lv_goto (tgt := 350) hx hb d_M_does_312 (by decide) ?_
                          exact hret _ ls _ _ (nmb g 304 siz) d_M_does_350 (do_n hg (by omega) (mr_89 h298)) (by rw [← mm_81 (o := o) (A := gv g 256 16) (B := gv g 272 16) (by omega) (by omega)]; exact hP) hS
                      · refine lv_aload_n hx hb d_M_does_281 rfl (lv_at hl 0 rfl) ?_
                        refine lv_sipush (v := nI 304) hx hb d_M_does_282 (by decide) ?_
                        refine lv_aload_n hx hb d_M_does_285 rfl (lv_at hl 0 rfl) ?_
                        refine va_get (D := E.1) (ci := 8) (v := .int (nI ctr)) (C := "WideStackModel") (T := T_M) (N := 15) hx hb hts in_M hown hK hP 0 rfl rfl 5 (by decide) (hts _ t_752) (fun _ h9 => h9) rfl d_M_does_286 ?_
                        have hnv : ctr < 2147483648 := (by omega)
                        refine k_Vv (As := [.int (nI 304), .int (nI ctr)]) (rest := []) ⟨hx, hb, hml, hown, hts⟩ (c_M_number l E mo mb mm mw mh ml len en gas ctr siz hgt frm ret on ay g hg 304 ctr (by decide) hnv) (k_cwV 2 hts t_942 t_944 t_52 t_71 t_945 (by decide +kernel) ⟨Nat.le_of_ble_eq_true rfl, Nat.le_of_ble_eq_true rfl⟩) hK hG hA hP hD hS [0, 3] rfl (by decide) 0 rfl rfl (fun _ => rfl) rfl hl.1 rfl (Nat.le_of_ble_eq_true rfl) d_M_does_289 ⟨Nat.zero_le _, Nat.zero_le _⟩ (fun u1 H locs hu1 hP hD hS => ?_)
                        have hP : va_P E.1 vwCl [(mo, .inr (8, [.int (nI len), .ref mb, .int (kb on), .int (nI en), .int (nI gas), .int (nI ctr), .int (nI siz), .int (nI hgt), .int (nI frm), .int (nI ret), .ref mm, .ref mw, .ref mh, .ref ml, .int (kb ay)])), (mb, .inl (E.2.1 0, 96, .inl (nF nb))), (mm, .inl (E.2.1 0, 160, .inl (nF mem))), (mw, .inl (E.2.1 0, 370, .inl (nF (nmb g 304 ctr))))] H := hP
                        have hD : va_D A [(mo, .inr (8, [.int (nI len), .ref mb, .int (kb on), .int (nI en), .int (nI gas), .int (nI ctr), .int (nI siz), .int (nI hgt), .int (nI frm), .int (nI ret), .ref mm, .ref mw, .ref mh, .ref ml, .int (kb ay)])), (mb, .inl (E.2.1 0, 96, .inl (nF nb))), (mm, .inl (E.2.1 0, 160, .inl (nF mem))), (mw, .inl (E.2.1 0, 370, .inl (nF (nmb g 304 ctr))))] := hD
                        refine lv_goto (tgt := 350) hx hb d_M_does_292 (by decide) ?_
                        exact hret _ ls _ _ (nmb g 304 ctr) d_M_does_350 (do_n hg (by omega) (mr_88 h278)) (by rw [← mm_81 (o := o) (A := gv g 256 16) (B := gv g 272 16) (by omega) (by omega)]; exact hP) hS
                    · refine lv_aload_n hx hb d_M_does_267 rfl (lv_at hl 0 rfl) ?_
                      refine lv_iload_n hx hb d_M_does_268 rfl (lv_at hl 1 rfl) ?_
                      refine k_Vv (As := [.int (nI o)]) (rest := []) ⟨hx, hb, hml, hown, hts⟩ (c_M_remembers l E mo mb mm mw mh ml len en gas ctr siz hgt frm ret on ay g hg mem hm o (by omega) hu0) (k_cwV 1 hts t_958 t_960 t_56 t_71 t_961 (by decide +kernel) ⟨Nat.le_of_ble_eq_true rfl, Nat.le_of_ble_eq_true rfl⟩) hK hG hA hP hD hS [0, 2, 3] rfl (by decide) 0 rfl rfl (fun _ => rfl) rfl hl.1 rfl (Nat.le_of_ble_eq_true rfl) d_M_does_269 ⟨Nat.zero_le _, Nat.zero_le _⟩ (fun u1 H locs hu1 hP hD hS => ?_)
                      have hP : va_P E.1 vwCl [(mo, .inr (8, [.int (nI len), .ref mb, .int (kb on), .int (nI en), .int (nI gas), .int (nI ctr), .int (nI siz), .int (nI hgt), .int (nI frm), .int (nI ret), .ref mm, .ref mw, .ref mh, .ref ml, .int (kb ay)])), (mb, .inl (E.2.1 0, 96, .inl (nF nb))), (mm, .inl (E.2.1 0, 160, .inl (nF (m_mem o (gv g 256 16) (gv g 272 16) mem)))), (mw, .inl (E.2.1 0, 370, .inl (nF u1)))] H := hP
                      have hD : va_D A [(mo, .inr (8, [.int (nI len), .ref mb, .int (kb on), .int (nI en), .int (nI gas), .int (nI ctr), .int (nI siz), .int (nI hgt), .int (nI frm), .int (nI ret), .ref mm, .ref mw, .ref mh, .ref ml, .int (kb ay)])), (mb, .inl (E.2.1 0, 96, .inl (nF nb))), (mm, .inl (E.2.1 0, 160, .inl (nF (m_mem o (gv g 256 16) (gv g 272 16) mem)))), (mw, .inl (E.2.1 0, 370, .inl (nF u1)))] := hD
                      refine lv_goto (tgt := 350) hx hb d_M_does_272 (by decide) ?_
                      exact hret _ ls _ _ (u1) d_M_does_350 (do_f (fun q => by by_cases q1 : o = 81; exact (hu1.1 q1).trans (mr_81 q1); exact absurd q (fun q => mg_83 (by omega) q)) hu1.2.1 hu1.2.2) hP hS
                · refine lv_aload_n hx hb d_M_does_207 rfl (lv_at hl 0 rfl) ?_
                  refine lv_aload_n hx hb d_M_does_208 rfl (lv_at hl 0 rfl) ?_
                  refine lv_sipush (v := nI 256) hx hb d_M_does_209 (by decide) ?_
                  refine k_Vp (As := [.int (nI 256)]) (rest := [.ref mo]) ⟨hx, hb, hml, hown, hts⟩ (c_M_small l E mo mb mm mw mh ml len en gas ctr siz hgt frm ret on ay g hg 256 (by decide)) (k_cwV 1 hts t_857 t_859 t_32 t_71 t_860 (by decide +kernel) ⟨Nat.le_of_ble_eq_true rfl, Nat.le_of_ble_eq_true rfl⟩) hK hG hA hP hD hS [0, 3] rfl (by decide) 0 rfl rfl rfl hl.1 rfl (Nat.le_of_ble_eq_true rfl) d_M_does_212 ⟨Nat.zero_le _, Nat.zero_le _⟩ (fun r212 hu212 => ?_)
                  subst hu212
                  refine lv_sipush (v := nI 255) hx hb d_M_does_215 (by decide) ?_
                  refine kn_le (tgt := 227) hx hb (by omega) (by omega) d_M_does_218 (by decide) (fun h218 => ?_) (fun h218 => ?_)
                  · refine lv_aload_n hx hb d_M_does_227 rfl (lv_at hl 0 rfl) ?_
                    refine lv_sipush (v := nI 256) hx hb d_M_does_228 (by decide) ?_
                    refine k_Vp (As := [.int (nI 256)]) (rest := [.ref mo]) ⟨hx, hb, hml, hown, hts⟩ (c_M_small l E mo mb mm mw mh ml len en gas ctr siz hgt frm ret on ay g hg 256 (by decide)) (k_cwV 1 hts t_857 t_859 t_32 t_71 t_860 (by decide +kernel) ⟨Nat.le_of_ble_eq_true rfl, Nat.le_of_ble_eq_true rfl⟩) hK hG hA hP hD hS [0, 3] rfl (by decide) 0 rfl rfl rfl hl.1 rfl (Nat.le_of_ble_eq_true rfl) d_M_does_231 ⟨Nat.zero_le _, Nat.zero_le _⟩ (fun r231 hu231 => ?_)
                    subst hu231
                    refine lv_aload_n hx hb d_M_does_234 rfl (lv_at hl 0 rfl) ?_
                    refine lv_sipush (v := nI 272) hx hb d_M_does_235 (by decide) ?_
                    refine k_Vp (As := [.int (nI 272)]) (rest := [.int (nI (min (gv g 256 16) 65535)), .ref mo]) ⟨hx, hb, hml, hown, hts⟩ (c_M_isNegative l E mo mb mm mw mh ml len en gas ctr siz hgt frm ret on ay g hg 272 (by decide)) (k_cwV 1 hts t_922 t_924 t_47 t_71 t_925 (by decide +kernel) ⟨Nat.le_of_ble_eq_true rfl, Nat.le_of_ble_eq_true rfl⟩) hK hG hA hP hD hS [0, 3] rfl (by decide) 0 rfl rfl rfl hl.1 rfl (Nat.le_of_ble_eq_true rfl) d_M_does_238 ⟨Nat.zero_le _, Nat.zero_le _⟩ (fun r238 hu238 => ?_)
                    subst hu238
                    refine lv_if_eq (tgt := 248) hx hb d_M_does_241 (by decide) (fun h241 => ?_) (fun h241 => ?_)
                    · refine lv_iconst (v := nI 0) hx hb d_M_does_248 (by decide) ?_
                      refine k_Vv (As := [.int (nI (min (gv g 256 16) 65535)), .int (nI 0)]) (rest := []) ⟨hx, hb, hml, hown, hts⟩ (c_M_shiftDown l E mo mb mm mw mh ml len en gas ctr siz hgt frm ret on ay g hg (min (gv g 256 16) 65535) 0 (by omega) (by decide)) (k_cwV 2 hts t_954 t_956 t_55 t_71 t_957 (by decide +kernel) ⟨Nat.le_of_ble_eq_true rfl, Nat.le_of_ble_eq_true rfl⟩) hK hG hA hP hD hS [0, 3] rfl (by decide) 0 rfl rfl (fun _ => rfl) rfl hl.1 rfl (Nat.le_of_ble_eq_true rfl) d_M_does_249 ⟨Nat.zero_le _, Nat.zero_le _⟩ (fun u1 H locs hu1 hP hD hS => ?_)
                      have hP : va_P E.1 vwCl [(mo, .inr (8, [.int (nI len), .ref mb, .int (kb on), .int (nI en), .int (nI gas), .int (nI ctr), .int (nI siz), .int (nI hgt), .int (nI frm), .int (nI ret), .ref mm, .ref mw, .ref mh, .ref ml, .int (kb ay)])), (mb, .inl (E.2.1 0, 96, .inl (nF nb))), (mm, .inl (E.2.1 0, 160, .inl (nF mem))), (mw, .inl (E.2.1 0, 370, .inl (nF u1)))] H := hP
                      have hD : va_D A [(mo, .inr (8, [.int (nI len), .ref mb, .int (kb on), .int (nI en), .int (nI gas), .int (nI ctr), .int (nI siz), .int (nI hgt), .int (nI frm), .int (nI ret), .ref mm, .ref mw, .ref mh, .ref ml, .int (kb ay)])), (mb, .inl (E.2.1 0, 96, .inl (nF nb))), (mm, .inl (E.2.1 0, 160, .inl (nF mem))), (mw, .inl (E.2.1 0, 370, .inl (nF u1)))] := hD
                      refine lv_goto (tgt := 350) hx hb d_M_does_252 (by decide) ?_
                      exact hret _ ls _ _ (u1) d_M_does_350 (do_f (fun _ => (by rw [h204, mo_29]; exact sh_sar0 (gv_lt16 hg 272) (kb_0.mp h241) hu1 (by first | exact Or.inl (min_s h218) | exact Or.inr (min_b h218)) : gv u1 304 16 = m_op o (gv g 256 16) (gv g 272 16) (gv g 288 16)).trans (mr_op (by omega))) hu1.1 hu1.2.1) (by rw [← mm_81 (o := o) (A := gv g 256 16) (B := gv g 272 16) (by omega) (by omega)]; exact hP) hS
                    · refine lv_iconst (v := nI 1) hx hb d_M_does_244 (by decide) ?_
                      refine lv_goto (tgt := 249) hx hb d_M_does_245 (by decide) ?_
                      refine k_Vv (As := [.int (nI (min (gv g 256 16) 65535)), .int (nI 1)]) (rest := []) ⟨hx, hb, hml, hown, hts⟩ (c_M_shiftDown l E mo mb mm mw mh ml len en gas ctr siz hgt frm ret on ay g hg (min (gv g 256 16) 65535) 1 (by omega) (by decide)) (k_cwV 2 hts t_954 t_956 t_55 t_71 t_957 (by decide +kernel) ⟨Nat.le_of_ble_eq_true rfl, Nat.le_of_ble_eq_true rfl⟩) hK hG hA hP hD hS [0, 3] rfl (by decide) 0 rfl rfl (fun _ => rfl) rfl hl.1 rfl (Nat.le_of_ble_eq_true rfl) d_M_does_249 ⟨Nat.zero_le _, Nat.zero_le _⟩ (fun u1 H locs hu1 hP hD hS => ?_)
                      have hP : va_P E.1 vwCl [(mo, .inr (8, [.int (nI len), .ref mb, .int (kb on), .int (nI en), .int (nI gas), .int (nI ctr), .int (nI siz), .int (nI hgt), .int (nI frm), .int (nI ret), .ref mm, .ref mw, .ref mh, .ref ml, .int (kb ay)])), (mb, .inl (E.2.1 0, 96, .inl (nF nb))), (mm, .inl (E.2.1 0, 160, .inl (nF mem))), (mw, .inl (E.2.1 0, 370, .inl (nF u1)))] H := hP
                      have hD : va_D A [(mo, .inr (8, [.int (nI len), .ref mb, .int (kb on), .int (nI en), .int (nI gas), .int (nI ctr), .int (nI siz), .int (nI hgt), .int (nI frm), .int (nI ret), .ref mm, .ref mw, .ref mh, .ref ml, .int (kb ay)])), (mb, .inl (E.2.1 0, 96, .inl (nF nb))), (mm, .inl (E.2.1 0, 160, .inl (nF mem))), (mw, .inl (E.2.1 0, 370, .inl (nF u1)))] := hD
                      refine lv_goto (tgt := 350) hx hb d_M_does_252 (by decide) ?_
                      exact hret _ ls _ _ (u1) d_M_does_350 (do_f (fun _ => (by rw [h204, mo_29]; exact sh_sar1 (gv_lt16 hg 272) (kb_n0 h241) hu1 (by first | exact Or.inl (min_s h218) | exact Or.inr (min_b h218)) : gv u1 304 16 = m_op o (gv g 256 16) (gv g 272 16) (gv g 288 16)).trans (mr_op (by omega))) hu1.1 hu1.2.1) (by rw [← mm_81 (o := o) (A := gv g 256 16) (B := gv g 272 16) (by omega) (by omega)]; exact hP) hS
                  · refine lv_sipush (v := nI 256) hx hb d_M_does_221 (by decide) ?_
                    refine lv_goto (tgt := 234) hx hb d_M_does_224 (by decide) ?_
                    refine lv_aload_n hx hb d_M_does_234 rfl (lv_at hl 0 rfl) ?_
                    refine lv_sipush (v := nI 272) hx hb d_M_does_235 (by decide) ?_
                    refine k_Vp (As := [.int (nI 272)]) (rest := [.int (nI 256), .ref mo]) ⟨hx, hb, hml, hown, hts⟩ (c_M_isNegative l E mo mb mm mw mh ml len en gas ctr siz hgt frm ret on ay g hg 272 (by decide)) (k_cwV 1 hts t_922 t_924 t_47 t_71 t_925 (by decide +kernel) ⟨Nat.le_of_ble_eq_true rfl, Nat.le_of_ble_eq_true rfl⟩) hK hG hA hP hD hS [0, 3] rfl (by decide) 0 rfl rfl rfl hl.1 rfl (Nat.le_of_ble_eq_true rfl) d_M_does_238 ⟨Nat.zero_le _, Nat.zero_le _⟩ (fun r238 hu238 => ?_)
                    subst hu238
                    refine lv_if_eq (tgt := 248) hx hb d_M_does_241 (by decide) (fun h241 => ?_) (fun h241 => ?_)
                    · refine lv_iconst (v := nI 0) hx hb d_M_does_248 (by decide) ?_
                      refine k_Vv (As := [.int (nI 256), .int (nI 0)]) (rest := []) ⟨hx, hb, hml, hown, hts⟩ (c_M_shiftDown l E mo mb mm mw mh ml len en gas ctr siz hgt frm ret on ay g hg 256 0 (by omega) (by decide)) (k_cwV 2 hts t_954 t_956 t_55 t_71 t_957 (by decide +kernel) ⟨Nat.le_of_ble_eq_true rfl, Nat.le_of_ble_eq_true rfl⟩) hK hG hA hP hD hS [0, 3] rfl (by decide) 0 rfl rfl (fun _ => rfl) rfl hl.1 rfl (Nat.le_of_ble_eq_true rfl) d_M_does_249 ⟨Nat.zero_le _, Nat.zero_le _⟩ (fun u1 H locs hu1 hP hD hS => ?_)
                      have hP : va_P E.1 vwCl [(mo, .inr (8, [.int (nI len), .ref mb, .int (kb on), .int (nI en), .int (nI gas), .int (nI ctr), .int (nI siz), .int (nI hgt), .int (nI frm), .int (nI ret), .ref mm, .ref mw, .ref mh, .ref ml, .int (kb ay)])), (mb, .inl (E.2.1 0, 96, .inl (nF nb))), (mm, .inl (E.2.1 0, 160, .inl (nF mem))), (mw, .inl (E.2.1 0, 370, .inl (nF u1)))] H := hP
                      have hD : va_D A [(mo, .inr (8, [.int (nI len), .ref mb, .int (kb on), .int (nI en), .int (nI gas), .int (nI ctr), .int (nI siz), .int (nI hgt), .int (nI frm), .int (nI ret), .ref mm, .ref mw, .ref mh, .ref ml, .int (kb ay)])), (mb, .inl (E.2.1 0, 96, .inl (nF nb))), (mm, .inl (E.2.1 0, 160, .inl (nF mem))), (mw, .inl (E.2.1 0, 370, .inl (nF u1)))] := hD
                      refine lv_goto (tgt := 350) hx hb d_M_does_252 (by decide) ?_
                      exact hret _ ls _ _ (u1) d_M_does_350 (do_f (fun _ => (by rw [h204, mo_29]; exact sh_sar0 (gv_lt16 hg 272) (kb_0.mp h241) hu1 (by first | exact Or.inl (min_s h218) | exact Or.inr (min_b h218)) : gv u1 304 16 = m_op o (gv g 256 16) (gv g 272 16) (gv g 288 16)).trans (mr_op (by omega))) hu1.1 hu1.2.1) (by rw [← mm_81 (o := o) (A := gv g 256 16) (B := gv g 272 16) (by omega) (by omega)]; exact hP) hS
                    · refine lv_iconst (v := nI 1) hx hb d_M_does_244 (by decide) ?_
                      refine lv_goto (tgt := 249) hx hb d_M_does_245 (by decide) ?_
                      refine k_Vv (As := [.int (nI 256), .int (nI 1)]) (rest := []) ⟨hx, hb, hml, hown, hts⟩ (c_M_shiftDown l E mo mb mm mw mh ml len en gas ctr siz hgt frm ret on ay g hg 256 1 (by omega) (by decide)) (k_cwV 2 hts t_954 t_956 t_55 t_71 t_957 (by decide +kernel) ⟨Nat.le_of_ble_eq_true rfl, Nat.le_of_ble_eq_true rfl⟩) hK hG hA hP hD hS [0, 3] rfl (by decide) 0 rfl rfl (fun _ => rfl) rfl hl.1 rfl (Nat.le_of_ble_eq_true rfl) d_M_does_249 ⟨Nat.zero_le _, Nat.zero_le _⟩ (fun u1 H locs hu1 hP hD hS => ?_)
                      have hP : va_P E.1 vwCl [(mo, .inr (8, [.int (nI len), .ref mb, .int (kb on), .int (nI en), .int (nI gas), .int (nI ctr), .int (nI siz), .int (nI hgt), .int (nI frm), .int (nI ret), .ref mm, .ref mw, .ref mh, .ref ml, .int (kb ay)])), (mb, .inl (E.2.1 0, 96, .inl (nF nb))), (mm, .inl (E.2.1 0, 160, .inl (nF mem))), (mw, .inl (E.2.1 0, 370, .inl (nF u1)))] H := hP
                      have hD : va_D A [(mo, .inr (8, [.int (nI len), .ref mb, .int (kb on), .int (nI en), .int (nI gas), .int (nI ctr), .int (nI siz), .int (nI hgt), .int (nI frm), .int (nI ret), .ref mm, .ref mw, .ref mh, .ref ml, .int (kb ay)])), (mb, .inl (E.2.1 0, 96, .inl (nF nb))), (mm, .inl (E.2.1 0, 160, .inl (nF mem))), (mw, .inl (E.2.1 0, 370, .inl (nF u1)))] := hD
                      refine lv_goto (tgt := 350) hx hb d_M_does_252 (by decide) ?_
                      exact hret _ ls _ _ (u1) d_M_does_350 (do_f (fun _ => (by rw [h204, mo_29]; exact sh_sar1 (gv_lt16 hg 272) (kb_n0 h241) hu1 (by first | exact Or.inl (min_s h218) | exact Or.inr (min_b h218)) : gv u1 304 16 = m_op o (gv g 256 16) (gv g 272 16) (gv g 288 16)).trans (mr_op (by omega))) hu1.1 hu1.2.1) (by rw [← mm_81 (o := o) (A := gv g 256 16) (B := gv g 272 16) (by omega) (by omega)]; exact hP) hS
              · refine lv_aload_n hx hb d_M_does_167 rfl (lv_at hl 0 rfl) ?_
                refine lv_aload_n hx hb d_M_does_168 rfl (lv_at hl 0 rfl) ?_
                refine lv_sipush (v := nI 256) hx hb d_M_does_169 (by decide) ?_
                refine k_Vp (As := [.int (nI 256)]) (rest := [.ref mo]) ⟨hx, hb, hml, hown, hts⟩ (c_M_small l E mo mb mm mw mh ml len en gas ctr siz hgt frm ret on ay g hg 256 (by decide)) (k_cwV 1 hts t_857 t_859 t_32 t_71 t_860 (by decide +kernel) ⟨Nat.le_of_ble_eq_true rfl, Nat.le_of_ble_eq_true rfl⟩) hK hG hA hP hD hS [0, 3] rfl (by decide) 0 rfl rfl rfl hl.1 rfl (Nat.le_of_ble_eq_true rfl) d_M_does_172 ⟨Nat.zero_le _, Nat.zero_le _⟩ (fun r172 hu172 => ?_)
                subst hu172
                refine lv_sipush (v := nI 255) hx hb d_M_does_175 (by decide) ?_
                refine kn_le (tgt := 187) hx hb (by omega) (by omega) d_M_does_178 (by decide) (fun h178 => ?_) (fun h178 => ?_)
                · refine lv_aload_n hx hb d_M_does_187 rfl (lv_at hl 0 rfl) ?_
                  refine lv_sipush (v := nI 256) hx hb d_M_does_188 (by decide) ?_
                  refine k_Vp (As := [.int (nI 256)]) (rest := [.ref mo]) ⟨hx, hb, hml, hown, hts⟩ (c_M_small l E mo mb mm mw mh ml len en gas ctr siz hgt frm ret on ay g hg 256 (by decide)) (k_cwV 1 hts t_857 t_859 t_32 t_71 t_860 (by decide +kernel) ⟨Nat.le_of_ble_eq_true rfl, Nat.le_of_ble_eq_true rfl⟩) hK hG hA hP hD hS [0, 3] rfl (by decide) 0 rfl rfl rfl hl.1 rfl (Nat.le_of_ble_eq_true rfl) d_M_does_191 ⟨Nat.zero_le _, Nat.zero_le _⟩ (fun r191 hu191 => ?_)
                  subst hu191
                  refine lv_iconst (v := nI 0) hx hb d_M_does_194 (by decide) ?_
                  refine k_Vv (As := [.int (nI (min (gv g 256 16) 65535)), .int (nI 0)]) (rest := []) ⟨hx, hb, hml, hown, hts⟩ (c_M_shiftDown l E mo mb mm mw mh ml len en gas ctr siz hgt frm ret on ay g hg (min (gv g 256 16) 65535) 0 (by omega) (by decide)) (k_cwV 2 hts t_954 t_956 t_55 t_71 t_957 (by decide +kernel) ⟨Nat.le_of_ble_eq_true rfl, Nat.le_of_ble_eq_true rfl⟩) hK hG hA hP hD hS [0, 3] rfl (by decide) 0 rfl rfl (fun _ => rfl) rfl hl.1 rfl (Nat.le_of_ble_eq_true rfl) d_M_does_195 ⟨Nat.zero_le _, Nat.zero_le _⟩ (fun u1 H locs hu1 hP hD hS => ?_)
                  have hP : va_P E.1 vwCl [(mo, .inr (8, [.int (nI len), .ref mb, .int (kb on), .int (nI en), .int (nI gas), .int (nI ctr), .int (nI siz), .int (nI hgt), .int (nI frm), .int (nI ret), .ref mm, .ref mw, .ref mh, .ref ml, .int (kb ay)])), (mb, .inl (E.2.1 0, 96, .inl (nF nb))), (mm, .inl (E.2.1 0, 160, .inl (nF mem))), (mw, .inl (E.2.1 0, 370, .inl (nF u1)))] H := hP
                  have hD : va_D A [(mo, .inr (8, [.int (nI len), .ref mb, .int (kb on), .int (nI en), .int (nI gas), .int (nI ctr), .int (nI siz), .int (nI hgt), .int (nI frm), .int (nI ret), .ref mm, .ref mw, .ref mh, .ref ml, .int (kb ay)])), (mb, .inl (E.2.1 0, 96, .inl (nF nb))), (mm, .inl (E.2.1 0, 160, .inl (nF mem))), (mw, .inl (E.2.1 0, 370, .inl (nF u1)))] := hD
                  refine lv_goto (tgt := 350) hx hb d_M_does_198 (by decide) ?_
                  exact hret _ ls _ _ (u1) d_M_does_350 (do_f (fun _ => (by rw [h164, mo_28]; exact sh_shr (gv_lt16 hg 272) hu1 (by first | exact Or.inl (min_s h178) | exact Or.inr (min_b h178)) : gv u1 304 16 = m_op o (gv g 256 16) (gv g 272 16) (gv g 288 16)).trans (mr_op (by omega))) hu1.1 hu1.2.1) (by rw [← mm_81 (o := o) (A := gv g 256 16) (B := gv g 272 16) (by omega) (by omega)]; exact hP) hS
                · refine lv_sipush (v := nI 256) hx hb d_M_does_181 (by decide) ?_
                  refine lv_goto (tgt := 194) hx hb d_M_does_184 (by decide) ?_
                  refine lv_iconst (v := nI 0) hx hb d_M_does_194 (by decide) ?_
                  refine k_Vv (As := [.int (nI 256), .int (nI 0)]) (rest := []) ⟨hx, hb, hml, hown, hts⟩ (c_M_shiftDown l E mo mb mm mw mh ml len en gas ctr siz hgt frm ret on ay g hg 256 0 (by omega) (by decide)) (k_cwV 2 hts t_954 t_956 t_55 t_71 t_957 (by decide +kernel) ⟨Nat.le_of_ble_eq_true rfl, Nat.le_of_ble_eq_true rfl⟩) hK hG hA hP hD hS [0, 3] rfl (by decide) 0 rfl rfl (fun _ => rfl) rfl hl.1 rfl (Nat.le_of_ble_eq_true rfl) d_M_does_195 ⟨Nat.zero_le _, Nat.zero_le _⟩ (fun u1 H locs hu1 hP hD hS => ?_)
                  have hP : va_P E.1 vwCl [(mo, .inr (8, [.int (nI len), .ref mb, .int (kb on), .int (nI en), .int (nI gas), .int (nI ctr), .int (nI siz), .int (nI hgt), .int (nI frm), .int (nI ret), .ref mm, .ref mw, .ref mh, .ref ml, .int (kb ay)])), (mb, .inl (E.2.1 0, 96, .inl (nF nb))), (mm, .inl (E.2.1 0, 160, .inl (nF mem))), (mw, .inl (E.2.1 0, 370, .inl (nF u1)))] H := hP
                  have hD : va_D A [(mo, .inr (8, [.int (nI len), .ref mb, .int (kb on), .int (nI en), .int (nI gas), .int (nI ctr), .int (nI siz), .int (nI hgt), .int (nI frm), .int (nI ret), .ref mm, .ref mw, .ref mh, .ref ml, .int (kb ay)])), (mb, .inl (E.2.1 0, 96, .inl (nF nb))), (mm, .inl (E.2.1 0, 160, .inl (nF mem))), (mw, .inl (E.2.1 0, 370, .inl (nF u1)))] := hD
                  refine lv_goto (tgt := 350) hx hb d_M_does_198 (by decide) ?_
                  exact hret _ ls _ _ (u1) d_M_does_350 (do_f (fun _ => (by rw [h164, mo_28]; exact sh_shr (gv_lt16 hg 272) hu1 (by first | exact Or.inl (min_s h178) | exact Or.inr (min_b h178)) : gv u1 304 16 = m_op o (gv g 256 16) (gv g 272 16) (gv g 288 16)).trans (mr_op (by omega))) hu1.1 hu1.2.1) (by rw [← mm_81 (o := o) (A := gv g 256 16) (B := gv g 272 16) (by omega) (by omega)]; exact hP) hS
            · refine lv_aload_n hx hb d_M_does_126 rfl (lv_at hl 0 rfl) ?_
              refine lv_aload_n hx hb d_M_does_127 rfl (lv_at hl 0 rfl) ?_
              refine lv_sipush (v := nI 256) hx hb d_M_does_128 (by decide) ?_
              refine k_Vp (As := [.int (nI 256)]) (rest := [.ref mo]) ⟨hx, hb, hml, hown, hts⟩ (c_M_small l E mo mb mm mw mh ml len en gas ctr siz hgt frm ret on ay g hg 256 (by decide)) (k_cwV 1 hts t_857 t_859 t_32 t_71 t_860 (by decide +kernel) ⟨Nat.le_of_ble_eq_true rfl, Nat.le_of_ble_eq_true rfl⟩) hK hG hA hP hD hS [0, 3] rfl (by decide) 0 rfl rfl rfl hl.1 rfl (Nat.le_of_ble_eq_true rfl) d_M_does_131 ⟨Nat.zero_le _, Nat.zero_le _⟩ (fun r131 hu131 => ?_)
              subst hu131
              refine lv_sipush (v := nI 255) hx hb d_M_does_134 (by decide) ?_
              refine kn_le (tgt := 146) hx hb (by omega) (by omega) d_M_does_137 (by decide) (fun h137 => ?_) (fun h137 => ?_)
              · refine lv_aload_n hx hb d_M_does_146 rfl (lv_at hl 0 rfl) ?_
                refine lv_sipush (v := nI 256) hx hb d_M_does_147 (by decide) ?_
                refine k_Vp (As := [.int (nI 256)]) (rest := [.ref mo]) ⟨hx, hb, hml, hown, hts⟩ (c_M_small l E mo mb mm mw mh ml len en gas ctr siz hgt frm ret on ay g hg 256 (by decide)) (k_cwV 1 hts t_857 t_859 t_32 t_71 t_860 (by decide +kernel) ⟨Nat.le_of_ble_eq_true rfl, Nat.le_of_ble_eq_true rfl⟩) hK hG hA hP hD hS [0, 3] rfl (by decide) 0 rfl rfl rfl hl.1 rfl (Nat.le_of_ble_eq_true rfl) d_M_does_150 ⟨Nat.zero_le _, Nat.zero_le _⟩ (fun r150 hu150 => ?_)
                subst hu150
                refine lv_ineg hx hb d_M_does_153 ?_
                refine lv_iconst (v := nI 0) hx hb d_M_does_154 (by decide) ?_
                refine k_Vv (As := [.int (-(nI (min (gv g 256 16) 65535))), .int (nI 0)]) (rest := []) ⟨hx, hb, hml, hown, hts⟩ (c_M_shiftUp l E mo mb mm mw mh ml len en gas ctr siz hgt frm ret on ay g hg (min (gv g 256 16) 65535) 0 (by omega) (by decide)) (k_cwV 2 hts t_954 t_956 t_55 t_71 t_957 (by decide +kernel) ⟨Nat.le_of_ble_eq_true rfl, Nat.le_of_ble_eq_true rfl⟩) hK hG hA hP hD hS [0, 3] rfl (by decide) 0 rfl rfl (fun _ => rfl) rfl hl.1 rfl (Nat.le_of_ble_eq_true rfl) d_M_does_155 ⟨Nat.zero_le _, Nat.zero_le _⟩ (fun u1 H locs hu1 hP hD hS => ?_)
                have hP : va_P E.1 vwCl [(mo, .inr (8, [.int (nI len), .ref mb, .int (kb on), .int (nI en), .int (nI gas), .int (nI ctr), .int (nI siz), .int (nI hgt), .int (nI frm), .int (nI ret), .ref mm, .ref mw, .ref mh, .ref ml, .int (kb ay)])), (mb, .inl (E.2.1 0, 96, .inl (nF nb))), (mm, .inl (E.2.1 0, 160, .inl (nF mem))), (mw, .inl (E.2.1 0, 370, .inl (nF u1)))] H := hP
                have hD : va_D A [(mo, .inr (8, [.int (nI len), .ref mb, .int (kb on), .int (nI en), .int (nI gas), .int (nI ctr), .int (nI siz), .int (nI hgt), .int (nI frm), .int (nI ret), .ref mm, .ref mw, .ref mh, .ref ml, .int (kb ay)])), (mb, .inl (E.2.1 0, 96, .inl (nF nb))), (mm, .inl (E.2.1 0, 160, .inl (nF mem))), (mw, .inl (E.2.1 0, 370, .inl (nF u1)))] := hD
                refine lv_goto (tgt := 350) hx hb d_M_does_158 (by decide) ?_
                exact hret _ ls _ _ (u1) d_M_does_350 (do_f (fun _ => (by rw [h123, mo_27]; exact sh_shl hu1 (by first | exact Or.inl (min_s h137) | exact Or.inr (min_b h137)) : gv u1 304 16 = m_op o (gv g 256 16) (gv g 272 16) (gv g 288 16)).trans (mr_op (by omega))) hu1.1 hu1.2.1) (by rw [← mm_81 (o := o) (A := gv g 256 16) (B := gv g 272 16) (by omega) (by omega)]; exact hP) hS
              · refine lv_sipush (v := -256) hx hb d_M_does_140 (by decide) ?_
                refine k_top (y := -(nI 256)) (by decide) ?_
                refine lv_goto (tgt := 154) hx hb d_M_does_143 (by decide) ?_
                refine lv_iconst (v := nI 0) hx hb d_M_does_154 (by decide) ?_
                refine k_Vv (As := [.int (-(nI 256)), .int (nI 0)]) (rest := []) ⟨hx, hb, hml, hown, hts⟩ (c_M_shiftUp l E mo mb mm mw mh ml len en gas ctr siz hgt frm ret on ay g hg 256 0 (by omega) (by decide)) (k_cwV 2 hts t_954 t_956 t_55 t_71 t_957 (by decide +kernel) ⟨Nat.le_of_ble_eq_true rfl, Nat.le_of_ble_eq_true rfl⟩) hK hG hA hP hD hS [0, 3] rfl (by decide) 0 rfl rfl (fun _ => rfl) rfl hl.1 rfl (Nat.le_of_ble_eq_true rfl) d_M_does_155 ⟨Nat.zero_le _, Nat.zero_le _⟩ (fun u1 H locs hu1 hP hD hS => ?_)
                have hP : va_P E.1 vwCl [(mo, .inr (8, [.int (nI len), .ref mb, .int (kb on), .int (nI en), .int (nI gas), .int (nI ctr), .int (nI siz), .int (nI hgt), .int (nI frm), .int (nI ret), .ref mm, .ref mw, .ref mh, .ref ml, .int (kb ay)])), (mb, .inl (E.2.1 0, 96, .inl (nF nb))), (mm, .inl (E.2.1 0, 160, .inl (nF mem))), (mw, .inl (E.2.1 0, 370, .inl (nF u1)))] H := hP
                have hD : va_D A [(mo, .inr (8, [.int (nI len), .ref mb, .int (kb on), .int (nI en), .int (nI gas), .int (nI ctr), .int (nI siz), .int (nI hgt), .int (nI frm), .int (nI ret), .ref mm, .ref mw, .ref mh, .ref ml, .int (kb ay)])), (mb, .inl (E.2.1 0, 96, .inl (nF nb))), (mm, .inl (E.2.1 0, 160, .inl (nF mem))), (mw, .inl (E.2.1 0, 370, .inl (nF u1)))] := hD
                refine lv_goto (tgt := 350) hx hb d_M_does_158 (by decide) ?_
                exact hret _ ls _ _ (u1) d_M_does_350 (do_f (fun _ => (by rw [h123, mo_27]; exact sh_shl hu1 (by first | exact Or.inl (min_s h137) | exact Or.inr (min_b h137)) : gv u1 304 16 = m_op o (gv g 256 16) (gv g 272 16) (gv g 288 16)).trans (mr_op (by omega))) hu1.1 hu1.2.1) (by rw [← mm_81 (o := o) (A := gv g 256 16) (B := gv g 272 16) (by omega) (by omega)]; exact hP) hS
          · refine lv_aload_n hx hb d_M_does_80 rfl (lv_at hl 0 rfl) ?_
            refine lv_sipush (v := nI 304) hx hb d_M_does_81 (by decide) ?_
            refine lv_aload_n hx hb d_M_does_84 rfl (lv_at hl 0 rfl) ?_
            refine lv_sipush (v := nI 256) hx hb d_M_does_85 (by decide) ?_
            refine k_Vp (As := [.int (nI 256)]) (rest := [.int (nI 304), .ref mo]) ⟨hx, hb, hml, hown, hts⟩ (c_M_small l E mo mb mm mw mh ml len en gas ctr siz hgt frm ret on ay g hg 256 (by decide)) (k_cwV 1 hts t_857 t_859 t_32 t_71 t_860 (by decide +kernel) ⟨Nat.le_of_ble_eq_true rfl, Nat.le_of_ble_eq_true rfl⟩) hK hG hA hP hD hS [0, 3] rfl (by decide) 0 rfl rfl rfl hl.1 rfl (Nat.le_of_ble_eq_true rfl) d_M_does_88 ⟨Nat.zero_le _, Nat.zero_le _⟩ (fun r88 hu88 => ?_)
            subst hu88
            refine lv_bipush (v := nI 31) hx hb d_M_does_91 (by decide) ?_
            refine kn_le (tgt := 100) hx hb (by omega) (by omega) d_M_does_93 (by decide) (fun h93 => ?_) (fun h93 => ?_)
            · refine lv_aload_n hx hb d_M_does_100 rfl (lv_at hl 0 rfl) ?_
              refine lv_sipush (v := nI 272) hx hb d_M_does_101 (by decide) ?_
              refine lv_aload_n hx hb d_M_does_104 rfl (lv_at hl 0 rfl) ?_
              refine lv_sipush (v := nI 256) hx hb d_M_does_105 (by decide) ?_
              refine k_Vp (As := [.int (nI 256)]) (rest := [.int (nI 272), .ref mo, .int (nI 304), .ref mo]) ⟨hx, hb, hml, hown, hts⟩ (c_M_small l E mo mb mm mw mh ml len en gas ctr siz hgt frm ret on ay g hg 256 (by decide)) (k_cwV 1 hts t_857 t_859 t_32 t_71 t_860 (by decide +kernel) ⟨Nat.le_of_ble_eq_true rfl, Nat.le_of_ble_eq_true rfl⟩) hK hG hA hP hD hS [0, 3] rfl (by decide) 0 rfl rfl rfl hl.1 rfl (Nat.le_of_ble_eq_true rfl) d_M_does_108 ⟨Nat.zero_le _, Nat.zero_le _⟩ (fun r108 hu108 => ?_)
              subst hu108
              refine k_Vp (As := [.int (nI 272), .int (nI (min (gv g 256 16) 65535))]) (rest := [.int (nI 304), .ref mo]) ⟨hx, hb, hml, hown, hts⟩ (c_M_byteOf l E mo mb mm mw mh ml len en gas ctr siz hgt frm ret on ay g hg 272 (min (gv g 256 16) 65535) (by decide) (by omega)) (k_cwV 2 hts t_950 t_952 t_54 t_71 t_953 (by decide +kernel) ⟨Nat.le_of_ble_eq_true rfl, Nat.le_of_ble_eq_true rfl⟩) hK hG hA hP hD hS [0, 3] rfl (by decide) 0 rfl rfl rfl hl.1 rfl (Nat.le_of_ble_eq_true rfl) d_M_does_111 ⟨Nat.zero_le _, Nat.zero_le _⟩ (fun r111 hu111 => ?_)
              subst hu111
              have hnv : (m_byte (min (gv g 256 16) 65535) (gv g 272 16)) < 2147483648 := (Nat.lt_trans (byte_b _ _) (by decide))
              refine k_Vv (As := [.int (nI 304), .int (nI (m_byte (min (gv g 256 16) 65535) (gv g 272 16)))]) (rest := []) ⟨hx, hb, hml, hown, hts⟩ (c_M_number l E mo mb mm mw mh ml len en gas ctr siz hgt frm ret on ay g hg 304 (m_byte (min (gv g 256 16) 65535) (gv g 272 16)) (by decide) hnv) (k_cwV 2 hts t_942 t_944 t_52 t_71 t_945 (by decide +kernel) ⟨Nat.le_of_ble_eq_true rfl, Nat.le_of_ble_eq_true rfl⟩) hK hG hA hP hD hS [0, 3] rfl (by decide) 0 rfl rfl (fun _ => rfl) rfl hl.1 rfl (Nat.le_of_ble_eq_true rfl) d_M_does_114 ⟨Nat.zero_le _, Nat.zero_le _⟩ (fun u1 H locs hu1 hP hD hS => ?_)
              have hP : va_P E.1 vwCl [(mo, .inr (8, [.int (nI len), .ref mb, .int (kb on), .int (nI en), .int (nI gas), .int (nI ctr), .int (nI siz), .int (nI hgt), .int (nI frm), .int (nI ret), .ref mm, .ref mw, .ref mh, .ref ml, .int (kb ay)])), (mb, .inl (E.2.1 0, 96, .inl (nF nb))), (mm, .inl (E.2.1 0, 160, .inl (nF mem))), (mw, .inl (E.2.1 0, 370, .inl (nF (nmb g 304 (m_byte (min (gv g 256 16) 65535) (gv g 272 16))))))] H := hP
              have hD : va_D A [(mo, .inr (8, [.int (nI len), .ref mb, .int (kb on), .int (nI en), .int (nI gas), .int (nI ctr), .int (nI siz), .int (nI hgt), .int (nI frm), .int (nI ret), .ref mm, .ref mw, .ref mh, .ref ml, .int (kb ay)])), (mb, .inl (E.2.1 0, 96, .inl (nF nb))), (mm, .inl (E.2.1 0, 160, .inl (nF mem))), (mw, .inl (E.2.1 0, 370, .inl (nF (nmb g 304 (m_byte (min (gv g 256 16) 65535) (gv g 272 16))))))] := hD
              refine lv_goto (tgt := 350) hx hb d_M_does_117 (by decide) ?_
              exact hret _ ls _ _ (nmb g 304 (m_byte (min (gv g 256 16) 65535) (gv g 272 16))) d_M_does_350 (do_n hg (Nat.lt_trans hnv (by decide)) ((by rw [h77, mo_26]; first | exact byt_min h93 | exact byt_big h93 : m_byte (min (gv g 256 16) 65535) (gv g 272 16) = m_op o (gv g 256 16) (gv g 272 16) (gv g 288 16)).trans (mr_op (by omega)))) (by rw [← mm_81 (o := o) (A := gv g 256 16) (B := gv g 272 16) (by omega) (by omega)]; exact hP) hS
            · refine lv_iconst (v := nI 0) hx hb d_M_does_96 (by decide) ?_
              refine lv_goto (tgt := 114) hx hb d_M_does_97 (by decide) ?_
              have hnv : 0 < 2147483648 := (by omega)
              refine k_Vv (As := [.int (nI 304), .int (nI 0)]) (rest := []) ⟨hx, hb, hml, hown, hts⟩ (c_M_number l E mo mb mm mw mh ml len en gas ctr siz hgt frm ret on ay g hg 304 0 (by decide) hnv) (k_cwV 2 hts t_942 t_944 t_52 t_71 t_945 (by decide +kernel) ⟨Nat.le_of_ble_eq_true rfl, Nat.le_of_ble_eq_true rfl⟩) hK hG hA hP hD hS [0, 3] rfl (by decide) 0 rfl rfl (fun _ => rfl) rfl hl.1 rfl (Nat.le_of_ble_eq_true rfl) d_M_does_114 ⟨Nat.zero_le _, Nat.zero_le _⟩ (fun u1 H locs hu1 hP hD hS => ?_)
              have hP : va_P E.1 vwCl [(mo, .inr (8, [.int (nI len), .ref mb, .int (kb on), .int (nI en), .int (nI gas), .int (nI ctr), .int (nI siz), .int (nI hgt), .int (nI frm), .int (nI ret), .ref mm, .ref mw, .ref mh, .ref ml, .int (kb ay)])), (mb, .inl (E.2.1 0, 96, .inl (nF nb))), (mm, .inl (E.2.1 0, 160, .inl (nF mem))), (mw, .inl (E.2.1 0, 370, .inl (nF (nmb g 304 0))))] H := hP
              have hD : va_D A [(mo, .inr (8, [.int (nI len), .ref mb, .int (kb on), .int (nI en), .int (nI gas), .int (nI ctr), .int (nI siz), .int (nI hgt), .int (nI frm), .int (nI ret), .ref mm, .ref mw, .ref mh, .ref ml, .int (kb ay)])), (mb, .inl (E.2.1 0, 96, .inl (nF nb))), (mm, .inl (E.2.1 0, 160, .inl (nF mem))), (mw, .inl (E.2.1 0, 370, .inl (nF (nmb g 304 0))))] := hD
              refine lv_goto (tgt := 350) hx hb d_M_does_117 (by decide) ?_
              exact hret _ ls _ _ (nmb g 304 0) d_M_does_350 (do_n hg (Nat.lt_trans hnv (by decide)) ((by rw [h77, mo_26]; first | exact byt_min h93 | exact byt_big h93 : 0 = m_op o (gv g 256 16) (gv g 272 16) (gv g 288 16)).trans (mr_op (by omega)))) (by rw [← mm_81 (o := o) (A := gv g 256 16) (B := gv g 272 16) (by omega) (by omega)]; exact hP) hS
        · refine lv_aload_n hx hb d_M_does_66 rfl (lv_at hl 0 rfl) ?_
          refine lv_iload_n hx hb d_M_does_67 rfl (lv_at hl 1 rfl) ?_
          refine k_Vv (As := [.int (nI o)]) (rest := []) ⟨hx, hb, hml, hown, hts⟩ (c_M_joins l E mo mb mm mw mh ml len en gas ctr siz hgt frm ret on ay g hg o (by omega)) (k_cwV 1 hts t_946 t_948 t_53 t_71 t_949 (by decide +kernel) ⟨Nat.le_of_ble_eq_true rfl, Nat.le_of_ble_eq_true rfl⟩) hK hG hA hP hD hS [0, 3] rfl (by decide) 0 rfl rfl (fun _ => rfl) rfl hl.1 rfl (Nat.le_of_ble_eq_true rfl) d_M_does_68 ⟨Nat.zero_le _, Nat.zero_le _⟩ (fun u1 H locs hu1 hP hD hS => ?_)
          have hP : va_P E.1 vwCl [(mo, .inr (8, [.int (nI len), .ref mb, .int (kb on), .int (nI en), .int (nI gas), .int (nI ctr), .int (nI siz), .int (nI hgt), .int (nI frm), .int (nI ret), .ref mm, .ref mw, .ref mh, .ref ml, .int (kb ay)])), (mb, .inl (E.2.1 0, 96, .inl (nF nb))), (mm, .inl (E.2.1 0, 160, .inl (nF mem))), (mw, .inl (E.2.1 0, 370, .inl (nF u1)))] H := hP
          have hD : va_D A [(mo, .inr (8, [.int (nI len), .ref mb, .int (kb on), .int (nI en), .int (nI gas), .int (nI ctr), .int (nI siz), .int (nI hgt), .int (nI frm), .int (nI ret), .ref mm, .ref mw, .ref mh, .ref ml, .int (kb ay)])), (mb, .inl (E.2.1 0, 96, .inl (nF nb))), (mm, .inl (E.2.1 0, 160, .inl (nF mem))), (mw, .inl (E.2.1 0, 370, .inl (nF u1)))] := hD
          refine lv_goto (tgt := 350) hx hb d_M_does_71 (by decide) ?_
          exact hret _ ls _ _ (u1) d_M_does_350 (do_f (fun _ => (hu1.1 _).trans (mr_op (by omega))) hu1.2.1 hu1.2.2) (by rw [← mm_81 (o := o) (A := gv g 256 16) (B := gv g 272 16) (by omega) (by omega)]; exact hP) hS
    · refine lv_iload_n hx hb d_M_does_25 rfl (lv_at hl 1 rfl) ?_
      refine lv_bipush (v := nI 21) hx hb d_M_does_26 (by decide) ?_
      refine kn_gt (tgt := 54) hx hb (by omega) (by omega) d_M_does_28 (by decide) (fun h28 => ?_) (fun h28 => ?_)
      · refine lv_iload_n hx hb d_M_does_54 rfl (lv_at hl 1 rfl) ?_
        refine lv_bipush (v := nI 22) hx hb d_M_does_55 (by decide) ?_
        refine kn_lt (tgt := 74) hx hb (by omega) (by omega) d_M_does_57 (by decide) (fun h57 => ?_) (fun h57 => ?_)
        · refine lv_iload_n hx hb d_M_does_74 rfl (lv_at hl 1 rfl) ?_
          refine lv_bipush (v := nI 26) hx hb d_M_does_75 (by decide) ?_
          refine kn_ne (tgt := 120) hx hb (by omega) (by omega) d_M_does_77 (by decide) (fun h77 => ?_) (fun h77 => ?_)
          · refine lv_iload_n hx hb d_M_does_120 rfl (lv_at hl 1 rfl) ?_
            refine lv_bipush (v := nI 27) hx hb d_M_does_121 (by decide) ?_
            refine kn_ne (tgt := 161) hx hb (by omega) (by omega) d_M_does_123 (by decide) (fun h123 => ?_) (fun h123 => ?_)
            · refine lv_iload_n hx hb d_M_does_161 rfl (lv_at hl 1 rfl) ?_
              refine lv_bipush (v := nI 28) hx hb d_M_does_162 (by decide) ?_
              refine kn_ne (tgt := 201) hx hb (by omega) (by omega) d_M_does_164 (by decide) (fun h164 => ?_) (fun h164 => ?_)
              · refine lv_iload_n hx hb d_M_does_201 rfl (lv_at hl 1 rfl) ?_
                refine lv_bipush (v := nI 29) hx hb d_M_does_202 (by decide) ?_
                refine kn_ne (tgt := 255) hx hb (by omega) (by omega) d_M_does_204 (by decide) (fun h204 => ?_) (fun h204 => ?_)
                · refine lv_iload_n hx hb d_M_does_255 rfl (lv_at hl 1 rfl) ?_
                  refine lv_bipush (v := nI 81) hx hb d_M_does_256 (by decide) ?_
                  refine kn_lt (tgt := 275) hx hb (by omega) (by omega) d_M_does_258 (by decide) (fun h258 => ?_) (fun h258 => ?_)
                  · refine lv_iload_n hx hb d_M_does_275 rfl (lv_at hl 1 rfl) ?_
                    refine lv_bipush (v := nI 88) hx hb d_M_does_276 (by decide) ?_
                    refine kn_ne (tgt := 295) hx hb (by omega) (by omega) d_M_does_278 (by decide) (fun h278 => ?_) (fun h278 => ?_)
                    · refine lv_iload_n hx hb d_M_does_295 rfl (lv_at hl 1 rfl) ?_
                      refine lv_bipush (v := nI 89) hx hb d_M_does_296 (by decide) ?_
                      refine kn_ne (tgt := 315) hx hb (by omega) (by omega) d_M_does_298 (by decide) (fun h298 => ?_) (fun h298 => ?_)
                      · refine lv_iload_n hx hb d_M_does_315 rfl (lv_at hl 1 rfl) ?_
                        refine lv_bipush (v := nI 90) hx hb d_M_does_316 (by decide) ?_
                        refine kn_ne (tgt := 335) hx hb (by omega) (by omega) d_M_does_318 (by decide) (fun h318 => ?_) (fun h318 => ?_)
                        · refine lv_iload_n hx hb d_M_does_335 rfl (lv_at hl 1 rfl) ?_
                          refine k_Sp (As := [.int (nI o)]) (rest := []) ⟨hx, hb, hml, hown, hts⟩ (c_M_hasNumber l E o (by omega)) (k_cwS 1 hts t_816 t_817 t_71 t_818 (by decide +kernel) ⟨Nat.le_of_ble_eq_true rfl, Nat.le_of_ble_eq_true rfl⟩) hK hG hA hP hD hS [] rfl (by decide) rfl hl.1 rfl (Nat.le_of_ble_eq_true rfl) d_M_does_336 ⟨Nat.zero_le _, Nat.zero_le _⟩ (fun r336 hu336 => ?_)
                          subst hu336
                          refine lv_if_eq (tgt := 350) hx hb d_M_does_339 (by decide) (fun h339 => ?_) (fun h339 => ?_)
                          · have hq := of_decide_eq_false (kb_0.mp h339)
                            exact hret _ ls _ _ (g) d_M_does_350 (do_0 hg (mg_0 hk (by omega) (by omega) (by omega) (by omega))) (by rw [← mm_81 (o := o) (A := gv g 256 16) (B := gv g 272 16) (by omega) (by omega)]; exact hP) hS
                          · have hq := of_decide_eq_true (kb_n0 h339)
                            refine lv_aload_n hx hb d_M_does_342 rfl (lv_at hl 0 rfl) ?_
                            refine lv_iload_n hx hb d_M_does_343 rfl (lv_at hl 1 rfl) ?_
                            refine lv_bipush (v := nI 95) hx hb d_M_does_344 (by decide) ?_
                            refine lv_isub hx hb d_M_does_346 ?_
                            refine k_top (pk_sub (by omega)) ?_
                            refine k_Vv (As := [.int (nI (o - 95))]) (rest := []) ⟨hx, hb, hml, hown, hts⟩ (c_M_reads l E mo mb mm mw mh ml len en gas ctr siz hgt frm ret on ay g hg nb bb okb (o - 95) (by omega) hc) (k_cwV 1 hts t_962 t_964 t_57 t_71 t_965 (by decide +kernel) ⟨Nat.le_of_ble_eq_true rfl, Nat.le_of_ble_eq_true rfl⟩) hK hG hA hP hD hS [0, 1, 3] rfl (by decide) 0 rfl rfl (fun _ => rfl) rfl hl.1 rfl (Nat.le_of_ble_eq_true rfl) d_M_does_347 ⟨Nat.zero_le _, Nat.zero_le _⟩ (fun u1 H locs hu1 hP hD hS => ?_)
                            have hP : va_P E.1 vwCl [(mo, .inr (8, [.int (nI len), .ref mb, .int (kb on), .int (nI en), .int (nI gas), .int (nI ctr), .int (nI siz), .int (nI hgt), .int (nI frm), .int (nI ret), .ref mm, .ref mw, .ref mh, .ref ml, .int (kb ay)])), (mb, .inl (E.2.1 0, 96, .inl (nF nb))), (mm, .inl (E.2.1 0, 160, .inl (nF mem))), (mw, .inl (E.2.1 0, 370, .inl (nF u1)))] H := hP
                            have hD : va_D A [(mo, .inr (8, [.int (nI len), .ref mb, .int (kb on), .int (nI en), .int (nI gas), .int (nI ctr), .int (nI siz), .int (nI hgt), .int (nI frm), .int (nI ret), .ref mm, .ref mw, .ref mh, .ref ml, .int (kb ay)])), (mb, .inl (E.2.1 0, 96, .inl (nF nb))), (mm, .inl (E.2.1 0, 160, .inl (nF mem))), (mw, .inl (E.2.1 0, 370, .inl (nF u1)))] := hD
                            exact hret _ ls _ _ (u1) d_M_does_350 (do_f (fun _ => hu1.1.trans (mr_num hq)) hu1.2.1 hu1.2.2) (by rw [← mm_81 (o := o) (A := gv g 256 16) (B := gv g 272 16) (by omega) (by omega)]; exact hP) hS
                        · refine lv_aload_n hx hb d_M_does_321 rfl (lv_at hl 0 rfl) ?_
                          refine lv_sipush (v := nI 304) hx hb d_M_does_322 (by decide) ?_
                          refine lv_aload_n hx hb d_M_does_325 rfl (lv_at hl 0 rfl) ?_
                          refine va_get (D := E.1) (ci := 8) (v := .int (nI gas)) (C := "WideStackModel") (T := T_M) (N := 15) hx hb hts in_M hown hK hP 0 rfl rfl 4 (by decide) (hts _ t_751) (fun _ h9 => h9) rfl d_M_does_326 ?_
                          have hnv : gas < 2147483648 := (by omega)
                          refine k_Vv (As := [.int (nI 304), .int (nI gas)]) (rest := []) ⟨hx, hb, hml, hown, hts⟩ (c_M_number l E mo mb mm mw mh ml len en gas ctr siz hgt frm ret on ay g hg 304 gas (by decide) hnv) (k_cwV 2 hts t_942 t_944 t_52 t_71 t_945 (by decide +kernel) ⟨Nat.le_of_ble_eq_true rfl, Nat.le_of_ble_eq_true rfl⟩) hK hG hA hP hD hS [0, 3] rfl (by decide) 0 rfl rfl (fun _ => rfl) rfl hl.1 rfl (Nat.le_of_ble_eq_true rfl) d_M_does_329 ⟨Nat.zero_le _, Nat.zero_le _⟩ (fun u1 H locs hu1 hP hD hS => ?_)
                          have hP : va_P E.1 vwCl [(mo, .inr (8, [.int (nI len), .ref mb, .int (kb on), .int (nI en), .int (nI gas), .int (nI ctr), .int (nI siz), .int (nI hgt), .int (nI frm), .int (nI ret), .ref mm, .ref mw, .ref mh, .ref ml, .int (kb ay)])), (mb, .inl (E.2.1 0, 96, .inl (nF nb))), (mm, .inl (E.2.1 0, 160, .inl (nF mem))), (mw, .inl (E.2.1 0, 370, .inl (nF (nmb g 304 gas))))] H := hP
                          have hD : va_D A [(mo, .inr (8, [.int (nI len), .ref mb, .int (kb on), .int (nI en), .int (nI gas), .int (nI ctr), .int (nI siz), .int (nI hgt), .int (nI frm), .int (nI ret), .ref mm, .ref mw, .ref mh, .ref ml, .int (kb ay)])), (mb, .inl (E.2.1 0, 96, .inl (nF nb))), (mm, .inl (E.2.1 0, 160, .inl (nF mem))), (mw, .inl (E.2.1 0, 370, .inl (nF (nmb g 304 gas))))] := hD
                          refine lv_goto (tgt := 350) hx hb d_M_does_332 (by decide) ?_
                          exact hret _ ls _ _ (nmb g 304 gas) d_M_does_350 (do_n hg (by omega) (mr_90 h318)) (by rw [← mm_81 (o := o) (A := gv g 256 16) (B := gv g 272 16) (by omega) (by omega)]; exact hP) hS
                      · refine lv_aload_n hx hb d_M_does_301 rfl (lv_at hl 0 rfl) ?_
                        refine lv_sipush (v := nI 304) hx hb d_M_does_302 (by decide) ?_
                        refine lv_aload_n hx hb d_M_does_305 rfl (lv_at hl 0 rfl) ?_
                        refine va_get (D := E.1) (ci := 8) (v := .int (nI siz)) (C := "WideStackModel") (T := T_M) (N := 15) hx hb hts in_M hown hK hP 0 rfl rfl 6 (by decide) (hts _ t_753) (fun _ h9 => h9) rfl d_M_does_306 ?_
                        have hnv : siz < 2147483648 := (by omega)
                        refine k_Vv (As := [.int (nI 304), .int (nI siz)]) (rest := []) ⟨hx, hb, hml, hown, hts⟩ (c_M_number l E mo mb mm mw mh ml len en gas ctr siz hgt frm ret on ay g hg 304 siz (by decide) hnv) (k_cwV 2 hts t_942 t_944 t_52 t_71 t_945 (by decide +kernel) ⟨Nat.le_of_ble_eq_true rfl, Nat.le_of_ble_eq_true rfl⟩) hK hG hA hP hD hS [0, 3] rfl (by decide) 0 rfl rfl (fun _ => rfl) rfl hl.1 rfl (Nat.le_of_ble_eq_true rfl) d_M_does_309 ⟨Nat.zero_le _, Nat.zero_le _⟩ (fun u1 H locs hu1 hP hD hS => ?_)
                        have hP : va_P E.1 vwCl [(mo, .inr (8, [.int (nI len), .ref mb, .int (kb on), .int (nI en), .int (nI gas), .int (nI ctr), .int (nI siz), .int (nI hgt), .int (nI frm), .int (nI ret), .ref mm, .ref mw, .ref mh, .ref ml, .int (kb ay)])), (mb, .inl (E.2.1 0, 96, .inl (nF nb))), (mm, .inl (E.2.1 0, 160, .inl (nF mem))), (mw, .inl (E.2.1 0, 370, .inl (nF (nmb g 304 siz))))] H := hP
                        have hD : va_D A [(mo, .inr (8, [.int (nI len), .ref mb, .int (kb on), .int (nI en), .int (nI gas), .int (nI ctr), .int (nI siz), .int (nI hgt), .int (nI frm), .int (nI ret), .ref mm, .ref mw, .ref mh, .ref ml, .int (kb ay)])), (mb, .inl (E.2.1 0, 96, .inl (nF nb))), (mm, .inl (E.2.1 0, 160, .inl (nF mem))), (mw, .inl (E.2.1 0, 370, .inl (nF (nmb g 304 siz))))] := hD
                        refine lv_goto (tgt := 350) hx hb d_M_does_312 (by decide) ?_
                        exact hret _ ls _ _ (nmb g 304 siz) d_M_does_350 (do_n hg (by omega) (mr_89 h298)) (by rw [← mm_81 (o := o) (A := gv g 256 16) (B := gv g 272 16) (by omega) (by omega)]; exact hP) hS
                    · refine lv_aload_n hx hb d_M_does_281 rfl (lv_at hl 0 rfl) ?_
                      refine lv_sipush (v := nI 304) hx hb d_M_does_282 (by decide) ?_
                      refine lv_aload_n hx hb d_M_does_285 rfl (lv_at hl 0 rfl) ?_
                      refine va_get (D := E.1) (ci := 8) (v := .int (nI ctr)) (C := "WideStackModel") (T := T_M) (N := 15) hx hb hts in_M hown hK hP 0 rfl rfl 5 (by decide) (hts _ t_752) (fun _ h9 => h9) rfl d_M_does_286 ?_
                      have hnv : ctr < 2147483648 := (by omega)
                      refine k_Vv (As := [.int (nI 304), .int (nI ctr)]) (rest := []) ⟨hx, hb, hml, hown, hts⟩ (c_M_number l E mo mb mm mw mh ml len en gas ctr siz hgt frm ret on ay g hg 304 ctr (by decide) hnv) (k_cwV 2 hts t_942 t_944 t_52 t_71 t_945 (by decide +kernel) ⟨Nat.le_of_ble_eq_true rfl, Nat.le_of_ble_eq_true rfl⟩) hK hG hA hP hD hS [0, 3] rfl (by decide) 0 rfl rfl (fun _ => rfl) rfl hl.1 rfl (Nat.le_of_ble_eq_true rfl) d_M_does_289 ⟨Nat.zero_le _, Nat.zero_le _⟩ (fun u1 H locs hu1 hP hD hS => ?_)
                      have hP : va_P E.1 vwCl [(mo, .inr (8, [.int (nI len), .ref mb, .int (kb on), .int (nI en), .int (nI gas), .int (nI ctr), .int (nI siz), .int (nI hgt), .int (nI frm), .int (nI ret), .ref mm, .ref mw, .ref mh, .ref ml, .int (kb ay)])), (mb, .inl (E.2.1 0, 96, .inl (nF nb))), (mm, .inl (E.2.1 0, 160, .inl (nF mem))), (mw, .inl (E.2.1 0, 370, .inl (nF (nmb g 304 ctr))))] H := hP
                      have hD : va_D A [(mo, .inr (8, [.int (nI len), .ref mb, .int (kb on), .int (nI en), .int (nI gas), .int (nI ctr), .int (nI siz), .int (nI hgt), .int (nI frm), .int (nI ret), .ref mm, .ref mw, .ref mh, .ref ml, .int (kb ay)])), (mb, .inl (E.2.1 0, 96, .inl (nF nb))), (mm, .inl (E.2.1 0, 160, .inl (nF mem))), (mw, .inl (E.2.1 0, 370, .inl (nF (nmb g 304 ctr))))] := hD
                      refine lv_goto (tgt := 350) hx hb d_M_does_292 (by decide) ?_
                      exact hret _ ls _ _ (nmb g 304 ctr) d_M_does_350 (do_n hg (by omega) (mr_88 h278)) (by rw [← mm_81 (o := o) (A := gv g 256 16) (B := gv g 272 16) (by omega) (by omega)]; exact hP) hS
                  · refine lv_iload_n hx hb d_M_does_261 rfl (lv_at hl 1 rfl) ?_
                    refine lv_bipush (v := nI 83) hx hb d_M_does_262 (by decide) ?_
                    refine kn_gt (tgt := 275) hx hb (by omega) (by omega) d_M_does_264 (by decide) (fun h264 => ?_) (fun h264 => ?_)
                    · refine lv_iload_n hx hb d_M_does_275 rfl (lv_at hl 1 rfl) ?_
                      refine lv_bipush (v := nI 88) hx hb d_M_does_276 (by decide) ?_
                      refine kn_ne (tgt := 295) hx hb (by omega) (by omega) d_M_does_278 (by decide) (fun h278 => ?_) (fun h278 => ?_)
                      · refine lv_iload_n hx hb d_M_does_295 rfl (lv_at hl 1 rfl) ?_
                        refine lv_bipush (v := nI 89) hx hb d_M_does_296 (by decide) ?_
                        refine kn_ne (tgt := 315) hx hb (by omega) (by omega) d_M_does_298 (by decide) (fun h298 => ?_) (fun h298 => ?_)
                        · refine lv_iload_n hx hb d_M_does_315 rfl (lv_at hl 1 rfl) ?_
                          refine lv_bipush (v := nI 90) hx hb d_M_does_316 (by decide) ?_
                          refine kn_ne (tgt := 335) hx hb (by omega) (by omega) d_M_does_318 (by decide) (fun h318 => ?_) (fun h318 => ?_)
                          · refine lv_iload_n hx hb d_M_does_335 rfl (lv_at hl 1 rfl) ?_
                            refine k_Sp (As := [.int (nI o)]) (rest := []) ⟨hx, hb, hml, hown, hts⟩ (c_M_hasNumber l E o (by omega)) (k_cwS 1 hts t_816 t_817 t_71 t_818 (by decide +kernel) ⟨Nat.le_of_ble_eq_true rfl, Nat.le_of_ble_eq_true rfl⟩) hK hG hA hP hD hS [] rfl (by decide) rfl hl.1 rfl (Nat.le_of_ble_eq_true rfl) d_M_does_336 ⟨Nat.zero_le _, Nat.zero_le _⟩ (fun r336 hu336 => ?_)
                            subst hu336
                            refine lv_if_eq (tgt := 350) hx hb d_M_does_339 (by decide) (fun h339 => ?_) (fun h339 => ?_)
                            · have hq := of_decide_eq_false (kb_0.mp h339)
                              exact hret _ ls _ _ (g) d_M_does_350 (do_0 hg (mg_0 hk (by omega) (by omega) (by omega) (by omega))) (by rw [← mm_81 (o := o) (A := gv g 256 16) (B := gv g 272 16) (by omega) (by omega)]; exact hP) hS
                            · have hq := of_decide_eq_true (kb_n0 h339)
                              refine lv_aload_n hx hb d_M_does_342 rfl (lv_at hl 0 rfl) ?_
                              refine lv_iload_n hx hb d_M_does_343 rfl (lv_at hl 1 rfl) ?_
                              refine lv_bipush (v := nI 95) hx hb d_M_does_344 (by decide) ?_
                              refine lv_isub hx hb d_M_does_346 ?_
                              refine k_top (pk_sub (by omega)) ?_
                              refine k_Vv (As := [.int (nI (o - 95))]) (rest := []) ⟨hx, hb, hml, hown, hts⟩ (c_M_reads l E mo mb mm mw mh ml len en gas ctr siz hgt frm ret on ay g hg nb bb okb (o - 95) (by omega) hc) (k_cwV 1 hts t_962 t_964 t_57 t_71 t_965 (by decide +kernel) ⟨Nat.le_of_ble_eq_true rfl, Nat.le_of_ble_eq_true rfl⟩) hK hG hA hP hD hS [0, 1, 3] rfl (by decide) 0 rfl rfl (fun _ => rfl) rfl hl.1 rfl (Nat.le_of_ble_eq_true rfl) d_M_does_347 ⟨Nat.zero_le _, Nat.zero_le _⟩ (fun u1 H locs hu1 hP hD hS => ?_)
                              have hP : va_P E.1 vwCl [(mo, .inr (8, [.int (nI len), .ref mb, .int (kb on), .int (nI en), .int (nI gas), .int (nI ctr), .int (nI siz), .int (nI hgt), .int (nI frm), .int (nI ret), .ref mm, .ref mw, .ref mh, .ref ml, .int (kb ay)])), (mb, .inl (E.2.1 0, 96, .inl (nF nb))), (mm, .inl (E.2.1 0, 160, .inl (nF mem))), (mw, .inl (E.2.1 0, 370, .inl (nF u1)))] H := hP
                              have hD : va_D A [(mo, .inr (8, [.int (nI len), .ref mb, .int (kb on), .int (nI en), .int (nI gas), .int (nI ctr), .int (nI siz), .int (nI hgt), .int (nI frm), .int (nI ret), .ref mm, .ref mw, .ref mh, .ref ml, .int (kb ay)])), (mb, .inl (E.2.1 0, 96, .inl (nF nb))), (mm, .inl (E.2.1 0, 160, .inl (nF mem))), (mw, .inl (E.2.1 0, 370, .inl (nF u1)))] := hD
                              exact hret _ ls _ _ (u1) d_M_does_350 (do_f (fun _ => hu1.1.trans (mr_num hq)) hu1.2.1 hu1.2.2) (by rw [← mm_81 (o := o) (A := gv g 256 16) (B := gv g 272 16) (by omega) (by omega)]; exact hP) hS
                          · refine lv_aload_n hx hb d_M_does_321 rfl (lv_at hl 0 rfl) ?_
                            refine lv_sipush (v := nI 304) hx hb d_M_does_322 (by decide) ?_
                            refine lv_aload_n hx hb d_M_does_325 rfl (lv_at hl 0 rfl) ?_
                            refine va_get (D := E.1) (ci := 8) (v := .int (nI gas)) (C := "WideStackModel") (T := T_M) (N := 15) hx hb hts in_M hown hK hP 0 rfl rfl 4 (by decide) (hts _ t_751) (fun _ h9 => h9) rfl d_M_does_326 ?_
                            have hnv : gas < 2147483648 := (by omega)
                            refine k_Vv (As := [.int (nI 304), .int (nI gas)]) (rest := []) ⟨hx, hb, hml, hown, hts⟩ (c_M_number l E mo mb mm mw mh ml len en gas ctr siz hgt frm ret on ay g hg 304 gas (by decide) hnv) (k_cwV 2 hts t_942 t_944 t_52 t_71 t_945 (by decide +kernel) ⟨Nat.le_of_ble_eq_true rfl, Nat.le_of_ble_eq_true rfl⟩) hK hG hA hP hD hS [0, 3] rfl (by decide) 0 rfl rfl (fun _ => rfl) rfl hl.1 rfl (Nat.le_of_ble_eq_true rfl) d_M_does_329 ⟨Nat.zero_le _, Nat.zero_le _⟩ (fun u1 H locs hu1 hP hD hS => ?_)
                            have hP : va_P E.1 vwCl [(mo, .inr (8, [.int (nI len), .ref mb, .int (kb on), .int (nI en), .int (nI gas), .int (nI ctr), .int (nI siz), .int (nI hgt), .int (nI frm), .int (nI ret), .ref mm, .ref mw, .ref mh, .ref ml, .int (kb ay)])), (mb, .inl (E.2.1 0, 96, .inl (nF nb))), (mm, .inl (E.2.1 0, 160, .inl (nF mem))), (mw, .inl (E.2.1 0, 370, .inl (nF (nmb g 304 gas))))] H := hP
                            have hD : va_D A [(mo, .inr (8, [.int (nI len), .ref mb, .int (kb on), .int (nI en), .int (nI gas), .int (nI ctr), .int (nI siz), .int (nI hgt), .int (nI frm), .int (nI ret), .ref mm, .ref mw, .ref mh, .ref ml, .int (kb ay)])), (mb, .inl (E.2.1 0, 96, .inl (nF nb))), (mm, .inl (E.2.1 0, 160, .inl (nF mem))), (mw, .inl (E.2.1 0, 370, .inl (nF (nmb g 304 gas))))] := hD
                            refine lv_goto (tgt := 350) hx hb d_M_does_332 (by decide) ?_
                            exact hret _ ls _ _ (nmb g 304 gas) d_M_does_350 (do_n hg (by omega) (mr_90 h318)) (by rw [← mm_81 (o := o) (A := gv g 256 16) (B := gv g 272 16) (by omega) (by omega)]; exact hP) hS
                        · refine lv_aload_n hx hb d_M_does_301 rfl (lv_at hl 0 rfl) ?_
                          refine lv_sipush (v := nI 304) hx hb d_M_does_302 (by decide) ?_
                          refine lv_aload_n hx hb d_M_does_305 rfl (lv_at hl 0 rfl) ?_
                          refine va_get (D := E.1) (ci := 8) (v := .int (nI siz)) (C := "WideStackModel") (T := T_M) (N := 15) hx hb hts in_M hown hK hP 0 rfl rfl 6 (by decide) (hts _ t_753) (fun _ h9 => h9) rfl d_M_does_306 ?_
                          have hnv : siz < 2147483648 := (by omega)
                          refine k_Vv (As := [.int (nI 304), .int (nI siz)]) (rest := []) ⟨hx, hb, hml, hown, hts⟩ (c_M_number l E mo mb mm mw mh ml len en gas ctr siz hgt frm ret on ay g hg 304 siz (by decide) hnv) (k_cwV 2 hts t_942 t_944 t_52 t_71 t_945 (by decide +kernel) ⟨Nat.le_of_ble_eq_true rfl, Nat.le_of_ble_eq_true rfl⟩) hK hG hA hP hD hS [0, 3] rfl (by decide) 0 rfl rfl (fun _ => rfl) rfl hl.1 rfl (Nat.le_of_ble_eq_true rfl) d_M_does_309 ⟨Nat.zero_le _, Nat.zero_le _⟩ (fun u1 H locs hu1 hP hD hS => ?_)
                          have hP : va_P E.1 vwCl [(mo, .inr (8, [.int (nI len), .ref mb, .int (kb on), .int (nI en), .int (nI gas), .int (nI ctr), .int (nI siz), .int (nI hgt), .int (nI frm), .int (nI ret), .ref mm, .ref mw, .ref mh, .ref ml, .int (kb ay)])), (mb, .inl (E.2.1 0, 96, .inl (nF nb))), (mm, .inl (E.2.1 0, 160, .inl (nF mem))), (mw, .inl (E.2.1 0, 370, .inl (nF (nmb g 304 siz))))] H := hP
                          have hD : va_D A [(mo, .inr (8, [.int (nI len), .ref mb, .int (kb on), .int (nI en), .int (nI gas), .int (nI ctr), .int (nI siz), .int (nI hgt), .int (nI frm), .int (nI ret), .ref mm, .ref mw, .ref mh, .ref ml, .int (kb ay)])), (mb, .inl (E.2.1 0, 96, .inl (nF nb))), (mm, .inl (E.2.1 0, 160, .inl (nF mem))), (mw, .inl (E.2.1 0, 370, .inl (nF (nmb g 304 siz))))] := hD
                          refine lv_goto (tgt := 350) hx hb d_M_does_312 (by decide) ?_
                          exact hret _ ls _ _ (nmb g 304 siz) d_M_does_350 (do_n hg (by omega) (mr_89 h298)) (by rw [← mm_81 (o := o) (A := gv g 256 16) (B := gv g 272 16) (by omega) (by omega)]; exact hP) hS
                      · refine lv_aload_n hx hb d_M_does_281 rfl (lv_at hl 0 rfl) ?_
                        refine lv_sipush (v := nI 304) hx hb d_M_does_282 (by decide) ?_
                        refine lv_aload_n hx hb d_M_does_285 rfl (lv_at hl 0 rfl) ?_
                        refine va_get (D := E.1) (ci := 8) (v := .int (nI ctr)) (C := "WideStackModel") (T := T_M) (N := 15) hx hb hts in_M hown hK hP 0 rfl rfl 5 (by decide) (hts _ t_752) (fun _ h9 => h9) rfl d_M_does_286 ?_
                        have hnv : ctr < 2147483648 := (by omega)
                        refine k_Vv (As := [.int (nI 304), .int (nI ctr)]) (rest := []) ⟨hx, hb, hml, hown, hts⟩ (c_M_number l E mo mb mm mw mh ml len en gas ctr siz hgt frm ret on ay g hg 304 ctr (by decide) hnv) (k_cwV 2 hts t_942 t_944 t_52 t_71 t_945 (by decide +kernel) ⟨Nat.le_of_ble_eq_true rfl, Nat.le_of_ble_eq_true rfl⟩) hK hG hA hP hD hS [0, 3] rfl (by decide) 0 rfl rfl (fun _ => rfl) rfl hl.1 rfl (Nat.le_of_ble_eq_true rfl) d_M_does_289 ⟨Nat.zero_le _, Nat.zero_le _⟩ (fun u1 H locs hu1 hP hD hS => ?_)
                        have hP : va_P E.1 vwCl [(mo, .inr (8, [.int (nI len), .ref mb, .int (kb on), .int (nI en), .int (nI gas), .int (nI ctr), .int (nI siz), .int (nI hgt), .int (nI frm), .int (nI ret), .ref mm, .ref mw, .ref mh, .ref ml, .int (kb ay)])), (mb, .inl (E.2.1 0, 96, .inl (nF nb))), (mm, .inl (E.2.1 0, 160, .inl (nF mem))), (mw, .inl (E.2.1 0, 370, .inl (nF (nmb g 304 ctr))))] H := hP
                        have hD : va_D A [(mo, .inr (8, [.int (nI len), .ref mb, .int (kb on), .int (nI en), .int (nI gas), .int (nI ctr), .int (nI siz), .int (nI hgt), .int (nI frm), .int (nI ret), .ref mm, .ref mw, .ref mh, .ref ml, .int (kb ay)])), (mb, .inl (E.2.1 0, 96, .inl (nF nb))), (mm, .inl (E.2.1 0, 160, .inl (nF mem))), (mw, .inl (E.2.1 0, 370, .inl (nF (nmb g 304 ctr))))] := hD
                        refine lv_goto (tgt := 350) hx hb d_M_does_292 (by decide) ?_
                        exact hret _ ls _ _ (nmb g 304 ctr) d_M_does_350 (do_n hg (by omega) (mr_88 h278)) (by rw [← mm_81 (o := o) (A := gv g 256 16) (B := gv g 272 16) (by omega) (by omega)]; exact hP) hS
                    · refine lv_aload_n hx hb d_M_does_267 rfl (lv_at hl 0 rfl) ?_
                      refine lv_iload_n hx hb d_M_does_268 rfl (lv_at hl 1 rfl) ?_
                      refine k_Vv (As := [.int (nI o)]) (rest := []) ⟨hx, hb, hml, hown, hts⟩ (c_M_remembers l E mo mb mm mw mh ml len en gas ctr siz hgt frm ret on ay g hg mem hm o (by omega) hu0) (k_cwV 1 hts t_958 t_960 t_56 t_71 t_961 (by decide +kernel) ⟨Nat.le_of_ble_eq_true rfl, Nat.le_of_ble_eq_true rfl⟩) hK hG hA hP hD hS [0, 2, 3] rfl (by decide) 0 rfl rfl (fun _ => rfl) rfl hl.1 rfl (Nat.le_of_ble_eq_true rfl) d_M_does_269 ⟨Nat.zero_le _, Nat.zero_le _⟩ (fun u1 H locs hu1 hP hD hS => ?_)
                      have hP : va_P E.1 vwCl [(mo, .inr (8, [.int (nI len), .ref mb, .int (kb on), .int (nI en), .int (nI gas), .int (nI ctr), .int (nI siz), .int (nI hgt), .int (nI frm), .int (nI ret), .ref mm, .ref mw, .ref mh, .ref ml, .int (kb ay)])), (mb, .inl (E.2.1 0, 96, .inl (nF nb))), (mm, .inl (E.2.1 0, 160, .inl (nF (m_mem o (gv g 256 16) (gv g 272 16) mem)))), (mw, .inl (E.2.1 0, 370, .inl (nF u1)))] H := hP
                      have hD : va_D A [(mo, .inr (8, [.int (nI len), .ref mb, .int (kb on), .int (nI en), .int (nI gas), .int (nI ctr), .int (nI siz), .int (nI hgt), .int (nI frm), .int (nI ret), .ref mm, .ref mw, .ref mh, .ref ml, .int (kb ay)])), (mb, .inl (E.2.1 0, 96, .inl (nF nb))), (mm, .inl (E.2.1 0, 160, .inl (nF (m_mem o (gv g 256 16) (gv g 272 16) mem)))), (mw, .inl (E.2.1 0, 370, .inl (nF u1)))] := hD
                      refine lv_goto (tgt := 350) hx hb d_M_does_272 (by decide) ?_
                      exact hret _ ls _ _ (u1) d_M_does_350 (do_f (fun q => by by_cases q1 : o = 81; exact (hu1.1 q1).trans (mr_81 q1); exact absurd q (fun q => mg_83 (by omega) q)) hu1.2.1 hu1.2.2) hP hS
                · refine lv_aload_n hx hb d_M_does_207 rfl (lv_at hl 0 rfl) ?_
                  refine lv_aload_n hx hb d_M_does_208 rfl (lv_at hl 0 rfl) ?_
                  refine lv_sipush (v := nI 256) hx hb d_M_does_209 (by decide) ?_
                  refine k_Vp (As := [.int (nI 256)]) (rest := [.ref mo]) ⟨hx, hb, hml, hown, hts⟩ (c_M_small l E mo mb mm mw mh ml len en gas ctr siz hgt frm ret on ay g hg 256 (by decide)) (k_cwV 1 hts t_857 t_859 t_32 t_71 t_860 (by decide +kernel) ⟨Nat.le_of_ble_eq_true rfl, Nat.le_of_ble_eq_true rfl⟩) hK hG hA hP hD hS [0, 3] rfl (by decide) 0 rfl rfl rfl hl.1 rfl (Nat.le_of_ble_eq_true rfl) d_M_does_212 ⟨Nat.zero_le _, Nat.zero_le _⟩ (fun r212 hu212 => ?_)
                  subst hu212
                  refine lv_sipush (v := nI 255) hx hb d_M_does_215 (by decide) ?_
                  refine kn_le (tgt := 227) hx hb (by omega) (by omega) d_M_does_218 (by decide) (fun h218 => ?_) (fun h218 => ?_)
                  · refine lv_aload_n hx hb d_M_does_227 rfl (lv_at hl 0 rfl) ?_
                    refine lv_sipush (v := nI 256) hx hb d_M_does_228 (by decide) ?_
                    refine k_Vp (As := [.int (nI 256)]) (rest := [.ref mo]) ⟨hx, hb, hml, hown, hts⟩ (c_M_small l E mo mb mm mw mh ml len en gas ctr siz hgt frm ret on ay g hg 256 (by decide)) (k_cwV 1 hts t_857 t_859 t_32 t_71 t_860 (by decide +kernel) ⟨Nat.le_of_ble_eq_true rfl, Nat.le_of_ble_eq_true rfl⟩) hK hG hA hP hD hS [0, 3] rfl (by decide) 0 rfl rfl rfl hl.1 rfl (Nat.le_of_ble_eq_true rfl) d_M_does_231 ⟨Nat.zero_le _, Nat.zero_le _⟩ (fun r231 hu231 => ?_)
                    subst hu231
                    refine lv_aload_n hx hb d_M_does_234 rfl (lv_at hl 0 rfl) ?_
                    refine lv_sipush (v := nI 272) hx hb d_M_does_235 (by decide) ?_
                    refine k_Vp (As := [.int (nI 272)]) (rest := [.int (nI (min (gv g 256 16) 65535)), .ref mo]) ⟨hx, hb, hml, hown, hts⟩ (c_M_isNegative l E mo mb mm mw mh ml len en gas ctr siz hgt frm ret on ay g hg 272 (by decide)) (k_cwV 1 hts t_922 t_924 t_47 t_71 t_925 (by decide +kernel) ⟨Nat.le_of_ble_eq_true rfl, Nat.le_of_ble_eq_true rfl⟩) hK hG hA hP hD hS [0, 3] rfl (by decide) 0 rfl rfl rfl hl.1 rfl (Nat.le_of_ble_eq_true rfl) d_M_does_238 ⟨Nat.zero_le _, Nat.zero_le _⟩ (fun r238 hu238 => ?_)
                    subst hu238
                    refine lv_if_eq (tgt := 248) hx hb d_M_does_241 (by decide) (fun h241 => ?_) (fun h241 => ?_)
                    · refine lv_iconst (v := nI 0) hx hb d_M_does_248 (by decide) ?_
                      refine k_Vv (As := [.int (nI (min (gv g 256 16) 65535)), .int (nI 0)]) (rest := []) ⟨hx, hb, hml, hown, hts⟩ (c_M_shiftDown l E mo mb mm mw mh ml len en gas ctr siz hgt frm ret on ay g hg (min (gv g 256 16) 65535) 0 (by omega) (by decide)) (k_cwV 2 hts t_954 t_956 t_55 t_71 t_957 (by decide +kernel) ⟨Nat.le_of_ble_eq_true rfl, Nat.le_of_ble_eq_true rfl⟩) hK hG hA hP hD hS [0, 3] rfl (by decide) 0 rfl rfl (fun _ => rfl) rfl hl.1 rfl (Nat.le_of_ble_eq_true rfl) d_M_does_249 ⟨Nat.zero_le _, Nat.zero_le _⟩ (fun u1 H locs hu1 hP hD hS => ?_)
                      have hP : va_P E.1 vwCl [(mo, .inr (8, [.int (nI len), .ref mb, .int (kb on), .int (nI en), .int (nI gas), .int (nI ctr), .int (nI siz), .int (nI hgt), .int (nI frm), .int (nI ret), .ref mm, .ref mw, .ref mh, .ref ml, .int (kb ay)])), (mb, .inl (E.2.1 0, 96, .inl (nF nb))), (mm, .inl (E.2.1 0, 160, .inl (nF mem))), (mw, .inl (E.2.1 0, 370, .inl (nF u1)))] H := hP
                      have hD : va_D A [(mo, .inr (8, [.int (nI len), .ref mb, .int (kb on), .int (nI en), .int (nI gas), .int (nI ctr), .int (nI siz), .int (nI hgt), .int (nI frm), .int (nI ret), .ref mm, .ref mw, .ref mh, .ref ml, .int (kb ay)])), (mb, .inl (E.2.1 0, 96, .inl (nF nb))), (mm, .inl (E.2.1 0, 160, .inl (nF mem))), (mw, .inl (E.2.1 0, 370, .inl (nF u1)))] := hD
                      refine lv_goto (tgt := 350) hx hb d_M_does_252 (by decide) ?_
                      exact hret _ ls _ _ (u1) d_M_does_350 (do_f (fun _ => (by rw [h204, mo_29]; exact sh_sar0 (gv_lt16 hg 272) (kb_0.mp h241) hu1 (by first | exact Or.inl (min_s h218) | exact Or.inr (min_b h218)) : gv u1 304 16 = m_op o (gv g 256 16) (gv g 272 16) (gv g 288 16)).trans (mr_op (by omega))) hu1.1 hu1.2.1) (by rw [← mm_81 (o := o) (A := gv g 256 16) (B := gv g 272 16) (by omega) (by omega)]; exact hP) hS
                    · refine lv_iconst (v := nI 1) hx hb d_M_does_244 (by decide) ?_
                      refine lv_goto (tgt := 249) hx hb d_M_does_245 (by decide) ?_
                      refine k_Vv (As := [.int (nI (min (gv g 256 16) 65535)), .int (nI 1)]) (rest := []) ⟨hx, hb, hml, hown, hts⟩ (c_M_shiftDown l E mo mb mm mw mh ml len en gas ctr siz hgt frm ret on ay g hg (min (gv g 256 16) 65535) 1 (by omega) (by decide)) (k_cwV 2 hts t_954 t_956 t_55 t_71 t_957 (by decide +kernel) ⟨Nat.le_of_ble_eq_true rfl, Nat.le_of_ble_eq_true rfl⟩) hK hG hA hP hD hS [0, 3] rfl (by decide) 0 rfl rfl (fun _ => rfl) rfl hl.1 rfl (Nat.le_of_ble_eq_true rfl) d_M_does_249 ⟨Nat.zero_le _, Nat.zero_le _⟩ (fun u1 H locs hu1 hP hD hS => ?_)
                      have hP : va_P E.1 vwCl [(mo, .inr (8, [.int (nI len), .ref mb, .int (kb on), .int (nI en), .int (nI gas), .int (nI ctr), .int (nI siz), .int (nI hgt), .int (nI frm), .int (nI ret), .ref mm, .ref mw, .ref mh, .ref ml, .int (kb ay)])), (mb, .inl (E.2.1 0, 96, .inl (nF nb))), (mm, .inl (E.2.1 0, 160, .inl (nF mem))), (mw, .inl (E.2.1 0, 370, .inl (nF u1)))] H := hP
                      have hD : va_D A [(mo, .inr (8, [.int (nI len), .ref mb, .int (kb on), .int (nI en), .int (nI gas), .int (nI ctr), .int (nI siz), .int (nI hgt), .int (nI frm), .int (nI ret), .ref mm, .ref mw, .ref mh, .ref ml, .int (kb ay)])), (mb, .inl (E.2.1 0, 96, .inl (nF nb))), (mm, .inl (E.2.1 0, 160, .inl (nF mem))), (mw, .inl (E.2.1 0, 370, .inl (nF u1)))] := hD
                      refine lv_goto (tgt := 350) hx hb d_M_does_252 (by decide) ?_
                      exact hret _ ls _ _ (u1) d_M_does_350 (do_f (fun _ => (by rw [h204, mo_29]; exact sh_sar1 (gv_lt16 hg 272) (kb_n0 h241) hu1 (by first | exact Or.inl (min_s h218) | exact Or.inr (min_b h218)) : gv u1 304 16 = m_op o (gv g 256 16) (gv g 272 16) (gv g 288 16)).trans (mr_op (by omega))) hu1.1 hu1.2.1) (by rw [← mm_81 (o := o) (A := gv g 256 16) (B := gv g 272 16) (by omega) (by omega)]; exact hP) hS
                  · refine lv_sipush (v := nI 256) hx hb d_M_does_221 (by decide) ?_
                    refine lv_goto (tgt := 234) hx hb d_M_does_224 (by decide) ?_
                    refine lv_aload_n hx hb d_M_does_234 rfl (lv_at hl 0 rfl) ?_
                    refine lv_sipush (v := nI 272) hx hb d_M_does_235 (by decide) ?_
                    refine k_Vp (As := [.int (nI 272)]) (rest := [.int (nI 256), .ref mo]) ⟨hx, hb, hml, hown, hts⟩ (c_M_isNegative l E mo mb mm mw mh ml len en gas ctr siz hgt frm ret on ay g hg 272 (by decide)) (k_cwV 1 hts t_922 t_924 t_47 t_71 t_925 (by decide +kernel) ⟨Nat.le_of_ble_eq_true rfl, Nat.le_of_ble_eq_true rfl⟩) hK hG hA hP hD hS [0, 3] rfl (by decide) 0 rfl rfl rfl hl.1 rfl (Nat.le_of_ble_eq_true rfl) d_M_does_238 ⟨Nat.zero_le _, Nat.zero_le _⟩ (fun r238 hu238 => ?_)
                    subst hu238
                    refine lv_if_eq (tgt := 248) hx hb d_M_does_241 (by decide) (fun h241 => ?_) (fun h241 => ?_)
                    · refine lv_iconst (v := nI 0) hx hb d_M_does_248 (by decide) ?_
                      refine k_Vv (As := [.int (nI 256), .int (nI 0)]) (rest := []) ⟨hx, hb, hml, hown, hts⟩ (c_M_shiftDown l E mo mb mm mw mh ml len en gas ctr siz hgt frm ret on ay g hg 256 0 (by omega) (by decide)) (k_cwV 2 hts t_954 t_956 t_55 t_71 t_957 (by decide +kernel) ⟨Nat.le_of_ble_eq_true rfl, Nat.le_of_ble_eq_true rfl⟩) hK hG hA hP hD hS [0, 3] rfl (by decide) 0 rfl rfl (fun _ => rfl) rfl hl.1 rfl (Nat.le_of_ble_eq_true rfl) d_M_does_249 ⟨Nat.zero_le _, Nat.zero_le _⟩ (fun u1 H locs hu1 hP hD hS => ?_)
                      have hP : va_P E.1 vwCl [(mo, .inr (8, [.int (nI len), .ref mb, .int (kb on), .int (nI en), .int (nI gas), .int (nI ctr), .int (nI siz), .int (nI hgt), .int (nI frm), .int (nI ret), .ref mm, .ref mw, .ref mh, .ref ml, .int (kb ay)])), (mb, .inl (E.2.1 0, 96, .inl (nF nb))), (mm, .inl (E.2.1 0, 160, .inl (nF mem))), (mw, .inl (E.2.1 0, 370, .inl (nF u1)))] H := hP
                      have hD : va_D A [(mo, .inr (8, [.int (nI len), .ref mb, .int (kb on), .int (nI en), .int (nI gas), .int (nI ctr), .int (nI siz), .int (nI hgt), .int (nI frm), .int (nI ret), .ref mm, .ref mw, .ref mh, .ref ml, .int (kb ay)])), (mb, .inl (E.2.1 0, 96, .inl (nF nb))), (mm, .inl (E.2.1 0, 160, .inl (nF mem))), (mw, .inl (E.2.1 0, 370, .inl (nF u1)))] := hD
                      refine lv_goto (tgt := 350) hx hb d_M_does_252 (by decide) ?_
                      exact hret _ ls _ _ (u1) d_M_does_350 (do_f (fun _ => (by rw [h204, mo_29]; exact sh_sar0 (gv_lt16 hg 272) (kb_0.mp h241) hu1 (by first | exact Or.inl (min_s h218) | exact Or.inr (min_b h218)) : gv u1 304 16 = m_op o (gv g 256 16) (gv g 272 16) (gv g 288 16)).trans (mr_op (by omega))) hu1.1 hu1.2.1) (by rw [← mm_81 (o := o) (A := gv g 256 16) (B := gv g 272 16) (by omega) (by omega)]; exact hP) hS
                    · refine lv_iconst (v := nI 1) hx hb d_M_does_244 (by decide) ?_
                      refine lv_goto (tgt := 249) hx hb d_M_does_245 (by decide) ?_
                      refine k_Vv (As := [.int (nI 256), .int (nI 1)]) (rest := []) ⟨hx, hb, hml, hown, hts⟩ (c_M_shiftDown l E mo mb mm mw mh ml len en gas ctr siz hgt frm ret on ay g hg 256 1 (by omega) (by decide)) (k_cwV 2 hts t_954 t_956 t_55 t_71 t_957 (by decide +kernel) ⟨Nat.le_of_ble_eq_true rfl, Nat.le_of_ble_eq_true rfl⟩) hK hG hA hP hD hS [0, 3] rfl (by decide) 0 rfl rfl (fun _ => rfl) rfl hl.1 rfl (Nat.le_of_ble_eq_true rfl) d_M_does_249 ⟨Nat.zero_le _, Nat.zero_le _⟩ (fun u1 H locs hu1 hP hD hS => ?_)
                      have hP : va_P E.1 vwCl [(mo, .inr (8, [.int (nI len), .ref mb, .int (kb on), .int (nI en), .int (nI gas), .int (nI ctr), .int (nI siz), .int (nI hgt), .int (nI frm), .int (nI ret), .ref mm, .ref mw, .ref mh, .ref ml, .int (kb ay)])), (mb, .inl (E.2.1 0, 96, .inl (nF nb))), (mm, .inl (E.2.1 0, 160, .inl (nF mem))), (mw, .inl (E.2.1 0, 370, .inl (nF u1)))] H := hP
                      have hD : va_D A [(mo, .inr (8, [.int (nI len), .ref mb, .int (kb on), .int (nI en), .int (nI gas), .int (nI ctr), .int (nI siz), .int (nI hgt), .int (nI frm), .int (nI ret), .ref mm, .ref mw, .ref mh, .ref ml, .int (kb ay)])), (mb, .inl (E.2.1 0, 96, .inl (nF nb))), (mm, .inl (E.2.1 0, 160, .inl (nF mem))), (mw, .inl (E.2.1 0, 370, .inl (nF u1)))] := hD
                      refine lv_goto (tgt := 350) hx hb d_M_does_252 (by decide) ?_
                      exact hret _ ls _ _ (u1) d_M_does_350 (do_f (fun _ => (by rw [h204, mo_29]; exact sh_sar1 (gv_lt16 hg 272) (kb_n0 h241) hu1 (by first | exact Or.inl (min_s h218) | exact Or.inr (min_b h218)) : gv u1 304 16 = m_op o (gv g 256 16) (gv g 272 16) (gv g 288 16)).trans (mr_op (by omega))) hu1.1 hu1.2.1) (by rw [← mm_81 (o := o) (A := gv g 256 16) (B := gv g 272 16) (by omega) (by omega)]; exact hP) hS
              · refine lv_aload_n hx hb d_M_does_167 rfl (lv_at hl 0 rfl) ?_
                refine lv_aload_n hx hb d_M_does_168 rfl (lv_at hl 0 rfl) ?_
                refine lv_sipush (v := nI 256) hx hb d_M_does_169 (by decide) ?_
                refine k_Vp (As := [.int (nI 256)]) (rest := [.ref mo]) ⟨hx, hb, hml, hown, hts⟩ (c_M_small l E mo mb mm mw mh ml len en gas ctr siz hgt frm ret on ay g hg 256 (by decide)) (k_cwV 1 hts t_857 t_859 t_32 t_71 t_860 (by decide +kernel) ⟨Nat.le_of_ble_eq_true rfl, Nat.le_of_ble_eq_true rfl⟩) hK hG hA hP hD hS [0, 3] rfl (by decide) 0 rfl rfl rfl hl.1 rfl (Nat.le_of_ble_eq_true rfl) d_M_does_172 ⟨Nat.zero_le _, Nat.zero_le _⟩ (fun r172 hu172 => ?_)
                subst hu172
                refine lv_sipush (v := nI 255) hx hb d_M_does_175 (by decide) ?_
                refine kn_le (tgt := 187) hx hb (by omega) (by omega) d_M_does_178 (by decide) (fun h178 => ?_) (fun h178 => ?_)
                · refine lv_aload_n hx hb d_M_does_187 rfl (lv_at hl 0 rfl) ?_
                  refine lv_sipush (v := nI 256) hx hb d_M_does_188 (by decide) ?_
                  refine k_Vp (As := [.int (nI 256)]) (rest := [.ref mo]) ⟨hx, hb, hml, hown, hts⟩ (c_M_small l E mo mb mm mw mh ml len en gas ctr siz hgt frm ret on ay g hg 256 (by decide)) (k_cwV 1 hts t_857 t_859 t_32 t_71 t_860 (by decide +kernel) ⟨Nat.le_of_ble_eq_true rfl, Nat.le_of_ble_eq_true rfl⟩) hK hG hA hP hD hS [0, 3] rfl (by decide) 0 rfl rfl rfl hl.1 rfl (Nat.le_of_ble_eq_true rfl) d_M_does_191 ⟨Nat.zero_le _, Nat.zero_le _⟩ (fun r191 hu191 => ?_)
                  subst hu191
                  refine lv_iconst (v := nI 0) hx hb d_M_does_194 (by decide) ?_
                  refine k_Vv (As := [.int (nI (min (gv g 256 16) 65535)), .int (nI 0)]) (rest := []) ⟨hx, hb, hml, hown, hts⟩ (c_M_shiftDown l E mo mb mm mw mh ml len en gas ctr siz hgt frm ret on ay g hg (min (gv g 256 16) 65535) 0 (by omega) (by decide)) (k_cwV 2 hts t_954 t_956 t_55 t_71 t_957 (by decide +kernel) ⟨Nat.le_of_ble_eq_true rfl, Nat.le_of_ble_eq_true rfl⟩) hK hG hA hP hD hS [0, 3] rfl (by decide) 0 rfl rfl (fun _ => rfl) rfl hl.1 rfl (Nat.le_of_ble_eq_true rfl) d_M_does_195 ⟨Nat.zero_le _, Nat.zero_le _⟩ (fun u1 H locs hu1 hP hD hS => ?_)
                  have hP : va_P E.1 vwCl [(mo, .inr (8, [.int (nI len), .ref mb, .int (kb on), .int (nI en), .int (nI gas), .int (nI ctr), .int (nI siz), .int (nI hgt), .int (nI frm), .int (nI ret), .ref mm, .ref mw, .ref mh, .ref ml, .int (kb ay)])), (mb, .inl (E.2.1 0, 96, .inl (nF nb))), (mm, .inl (E.2.1 0, 160, .inl (nF mem))), (mw, .inl (E.2.1 0, 370, .inl (nF u1)))] H := hP
                  have hD : va_D A [(mo, .inr (8, [.int (nI len), .ref mb, .int (kb on), .int (nI en), .int (nI gas), .int (nI ctr), .int (nI siz), .int (nI hgt), .int (nI frm), .int (nI ret), .ref mm, .ref mw, .ref mh, .ref ml, .int (kb ay)])), (mb, .inl (E.2.1 0, 96, .inl (nF nb))), (mm, .inl (E.2.1 0, 160, .inl (nF mem))), (mw, .inl (E.2.1 0, 370, .inl (nF u1)))] := hD
                  refine lv_goto (tgt := 350) hx hb d_M_does_198 (by decide) ?_
                  exact hret _ ls _ _ (u1) d_M_does_350 (do_f (fun _ => (by rw [h164, mo_28]; exact sh_shr (gv_lt16 hg 272) hu1 (by first | exact Or.inl (min_s h178) | exact Or.inr (min_b h178)) : gv u1 304 16 = m_op o (gv g 256 16) (gv g 272 16) (gv g 288 16)).trans (mr_op (by omega))) hu1.1 hu1.2.1) (by rw [← mm_81 (o := o) (A := gv g 256 16) (B := gv g 272 16) (by omega) (by omega)]; exact hP) hS
                · refine lv_sipush (v := nI 256) hx hb d_M_does_181 (by decide) ?_
                  refine lv_goto (tgt := 194) hx hb d_M_does_184 (by decide) ?_
                  refine lv_iconst (v := nI 0) hx hb d_M_does_194 (by decide) ?_
                  refine k_Vv (As := [.int (nI 256), .int (nI 0)]) (rest := []) ⟨hx, hb, hml, hown, hts⟩ (c_M_shiftDown l E mo mb mm mw mh ml len en gas ctr siz hgt frm ret on ay g hg 256 0 (by omega) (by decide)) (k_cwV 2 hts t_954 t_956 t_55 t_71 t_957 (by decide +kernel) ⟨Nat.le_of_ble_eq_true rfl, Nat.le_of_ble_eq_true rfl⟩) hK hG hA hP hD hS [0, 3] rfl (by decide) 0 rfl rfl (fun _ => rfl) rfl hl.1 rfl (Nat.le_of_ble_eq_true rfl) d_M_does_195 ⟨Nat.zero_le _, Nat.zero_le _⟩ (fun u1 H locs hu1 hP hD hS => ?_)
                  have hP : va_P E.1 vwCl [(mo, .inr (8, [.int (nI len), .ref mb, .int (kb on), .int (nI en), .int (nI gas), .int (nI ctr), .int (nI siz), .int (nI hgt), .int (nI frm), .int (nI ret), .ref mm, .ref mw, .ref mh, .ref ml, .int (kb ay)])), (mb, .inl (E.2.1 0, 96, .inl (nF nb))), (mm, .inl (E.2.1 0, 160, .inl (nF mem))), (mw, .inl (E.2.1 0, 370, .inl (nF u1)))] H := hP
                  have hD : va_D A [(mo, .inr (8, [.int (nI len), .ref mb, .int (kb on), .int (nI en), .int (nI gas), .int (nI ctr), .int (nI siz), .int (nI hgt), .int (nI frm), .int (nI ret), .ref mm, .ref mw, .ref mh, .ref ml, .int (kb ay)])), (mb, .inl (E.2.1 0, 96, .inl (nF nb))), (mm, .inl (E.2.1 0, 160, .inl (nF mem))), (mw, .inl (E.2.1 0, 370, .inl (nF u1)))] := hD
                  refine lv_goto (tgt := 350) hx hb d_M_does_198 (by decide) ?_
                  exact hret _ ls _ _ (u1) d_M_does_350 (do_f (fun _ => (by rw [h164, mo_28]; exact sh_shr (gv_lt16 hg 272) hu1 (by first | exact Or.inl (min_s h178) | exact Or.inr (min_b h178)) : gv u1 304 16 = m_op o (gv g 256 16) (gv g 272 16) (gv g 288 16)).trans (mr_op (by omega))) hu1.1 hu1.2.1) (by rw [← mm_81 (o := o) (A := gv g 256 16) (B := gv g 272 16) (by omega) (by omega)]; exact hP) hS
            · refine lv_aload_n hx hb d_M_does_126 rfl (lv_at hl 0 rfl) ?_
              refine lv_aload_n hx hb d_M_does_127 rfl (lv_at hl 0 rfl) ?_
              refine lv_sipush (v := nI 256) hx hb d_M_does_128 (by decide) ?_
              refine k_Vp (As := [.int (nI 256)]) (rest := [.ref mo]) ⟨hx, hb, hml, hown, hts⟩ (c_M_small l E mo mb mm mw mh ml len en gas ctr siz hgt frm ret on ay g hg 256 (by decide)) (k_cwV 1 hts t_857 t_859 t_32 t_71 t_860 (by decide +kernel) ⟨Nat.le_of_ble_eq_true rfl, Nat.le_of_ble_eq_true rfl⟩) hK hG hA hP hD hS [0, 3] rfl (by decide) 0 rfl rfl rfl hl.1 rfl (Nat.le_of_ble_eq_true rfl) d_M_does_131 ⟨Nat.zero_le _, Nat.zero_le _⟩ (fun r131 hu131 => ?_)
              subst hu131
              refine lv_sipush (v := nI 255) hx hb d_M_does_134 (by decide) ?_
              refine kn_le (tgt := 146) hx hb (by omega) (by omega) d_M_does_137 (by decide) (fun h137 => ?_) (fun h137 => ?_)
              · refine lv_aload_n hx hb d_M_does_146 rfl (lv_at hl 0 rfl) ?_
                refine lv_sipush (v := nI 256) hx hb d_M_does_147 (by decide) ?_
                refine k_Vp (As := [.int (nI 256)]) (rest := [.ref mo]) ⟨hx, hb, hml, hown, hts⟩ (c_M_small l E mo mb mm mw mh ml len en gas ctr siz hgt frm ret on ay g hg 256 (by decide)) (k_cwV 1 hts t_857 t_859 t_32 t_71 t_860 (by decide +kernel) ⟨Nat.le_of_ble_eq_true rfl, Nat.le_of_ble_eq_true rfl⟩) hK hG hA hP hD hS [0, 3] rfl (by decide) 0 rfl rfl rfl hl.1 rfl (Nat.le_of_ble_eq_true rfl) d_M_does_150 ⟨Nat.zero_le _, Nat.zero_le _⟩ (fun r150 hu150 => ?_)
                subst hu150
                refine lv_ineg hx hb d_M_does_153 ?_
                refine lv_iconst (v := nI 0) hx hb d_M_does_154 (by decide) ?_
                refine k_Vv (As := [.int (-(nI (min (gv g 256 16) 65535))), .int (nI 0)]) (rest := []) ⟨hx, hb, hml, hown, hts⟩ (c_M_shiftUp l E mo mb mm mw mh ml len en gas ctr siz hgt frm ret on ay g hg (min (gv g 256 16) 65535) 0 (by omega) (by decide)) (k_cwV 2 hts t_954 t_956 t_55 t_71 t_957 (by decide +kernel) ⟨Nat.le_of_ble_eq_true rfl, Nat.le_of_ble_eq_true rfl⟩) hK hG hA hP hD hS [0, 3] rfl (by decide) 0 rfl rfl (fun _ => rfl) rfl hl.1 rfl (Nat.le_of_ble_eq_true rfl) d_M_does_155 ⟨Nat.zero_le _, Nat.zero_le _⟩ (fun u1 H locs hu1 hP hD hS => ?_)
                have hP : va_P E.1 vwCl [(mo, .inr (8, [.int (nI len), .ref mb, .int (kb on), .int (nI en), .int (nI gas), .int (nI ctr), .int (nI siz), .int (nI hgt), .int (nI frm), .int (nI ret), .ref mm, .ref mw, .ref mh, .ref ml, .int (kb ay)])), (mb, .inl (E.2.1 0, 96, .inl (nF nb))), (mm, .inl (E.2.1 0, 160, .inl (nF mem))), (mw, .inl (E.2.1 0, 370, .inl (nF u1)))] H := hP
                have hD : va_D A [(mo, .inr (8, [.int (nI len), .ref mb, .int (kb on), .int (nI en), .int (nI gas), .int (nI ctr), .int (nI siz), .int (nI hgt), .int (nI frm), .int (nI ret), .ref mm, .ref mw, .ref mh, .ref ml, .int (kb ay)])), (mb, .inl (E.2.1 0, 96, .inl (nF nb))), (mm, .inl (E.2.1 0, 160, .inl (nF mem))), (mw, .inl (E.2.1 0, 370, .inl (nF u1)))] := hD
                refine lv_goto (tgt := 350) hx hb d_M_does_158 (by decide) ?_
                exact hret _ ls _ _ (u1) d_M_does_350 (do_f (fun _ => (by rw [h123, mo_27]; exact sh_shl hu1 (by first | exact Or.inl (min_s h137) | exact Or.inr (min_b h137)) : gv u1 304 16 = m_op o (gv g 256 16) (gv g 272 16) (gv g 288 16)).trans (mr_op (by omega))) hu1.1 hu1.2.1) (by rw [← mm_81 (o := o) (A := gv g 256 16) (B := gv g 272 16) (by omega) (by omega)]; exact hP) hS
              · refine lv_sipush (v := -256) hx hb d_M_does_140 (by decide) ?_
                refine k_top (y := -(nI 256)) (by decide) ?_
                refine lv_goto (tgt := 154) hx hb d_M_does_143 (by decide) ?_
                refine lv_iconst (v := nI 0) hx hb d_M_does_154 (by decide) ?_
                refine k_Vv (As := [.int (-(nI 256)), .int (nI 0)]) (rest := []) ⟨hx, hb, hml, hown, hts⟩ (c_M_shiftUp l E mo mb mm mw mh ml len en gas ctr siz hgt frm ret on ay g hg 256 0 (by omega) (by decide)) (k_cwV 2 hts t_954 t_956 t_55 t_71 t_957 (by decide +kernel) ⟨Nat.le_of_ble_eq_true rfl, Nat.le_of_ble_eq_true rfl⟩) hK hG hA hP hD hS [0, 3] rfl (by decide) 0 rfl rfl (fun _ => rfl) rfl hl.1 rfl (Nat.le_of_ble_eq_true rfl) d_M_does_155 ⟨Nat.zero_le _, Nat.zero_le _⟩ (fun u1 H locs hu1 hP hD hS => ?_)
                have hP : va_P E.1 vwCl [(mo, .inr (8, [.int (nI len), .ref mb, .int (kb on), .int (nI en), .int (nI gas), .int (nI ctr), .int (nI siz), .int (nI hgt), .int (nI frm), .int (nI ret), .ref mm, .ref mw, .ref mh, .ref ml, .int (kb ay)])), (mb, .inl (E.2.1 0, 96, .inl (nF nb))), (mm, .inl (E.2.1 0, 160, .inl (nF mem))), (mw, .inl (E.2.1 0, 370, .inl (nF u1)))] H := hP
                have hD : va_D A [(mo, .inr (8, [.int (nI len), .ref mb, .int (kb on), .int (nI en), .int (nI gas), .int (nI ctr), .int (nI siz), .int (nI hgt), .int (nI frm), .int (nI ret), .ref mm, .ref mw, .ref mh, .ref ml, .int (kb ay)])), (mb, .inl (E.2.1 0, 96, .inl (nF nb))), (mm, .inl (E.2.1 0, 160, .inl (nF mem))), (mw, .inl (E.2.1 0, 370, .inl (nF u1)))] := hD
                refine lv_goto (tgt := 350) hx hb d_M_does_158 (by decide) ?_
                exact hret _ ls _ _ (u1) d_M_does_350 (do_f (fun _ => (by rw [h123, mo_27]; exact sh_shl hu1 (by first | exact Or.inl (min_s h137) | exact Or.inr (min_b h137)) : gv u1 304 16 = m_op o (gv g 256 16) (gv g 272 16) (gv g 288 16)).trans (mr_op (by omega))) hu1.1 hu1.2.1) (by rw [← mm_81 (o := o) (A := gv g 256 16) (B := gv g 272 16) (by omega) (by omega)]; exact hP) hS
          · refine lv_aload_n hx hb d_M_does_80 rfl (lv_at hl 0 rfl) ?_
            refine lv_sipush (v := nI 304) hx hb d_M_does_81 (by decide) ?_
            refine lv_aload_n hx hb d_M_does_84 rfl (lv_at hl 0 rfl) ?_
            refine lv_sipush (v := nI 256) hx hb d_M_does_85 (by decide) ?_
            refine k_Vp (As := [.int (nI 256)]) (rest := [.int (nI 304), .ref mo]) ⟨hx, hb, hml, hown, hts⟩ (c_M_small l E mo mb mm mw mh ml len en gas ctr siz hgt frm ret on ay g hg 256 (by decide)) (k_cwV 1 hts t_857 t_859 t_32 t_71 t_860 (by decide +kernel) ⟨Nat.le_of_ble_eq_true rfl, Nat.le_of_ble_eq_true rfl⟩) hK hG hA hP hD hS [0, 3] rfl (by decide) 0 rfl rfl rfl hl.1 rfl (Nat.le_of_ble_eq_true rfl) d_M_does_88 ⟨Nat.zero_le _, Nat.zero_le _⟩ (fun r88 hu88 => ?_)
            subst hu88
            refine lv_bipush (v := nI 31) hx hb d_M_does_91 (by decide) ?_
            refine kn_le (tgt := 100) hx hb (by omega) (by omega) d_M_does_93 (by decide) (fun h93 => ?_) (fun h93 => ?_)
            · refine lv_aload_n hx hb d_M_does_100 rfl (lv_at hl 0 rfl) ?_
              refine lv_sipush (v := nI 272) hx hb d_M_does_101 (by decide) ?_
              refine lv_aload_n hx hb d_M_does_104 rfl (lv_at hl 0 rfl) ?_
              refine lv_sipush (v := nI 256) hx hb d_M_does_105 (by decide) ?_
              refine k_Vp (As := [.int (nI 256)]) (rest := [.int (nI 272), .ref mo, .int (nI 304), .ref mo]) ⟨hx, hb, hml, hown, hts⟩ (c_M_small l E mo mb mm mw mh ml len en gas ctr siz hgt frm ret on ay g hg 256 (by decide)) (k_cwV 1 hts t_857 t_859 t_32 t_71 t_860 (by decide +kernel) ⟨Nat.le_of_ble_eq_true rfl, Nat.le_of_ble_eq_true rfl⟩) hK hG hA hP hD hS [0, 3] rfl (by decide) 0 rfl rfl rfl hl.1 rfl (Nat.le_of_ble_eq_true rfl) d_M_does_108 ⟨Nat.zero_le _, Nat.zero_le _⟩ (fun r108 hu108 => ?_)
              subst hu108
              refine k_Vp (As := [.int (nI 272), .int (nI (min (gv g 256 16) 65535))]) (rest := [.int (nI 304), .ref mo]) ⟨hx, hb, hml, hown, hts⟩ (c_M_byteOf l E mo mb mm mw mh ml len en gas ctr siz hgt frm ret on ay g hg 272 (min (gv g 256 16) 65535) (by decide) (by omega)) (k_cwV 2 hts t_950 t_952 t_54 t_71 t_953 (by decide +kernel) ⟨Nat.le_of_ble_eq_true rfl, Nat.le_of_ble_eq_true rfl⟩) hK hG hA hP hD hS [0, 3] rfl (by decide) 0 rfl rfl rfl hl.1 rfl (Nat.le_of_ble_eq_true rfl) d_M_does_111 ⟨Nat.zero_le _, Nat.zero_le _⟩ (fun r111 hu111 => ?_)
              subst hu111
              have hnv : (m_byte (min (gv g 256 16) 65535) (gv g 272 16)) < 2147483648 := (Nat.lt_trans (byte_b _ _) (by decide))
              refine k_Vv (As := [.int (nI 304), .int (nI (m_byte (min (gv g 256 16) 65535) (gv g 272 16)))]) (rest := []) ⟨hx, hb, hml, hown, hts⟩ (c_M_number l E mo mb mm mw mh ml len en gas ctr siz hgt frm ret on ay g hg 304 (m_byte (min (gv g 256 16) 65535) (gv g 272 16)) (by decide) hnv) (k_cwV 2 hts t_942 t_944 t_52 t_71 t_945 (by decide +kernel) ⟨Nat.le_of_ble_eq_true rfl, Nat.le_of_ble_eq_true rfl⟩) hK hG hA hP hD hS [0, 3] rfl (by decide) 0 rfl rfl (fun _ => rfl) rfl hl.1 rfl (Nat.le_of_ble_eq_true rfl) d_M_does_114 ⟨Nat.zero_le _, Nat.zero_le _⟩ (fun u1 H locs hu1 hP hD hS => ?_)
              have hP : va_P E.1 vwCl [(mo, .inr (8, [.int (nI len), .ref mb, .int (kb on), .int (nI en), .int (nI gas), .int (nI ctr), .int (nI siz), .int (nI hgt), .int (nI frm), .int (nI ret), .ref mm, .ref mw, .ref mh, .ref ml, .int (kb ay)])), (mb, .inl (E.2.1 0, 96, .inl (nF nb))), (mm, .inl (E.2.1 0, 160, .inl (nF mem))), (mw, .inl (E.2.1 0, 370, .inl (nF (nmb g 304 (m_byte (min (gv g 256 16) 65535) (gv g 272 16))))))] H := hP
              have hD : va_D A [(mo, .inr (8, [.int (nI len), .ref mb, .int (kb on), .int (nI en), .int (nI gas), .int (nI ctr), .int (nI siz), .int (nI hgt), .int (nI frm), .int (nI ret), .ref mm, .ref mw, .ref mh, .ref ml, .int (kb ay)])), (mb, .inl (E.2.1 0, 96, .inl (nF nb))), (mm, .inl (E.2.1 0, 160, .inl (nF mem))), (mw, .inl (E.2.1 0, 370, .inl (nF (nmb g 304 (m_byte (min (gv g 256 16) 65535) (gv g 272 16))))))] := hD
              refine lv_goto (tgt := 350) hx hb d_M_does_117 (by decide) ?_
              exact hret _ ls _ _ (nmb g 304 (m_byte (min (gv g 256 16) 65535) (gv g 272 16))) d_M_does_350 (do_n hg (Nat.lt_trans hnv (by decide)) ((by rw [h77, mo_26]; first | exact byt_min h93 | exact byt_big h93 : m_byte (min (gv g 256 16) 65535) (gv g 272 16) = m_op o (gv g 256 16) (gv g 272 16) (gv g 288 16)).trans (mr_op (by omega)))) (by rw [← mm_81 (o := o) (A := gv g 256 16) (B := gv g 272 16) (by omega) (by omega)]; exact hP) hS
            · refine lv_iconst (v := nI 0) hx hb d_M_does_96 (by decide) ?_
              refine lv_goto (tgt := 114) hx hb d_M_does_97 (by decide) ?_
              have hnv : 0 < 2147483648 := (by omega)
              refine k_Vv (As := [.int (nI 304), .int (nI 0)]) (rest := []) ⟨hx, hb, hml, hown, hts⟩ (c_M_number l E mo mb mm mw mh ml len en gas ctr siz hgt frm ret on ay g hg 304 0 (by decide) hnv) (k_cwV 2 hts t_942 t_944 t_52 t_71 t_945 (by decide +kernel) ⟨Nat.le_of_ble_eq_true rfl, Nat.le_of_ble_eq_true rfl⟩) hK hG hA hP hD hS [0, 3] rfl (by decide) 0 rfl rfl (fun _ => rfl) rfl hl.1 rfl (Nat.le_of_ble_eq_true rfl) d_M_does_114 ⟨Nat.zero_le _, Nat.zero_le _⟩ (fun u1 H locs hu1 hP hD hS => ?_)
              have hP : va_P E.1 vwCl [(mo, .inr (8, [.int (nI len), .ref mb, .int (kb on), .int (nI en), .int (nI gas), .int (nI ctr), .int (nI siz), .int (nI hgt), .int (nI frm), .int (nI ret), .ref mm, .ref mw, .ref mh, .ref ml, .int (kb ay)])), (mb, .inl (E.2.1 0, 96, .inl (nF nb))), (mm, .inl (E.2.1 0, 160, .inl (nF mem))), (mw, .inl (E.2.1 0, 370, .inl (nF (nmb g 304 0))))] H := hP
              have hD : va_D A [(mo, .inr (8, [.int (nI len), .ref mb, .int (kb on), .int (nI en), .int (nI gas), .int (nI ctr), .int (nI siz), .int (nI hgt), .int (nI frm), .int (nI ret), .ref mm, .ref mw, .ref mh, .ref ml, .int (kb ay)])), (mb, .inl (E.2.1 0, 96, .inl (nF nb))), (mm, .inl (E.2.1 0, 160, .inl (nF mem))), (mw, .inl (E.2.1 0, 370, .inl (nF (nmb g 304 0))))] := hD
              refine lv_goto (tgt := 350) hx hb d_M_does_117 (by decide) ?_
              exact hret _ ls _ _ (nmb g 304 0) d_M_does_350 (do_n hg (Nat.lt_trans hnv (by decide)) ((by rw [h77, mo_26]; first | exact byt_min h93 | exact byt_big h93 : 0 = m_op o (gv g 256 16) (gv g 272 16) (gv g 288 16)).trans (mr_op (by omega)))) (by rw [← mm_81 (o := o) (A := gv g 256 16) (B := gv g 272 16) (by omega) (by omega)]; exact hP) hS
        · refine lv_iload_n hx hb d_M_does_60 rfl (lv_at hl 1 rfl) ?_
          refine lv_bipush (v := nI 25) hx hb d_M_does_61 (by decide) ?_
          refine kn_gt (tgt := 74) hx hb (by omega) (by omega) d_M_does_63 (by decide) (fun h63 => ?_) (fun h63 => ?_)
          · refine lv_iload_n hx hb d_M_does_74 rfl (lv_at hl 1 rfl) ?_
            refine lv_bipush (v := nI 26) hx hb d_M_does_75 (by decide) ?_
            refine kn_ne (tgt := 120) hx hb (by omega) (by omega) d_M_does_77 (by decide) (fun h77 => ?_) (fun h77 => ?_)
            · refine lv_iload_n hx hb d_M_does_120 rfl (lv_at hl 1 rfl) ?_
              refine lv_bipush (v := nI 27) hx hb d_M_does_121 (by decide) ?_
              refine kn_ne (tgt := 161) hx hb (by omega) (by omega) d_M_does_123 (by decide) (fun h123 => ?_) (fun h123 => ?_)
              · refine lv_iload_n hx hb d_M_does_161 rfl (lv_at hl 1 rfl) ?_
                refine lv_bipush (v := nI 28) hx hb d_M_does_162 (by decide) ?_
                refine kn_ne (tgt := 201) hx hb (by omega) (by omega) d_M_does_164 (by decide) (fun h164 => ?_) (fun h164 => ?_)
                · refine lv_iload_n hx hb d_M_does_201 rfl (lv_at hl 1 rfl) ?_
                  refine lv_bipush (v := nI 29) hx hb d_M_does_202 (by decide) ?_
                  refine kn_ne (tgt := 255) hx hb (by omega) (by omega) d_M_does_204 (by decide) (fun h204 => ?_) (fun h204 => ?_)
                  · refine lv_iload_n hx hb d_M_does_255 rfl (lv_at hl 1 rfl) ?_
                    refine lv_bipush (v := nI 81) hx hb d_M_does_256 (by decide) ?_
                    refine kn_lt (tgt := 275) hx hb (by omega) (by omega) d_M_does_258 (by decide) (fun h258 => ?_) (fun h258 => ?_)
                    · refine lv_iload_n hx hb d_M_does_275 rfl (lv_at hl 1 rfl) ?_
                      refine lv_bipush (v := nI 88) hx hb d_M_does_276 (by decide) ?_
                      refine kn_ne (tgt := 295) hx hb (by omega) (by omega) d_M_does_278 (by decide) (fun h278 => ?_) (fun h278 => ?_)
                      · refine lv_iload_n hx hb d_M_does_295 rfl (lv_at hl 1 rfl) ?_
                        refine lv_bipush (v := nI 89) hx hb d_M_does_296 (by decide) ?_
                        refine kn_ne (tgt := 315) hx hb (by omega) (by omega) d_M_does_298 (by decide) (fun h298 => ?_) (fun h298 => ?_)
                        · refine lv_iload_n hx hb d_M_does_315 rfl (lv_at hl 1 rfl) ?_
                          refine lv_bipush (v := nI 90) hx hb d_M_does_316 (by decide) ?_
                          refine kn_ne (tgt := 335) hx hb (by omega) (by omega) d_M_does_318 (by decide) (fun h318 => ?_) (fun h318 => ?_)
                          · refine lv_iload_n hx hb d_M_does_335 rfl (lv_at hl 1 rfl) ?_
                            refine k_Sp (As := [.int (nI o)]) (rest := []) ⟨hx, hb, hml, hown, hts⟩ (c_M_hasNumber l E o (by omega)) (k_cwS 1 hts t_816 t_817 t_71 t_818 (by decide +kernel) ⟨Nat.le_of_ble_eq_true rfl, Nat.le_of_ble_eq_true rfl⟩) hK hG hA hP hD hS [] rfl (by decide) rfl hl.1 rfl (Nat.le_of_ble_eq_true rfl) d_M_does_336 ⟨Nat.zero_le _, Nat.zero_le _⟩ (fun r336 hu336 => ?_)
                            subst hu336
                            refine lv_if_eq (tgt := 350) hx hb d_M_does_339 (by decide) (fun h339 => ?_) (fun h339 => ?_)
                            · have hq := of_decide_eq_false (kb_0.mp h339)
                              exact hret _ ls _ _ (g) d_M_does_350 (do_0 hg (mg_0 hk (by omega) (by omega) (by omega) (by omega))) (by rw [← mm_81 (o := o) (A := gv g 256 16) (B := gv g 272 16) (by omega) (by omega)]; exact hP) hS
                            · have hq := of_decide_eq_true (kb_n0 h339)
                              refine lv_aload_n hx hb d_M_does_342 rfl (lv_at hl 0 rfl) ?_
                              refine lv_iload_n hx hb d_M_does_343 rfl (lv_at hl 1 rfl) ?_
                              refine lv_bipush (v := nI 95) hx hb d_M_does_344 (by decide) ?_
                              refine lv_isub hx hb d_M_does_346 ?_
                              refine k_top (pk_sub (by omega)) ?_
                              refine k_Vv (As := [.int (nI (o - 95))]) (rest := []) ⟨hx, hb, hml, hown, hts⟩ (c_M_reads l E mo mb mm mw mh ml len en gas ctr siz hgt frm ret on ay g hg nb bb okb (o - 95) (by omega) hc) (k_cwV 1 hts t_962 t_964 t_57 t_71 t_965 (by decide +kernel) ⟨Nat.le_of_ble_eq_true rfl, Nat.le_of_ble_eq_true rfl⟩) hK hG hA hP hD hS [0, 1, 3] rfl (by decide) 0 rfl rfl (fun _ => rfl) rfl hl.1 rfl (Nat.le_of_ble_eq_true rfl) d_M_does_347 ⟨Nat.zero_le _, Nat.zero_le _⟩ (fun u1 H locs hu1 hP hD hS => ?_)
                              have hP : va_P E.1 vwCl [(mo, .inr (8, [.int (nI len), .ref mb, .int (kb on), .int (nI en), .int (nI gas), .int (nI ctr), .int (nI siz), .int (nI hgt), .int (nI frm), .int (nI ret), .ref mm, .ref mw, .ref mh, .ref ml, .int (kb ay)])), (mb, .inl (E.2.1 0, 96, .inl (nF nb))), (mm, .inl (E.2.1 0, 160, .inl (nF mem))), (mw, .inl (E.2.1 0, 370, .inl (nF u1)))] H := hP
                              have hD : va_D A [(mo, .inr (8, [.int (nI len), .ref mb, .int (kb on), .int (nI en), .int (nI gas), .int (nI ctr), .int (nI siz), .int (nI hgt), .int (nI frm), .int (nI ret), .ref mm, .ref mw, .ref mh, .ref ml, .int (kb ay)])), (mb, .inl (E.2.1 0, 96, .inl (nF nb))), (mm, .inl (E.2.1 0, 160, .inl (nF mem))), (mw, .inl (E.2.1 0, 370, .inl (nF u1)))] := hD
                              exact hret _ ls _ _ (u1) d_M_does_350 (do_f (fun _ => hu1.1.trans (mr_num hq)) hu1.2.1 hu1.2.2) (by rw [← mm_81 (o := o) (A := gv g 256 16) (B := gv g 272 16) (by omega) (by omega)]; exact hP) hS
                          · refine lv_aload_n hx hb d_M_does_321 rfl (lv_at hl 0 rfl) ?_
                            refine lv_sipush (v := nI 304) hx hb d_M_does_322 (by decide) ?_
                            refine lv_aload_n hx hb d_M_does_325 rfl (lv_at hl 0 rfl) ?_
                            refine va_get (D := E.1) (ci := 8) (v := .int (nI gas)) (C := "WideStackModel") (T := T_M) (N := 15) hx hb hts in_M hown hK hP 0 rfl rfl 4 (by decide) (hts _ t_751) (fun _ h9 => h9) rfl d_M_does_326 ?_
                            have hnv : gas < 2147483648 := (by omega)
                            refine k_Vv (As := [.int (nI 304), .int (nI gas)]) (rest := []) ⟨hx, hb, hml, hown, hts⟩ (c_M_number l E mo mb mm mw mh ml len en gas ctr siz hgt frm ret on ay g hg 304 gas (by decide) hnv) (k_cwV 2 hts t_942 t_944 t_52 t_71 t_945 (by decide +kernel) ⟨Nat.le_of_ble_eq_true rfl, Nat.le_of_ble_eq_true rfl⟩) hK hG hA hP hD hS [0, 3] rfl (by decide) 0 rfl rfl (fun _ => rfl) rfl hl.1 rfl (Nat.le_of_ble_eq_true rfl) d_M_does_329 ⟨Nat.zero_le _, Nat.zero_le _⟩ (fun u1 H locs hu1 hP hD hS => ?_)
                            have hP : va_P E.1 vwCl [(mo, .inr (8, [.int (nI len), .ref mb, .int (kb on), .int (nI en), .int (nI gas), .int (nI ctr), .int (nI siz), .int (nI hgt), .int (nI frm), .int (nI ret), .ref mm, .ref mw, .ref mh, .ref ml, .int (kb ay)])), (mb, .inl (E.2.1 0, 96, .inl (nF nb))), (mm, .inl (E.2.1 0, 160, .inl (nF mem))), (mw, .inl (E.2.1 0, 370, .inl (nF (nmb g 304 gas))))] H := hP
                            have hD : va_D A [(mo, .inr (8, [.int (nI len), .ref mb, .int (kb on), .int (nI en), .int (nI gas), .int (nI ctr), .int (nI siz), .int (nI hgt), .int (nI frm), .int (nI ret), .ref mm, .ref mw, .ref mh, .ref ml, .int (kb ay)])), (mb, .inl (E.2.1 0, 96, .inl (nF nb))), (mm, .inl (E.2.1 0, 160, .inl (nF mem))), (mw, .inl (E.2.1 0, 370, .inl (nF (nmb g 304 gas))))] := hD
                            refine lv_goto (tgt := 350) hx hb d_M_does_332 (by decide) ?_
                            exact hret _ ls _ _ (nmb g 304 gas) d_M_does_350 (do_n hg (by omega) (mr_90 h318)) (by rw [← mm_81 (o := o) (A := gv g 256 16) (B := gv g 272 16) (by omega) (by omega)]; exact hP) hS
                        · refine lv_aload_n hx hb d_M_does_301 rfl (lv_at hl 0 rfl) ?_
                          refine lv_sipush (v := nI 304) hx hb d_M_does_302 (by decide) ?_
                          refine lv_aload_n hx hb d_M_does_305 rfl (lv_at hl 0 rfl) ?_
                          refine va_get (D := E.1) (ci := 8) (v := .int (nI siz)) (C := "WideStackModel") (T := T_M) (N := 15) hx hb hts in_M hown hK hP 0 rfl rfl 6 (by decide) (hts _ t_753) (fun _ h9 => h9) rfl d_M_does_306 ?_
                          have hnv : siz < 2147483648 := (by omega)
                          refine k_Vv (As := [.int (nI 304), .int (nI siz)]) (rest := []) ⟨hx, hb, hml, hown, hts⟩ (c_M_number l E mo mb mm mw mh ml len en gas ctr siz hgt frm ret on ay g hg 304 siz (by decide) hnv) (k_cwV 2 hts t_942 t_944 t_52 t_71 t_945 (by decide +kernel) ⟨Nat.le_of_ble_eq_true rfl, Nat.le_of_ble_eq_true rfl⟩) hK hG hA hP hD hS [0, 3] rfl (by decide) 0 rfl rfl (fun _ => rfl) rfl hl.1 rfl (Nat.le_of_ble_eq_true rfl) d_M_does_309 ⟨Nat.zero_le _, Nat.zero_le _⟩ (fun u1 H locs hu1 hP hD hS => ?_)
                          have hP : va_P E.1 vwCl [(mo, .inr (8, [.int (nI len), .ref mb, .int (kb on), .int (nI en), .int (nI gas), .int (nI ctr), .int (nI siz), .int (nI hgt), .int (nI frm), .int (nI ret), .ref mm, .ref mw, .ref mh, .ref ml, .int (kb ay)])), (mb, .inl (E.2.1 0, 96, .inl (nF nb))), (mm, .inl (E.2.1 0, 160, .inl (nF mem))), (mw, .inl (E.2.1 0, 370, .inl (nF (nmb g 304 siz))))] H := hP
                          have hD : va_D A [(mo, .inr (8, [.int (nI len), .ref mb, .int (kb on), .int (nI en), .int (nI gas), .int (nI ctr), .int (nI siz), .int (nI hgt), .int (nI frm), .int (nI ret), .ref mm, .ref mw, .ref mh, .ref ml, .int (kb ay)])), (mb, .inl (E.2.1 0, 96, .inl (nF nb))), (mm, .inl (E.2.1 0, 160, .inl (nF mem))), (mw, .inl (E.2.1 0, 370, .inl (nF (nmb g 304 siz))))] := hD
                          refine lv_goto (tgt := 350) hx hb d_M_does_312 (by decide) ?_
                          exact hret _ ls _ _ (nmb g 304 siz) d_M_does_350 (do_n hg (by omega) (mr_89 h298)) (by rw [← mm_81 (o := o) (A := gv g 256 16) (B := gv g 272 16) (by omega) (by omega)]; exact hP) hS
                      · refine lv_aload_n hx hb d_M_does_281 rfl (lv_at hl 0 rfl) ?_
                        refine lv_sipush (v := nI 304) hx hb d_M_does_282 (by decide) ?_
                        refine lv_aload_n hx hb d_M_does_285 rfl (lv_at hl 0 rfl) ?_
                        refine va_get (D := E.1) (ci := 8) (v := .int (nI ctr)) (C := "WideStackModel") (T := T_M) (N := 15) hx hb hts in_M hown hK hP 0 rfl rfl 5 (by decide) (hts _ t_752) (fun _ h9 => h9) rfl d_M_does_286 ?_
                        have hnv : ctr < 2147483648 := (by omega)
                        refine k_Vv (As := [.int (nI 304), .int (nI ctr)]) (rest := []) ⟨hx, hb, hml, hown, hts⟩ (c_M_number l E mo mb mm mw mh ml len en gas ctr siz hgt frm ret on ay g hg 304 ctr (by decide) hnv) (k_cwV 2 hts t_942 t_944 t_52 t_71 t_945 (by decide +kernel) ⟨Nat.le_of_ble_eq_true rfl, Nat.le_of_ble_eq_true rfl⟩) hK hG hA hP hD hS [0, 3] rfl (by decide) 0 rfl rfl (fun _ => rfl) rfl hl.1 rfl (Nat.le_of_ble_eq_true rfl) d_M_does_289 ⟨Nat.zero_le _, Nat.zero_le _⟩ (fun u1 H locs hu1 hP hD hS => ?_)
                        have hP : va_P E.1 vwCl [(mo, .inr (8, [.int (nI len), .ref mb, .int (kb on), .int (nI en), .int (nI gas), .int (nI ctr), .int (nI siz), .int (nI hgt), .int (nI frm), .int (nI ret), .ref mm, .ref mw, .ref mh, .ref ml, .int (kb ay)])), (mb, .inl (E.2.1 0, 96, .inl (nF nb))), (mm, .inl (E.2.1 0, 160, .inl (nF mem))), (mw, .inl (E.2.1 0, 370, .inl (nF (nmb g 304 ctr))))] H := hP
                        have hD : va_D A [(mo, .inr (8, [.int (nI len), .ref mb, .int (kb on), .int (nI en), .int (nI gas), .int (nI ctr), .int (nI siz), .int (nI hgt), .int (nI frm), .int (nI ret), .ref mm, .ref mw, .ref mh, .ref ml, .int (kb ay)])), (mb, .inl (E.2.1 0, 96, .inl (nF nb))), (mm, .inl (E.2.1 0, 160, .inl (nF mem))), (mw, .inl (E.2.1 0, 370, .inl (nF (nmb g 304 ctr))))] := hD
                        refine lv_goto (tgt := 350) hx hb d_M_does_292 (by decide) ?_
                        exact hret _ ls _ _ (nmb g 304 ctr) d_M_does_350 (do_n hg (by omega) (mr_88 h278)) (by rw [← mm_81 (o := o) (A := gv g 256 16) (B := gv g 272 16) (by omega) (by omega)]; exact hP) hS
                    · refine lv_iload_n hx hb d_M_does_261 rfl (lv_at hl 1 rfl) ?_
                      refine lv_bipush (v := nI 83) hx hb d_M_does_262 (by decide) ?_
                      refine kn_gt (tgt := 275) hx hb (by omega) (by omega) d_M_does_264 (by decide) (fun h264 => ?_) (fun h264 => ?_)
                      · refine lv_iload_n hx hb d_M_does_275 rfl (lv_at hl 1 rfl) ?_
                        refine lv_bipush (v := nI 88) hx hb d_M_does_276 (by decide) ?_
                        refine kn_ne (tgt := 295) hx hb (by omega) (by omega) d_M_does_278 (by decide) (fun h278 => ?_) (fun h278 => ?_)
                        · refine lv_iload_n hx hb d_M_does_295 rfl (lv_at hl 1 rfl) ?_
                          refine lv_bipush (v := nI 89) hx hb d_M_does_296 (by decide) ?_
                          refine kn_ne (tgt := 315) hx hb (by omega) (by omega) d_M_does_298 (by decide) (fun h298 => ?_) (fun h298 => ?_)
                          · refine lv_iload_n hx hb d_M_does_315 rfl (lv_at hl 1 rfl) ?_
                            refine lv_bipush (v := nI 90) hx hb d_M_does_316 (by decide) ?_
                            refine kn_ne (tgt := 335) hx hb (by omega) (by omega) d_M_does_318 (by decide) (fun h318 => ?_) (fun h318 => ?_)
                            · refine lv_iload_n hx hb d_M_does_335 rfl (lv_at hl 1 rfl) ?_
                              refine k_Sp (As := [.int (nI o)]) (rest := []) ⟨hx, hb, hml, hown, hts⟩ (c_M_hasNumber l E o (by omega)) (k_cwS 1 hts t_816 t_817 t_71 t_818 (by decide +kernel) ⟨Nat.le_of_ble_eq_true rfl, Nat.le_of_ble_eq_true rfl⟩) hK hG hA hP hD hS [] rfl (by decide) rfl hl.1 rfl (Nat.le_of_ble_eq_true rfl) d_M_does_336 ⟨Nat.zero_le _, Nat.zero_le _⟩ (fun r336 hu336 => ?_)
                              subst hu336
                              refine lv_if_eq (tgt := 350) hx hb d_M_does_339 (by decide) (fun h339 => ?_) (fun h339 => ?_)
                              · have hq := of_decide_eq_false (kb_0.mp h339)
                                exact hret _ ls _ _ (g) d_M_does_350 (do_0 hg (mg_0 hk (by omega) (by omega) (by omega) (by omega))) (by rw [← mm_81 (o := o) (A := gv g 256 16) (B := gv g 272 16) (by omega) (by omega)]; exact hP) hS
                              · have hq := of_decide_eq_true (kb_n0 h339)
                                refine lv_aload_n hx hb d_M_does_342 rfl (lv_at hl 0 rfl) ?_
                                refine lv_iload_n hx hb d_M_does_343 rfl (lv_at hl 1 rfl) ?_
                                refine lv_bipush (v := nI 95) hx hb d_M_does_344 (by decide) ?_
                                refine lv_isub hx hb d_M_does_346 ?_
                                refine k_top (pk_sub (by omega)) ?_
                                refine k_Vv (As := [.int (nI (o - 95))]) (rest := []) ⟨hx, hb, hml, hown, hts⟩ (c_M_reads l E mo mb mm mw mh ml len en gas ctr siz hgt frm ret on ay g hg nb bb okb (o - 95) (by omega) hc) (k_cwV 1 hts t_962 t_964 t_57 t_71 t_965 (by decide +kernel) ⟨Nat.le_of_ble_eq_true rfl, Nat.le_of_ble_eq_true rfl⟩) hK hG hA hP hD hS [0, 1, 3] rfl (by decide) 0 rfl rfl (fun _ => rfl) rfl hl.1 rfl (Nat.le_of_ble_eq_true rfl) d_M_does_347 ⟨Nat.zero_le _, Nat.zero_le _⟩ (fun u1 H locs hu1 hP hD hS => ?_)
                                have hP : va_P E.1 vwCl [(mo, .inr (8, [.int (nI len), .ref mb, .int (kb on), .int (nI en), .int (nI gas), .int (nI ctr), .int (nI siz), .int (nI hgt), .int (nI frm), .int (nI ret), .ref mm, .ref mw, .ref mh, .ref ml, .int (kb ay)])), (mb, .inl (E.2.1 0, 96, .inl (nF nb))), (mm, .inl (E.2.1 0, 160, .inl (nF mem))), (mw, .inl (E.2.1 0, 370, .inl (nF u1)))] H := hP
                                have hD : va_D A [(mo, .inr (8, [.int (nI len), .ref mb, .int (kb on), .int (nI en), .int (nI gas), .int (nI ctr), .int (nI siz), .int (nI hgt), .int (nI frm), .int (nI ret), .ref mm, .ref mw, .ref mh, .ref ml, .int (kb ay)])), (mb, .inl (E.2.1 0, 96, .inl (nF nb))), (mm, .inl (E.2.1 0, 160, .inl (nF mem))), (mw, .inl (E.2.1 0, 370, .inl (nF u1)))] := hD
                                exact hret _ ls _ _ (u1) d_M_does_350 (do_f (fun _ => hu1.1.trans (mr_num hq)) hu1.2.1 hu1.2.2) (by rw [← mm_81 (o := o) (A := gv g 256 16) (B := gv g 272 16) (by omega) (by omega)]; exact hP) hS
                            · refine lv_aload_n hx hb d_M_does_321 rfl (lv_at hl 0 rfl) ?_
                              refine lv_sipush (v := nI 304) hx hb d_M_does_322 (by decide) ?_
                              refine lv_aload_n hx hb d_M_does_325 rfl (lv_at hl 0 rfl) ?_
                              refine va_get (D := E.1) (ci := 8) (v := .int (nI gas)) (C := "WideStackModel") (T := T_M) (N := 15) hx hb hts in_M hown hK hP 0 rfl rfl 4 (by decide) (hts _ t_751) (fun _ h9 => h9) rfl d_M_does_326 ?_
                              have hnv : gas < 2147483648 := (by omega)
                              refine k_Vv (As := [.int (nI 304), .int (nI gas)]) (rest := []) ⟨hx, hb, hml, hown, hts⟩ (c_M_number l E mo mb mm mw mh ml len en gas ctr siz hgt frm ret on ay g hg 304 gas (by decide) hnv) (k_cwV 2 hts t_942 t_944 t_52 t_71 t_945 (by decide +kernel) ⟨Nat.le_of_ble_eq_true rfl, Nat.le_of_ble_eq_true rfl⟩) hK hG hA hP hD hS [0, 3] rfl (by decide) 0 rfl rfl (fun _ => rfl) rfl hl.1 rfl (Nat.le_of_ble_eq_true rfl) d_M_does_329 ⟨Nat.zero_le _, Nat.zero_le _⟩ (fun u1 H locs hu1 hP hD hS => ?_)
                              have hP : va_P E.1 vwCl [(mo, .inr (8, [.int (nI len), .ref mb, .int (kb on), .int (nI en), .int (nI gas), .int (nI ctr), .int (nI siz), .int (nI hgt), .int (nI frm), .int (nI ret), .ref mm, .ref mw, .ref mh, .ref ml, .int (kb ay)])), (mb, .inl (E.2.1 0, 96, .inl (nF nb))), (mm, .inl (E.2.1 0, 160, .inl (nF mem))), (mw, .inl (E.2.1 0, 370, .inl (nF (nmb g 304 gas))))] H := hP
                              have hD : va_D A [(mo, .inr (8, [.int (nI len), .ref mb, .int (kb on), .int (nI en), .int (nI gas), .int (nI ctr), .int (nI siz), .int (nI hgt), .int (nI frm), .int (nI ret), .ref mm, .ref mw, .ref mh, .ref ml, .int (kb ay)])), (mb, .inl (E.2.1 0, 96, .inl (nF nb))), (mm, .inl (E.2.1 0, 160, .inl (nF mem))), (mw, .inl (E.2.1 0, 370, .inl (nF (nmb g 304 gas))))] := hD
                              refine lv_goto (tgt := 350) hx hb d_M_does_332 (by decide) ?_
                              exact hret _ ls _ _ (nmb g 304 gas) d_M_does_350 (do_n hg (by omega) (mr_90 h318)) (by rw [← mm_81 (o := o) (A := gv g 256 16) (B := gv g 272 16) (by omega) (by omega)]; exact hP) hS
                          · refine lv_aload_n hx hb d_M_does_301 rfl (lv_at hl 0 rfl) ?_
                            refine lv_sipush (v := nI 304) hx hb d_M_does_302 (by decide) ?_
                            refine lv_aload_n hx hb d_M_does_305 rfl (lv_at hl 0 rfl) ?_
                            refine va_get (D := E.1) (ci := 8) (v := .int (nI siz)) (C := "WideStackModel") (T := T_M) (N := 15) hx hb hts in_M hown hK hP 0 rfl rfl 6 (by decide) (hts _ t_753) (fun _ h9 => h9) rfl d_M_does_306 ?_
                            have hnv : siz < 2147483648 := (by omega)
                            refine k_Vv (As := [.int (nI 304), .int (nI siz)]) (rest := []) ⟨hx, hb, hml, hown, hts⟩ (c_M_number l E mo mb mm mw mh ml len en gas ctr siz hgt frm ret on ay g hg 304 siz (by decide) hnv) (k_cwV 2 hts t_942 t_944 t_52 t_71 t_945 (by decide +kernel) ⟨Nat.le_of_ble_eq_true rfl, Nat.le_of_ble_eq_true rfl⟩) hK hG hA hP hD hS [0, 3] rfl (by decide) 0 rfl rfl (fun _ => rfl) rfl hl.1 rfl (Nat.le_of_ble_eq_true rfl) d_M_does_309 ⟨Nat.zero_le _, Nat.zero_le _⟩ (fun u1 H locs hu1 hP hD hS => ?_)
                            have hP : va_P E.1 vwCl [(mo, .inr (8, [.int (nI len), .ref mb, .int (kb on), .int (nI en), .int (nI gas), .int (nI ctr), .int (nI siz), .int (nI hgt), .int (nI frm), .int (nI ret), .ref mm, .ref mw, .ref mh, .ref ml, .int (kb ay)])), (mb, .inl (E.2.1 0, 96, .inl (nF nb))), (mm, .inl (E.2.1 0, 160, .inl (nF mem))), (mw, .inl (E.2.1 0, 370, .inl (nF (nmb g 304 siz))))] H := hP
                            have hD : va_D A [(mo, .inr (8, [.int (nI len), .ref mb, .int (kb on), .int (nI en), .int (nI gas), .int (nI ctr), .int (nI siz), .int (nI hgt), .int (nI frm), .int (nI ret), .ref mm, .ref mw, .ref mh, .ref ml, .int (kb ay)])), (mb, .inl (E.2.1 0, 96, .inl (nF nb))), (mm, .inl (E.2.1 0, 160, .inl (nF mem))), (mw, .inl (E.2.1 0, 370, .inl (nF (nmb g 304 siz))))] := hD
                            refine lv_goto (tgt := 350) hx hb d_M_does_312 (by decide) ?_
                            exact hret _ ls _ _ (nmb g 304 siz) d_M_does_350 (do_n hg (by omega) (mr_89 h298)) (by rw [← mm_81 (o := o) (A := gv g 256 16) (B := gv g 272 16) (by omega) (by omega)]; exact hP) hS
                        · refine lv_aload_n hx hb d_M_does_281 rfl (lv_at hl 0 rfl) ?_
                          refine lv_sipush (v := nI 304) hx hb d_M_does_282 (by decide) ?_
                          refine lv_aload_n hx hb d_M_does_285 rfl (lv_at hl 0 rfl) ?_
                          refine va_get (D := E.1) (ci := 8) (v := .int (nI ctr)) (C := "WideStackModel") (T := T_M) (N := 15) hx hb hts in_M hown hK hP 0 rfl rfl 5 (by decide) (hts _ t_752) (fun _ h9 => h9) rfl d_M_does_286 ?_
                          have hnv : ctr < 2147483648 := (by omega)
                          refine k_Vv (As := [.int (nI 304), .int (nI ctr)]) (rest := []) ⟨hx, hb, hml, hown, hts⟩ (c_M_number l E mo mb mm mw mh ml len en gas ctr siz hgt frm ret on ay g hg 304 ctr (by decide) hnv) (k_cwV 2 hts t_942 t_944 t_52 t_71 t_945 (by decide +kernel) ⟨Nat.le_of_ble_eq_true rfl, Nat.le_of_ble_eq_true rfl⟩) hK hG hA hP hD hS [0, 3] rfl (by decide) 0 rfl rfl (fun _ => rfl) rfl hl.1 rfl (Nat.le_of_ble_eq_true rfl) d_M_does_289 ⟨Nat.zero_le _, Nat.zero_le _⟩ (fun u1 H locs hu1 hP hD hS => ?_)
                          have hP : va_P E.1 vwCl [(mo, .inr (8, [.int (nI len), .ref mb, .int (kb on), .int (nI en), .int (nI gas), .int (nI ctr), .int (nI siz), .int (nI hgt), .int (nI frm), .int (nI ret), .ref mm, .ref mw, .ref mh, .ref ml, .int (kb ay)])), (mb, .inl (E.2.1 0, 96, .inl (nF nb))), (mm, .inl (E.2.1 0, 160, .inl (nF mem))), (mw, .inl (E.2.1 0, 370, .inl (nF (nmb g 304 ctr))))] H := hP
                          have hD : va_D A [(mo, .inr (8, [.int (nI len), .ref mb, .int (kb on), .int (nI en), .int (nI gas), .int (nI ctr), .int (nI siz), .int (nI hgt), .int (nI frm), .int (nI ret), .ref mm, .ref mw, .ref mh, .ref ml, .int (kb ay)])), (mb, .inl (E.2.1 0, 96, .inl (nF nb))), (mm, .inl (E.2.1 0, 160, .inl (nF mem))), (mw, .inl (E.2.1 0, 370, .inl (nF (nmb g 304 ctr))))] := hD
                          refine lv_goto (tgt := 350) hx hb d_M_does_292 (by decide) ?_
                          exact hret _ ls _ _ (nmb g 304 ctr) d_M_does_350 (do_n hg (by omega) (mr_88 h278)) (by rw [← mm_81 (o := o) (A := gv g 256 16) (B := gv g 272 16) (by omega) (by omega)]; exact hP) hS
                      · refine lv_aload_n hx hb d_M_does_267 rfl (lv_at hl 0 rfl) ?_
                        refine lv_iload_n hx hb d_M_does_268 rfl (lv_at hl 1 rfl) ?_
                        refine k_Vv (As := [.int (nI o)]) (rest := []) ⟨hx, hb, hml, hown, hts⟩ (c_M_remembers l E mo mb mm mw mh ml len en gas ctr siz hgt frm ret on ay g hg mem hm o (by omega) hu0) (k_cwV 1 hts t_958 t_960 t_56 t_71 t_961 (by decide +kernel) ⟨Nat.le_of_ble_eq_true rfl, Nat.le_of_ble_eq_true rfl⟩) hK hG hA hP hD hS [0, 2, 3] rfl (by decide) 0 rfl rfl (fun _ => rfl) rfl hl.1 rfl (Nat.le_of_ble_eq_true rfl) d_M_does_269 ⟨Nat.zero_le _, Nat.zero_le _⟩ (fun u1 H locs hu1 hP hD hS => ?_)
                        have hP : va_P E.1 vwCl [(mo, .inr (8, [.int (nI len), .ref mb, .int (kb on), .int (nI en), .int (nI gas), .int (nI ctr), .int (nI siz), .int (nI hgt), .int (nI frm), .int (nI ret), .ref mm, .ref mw, .ref mh, .ref ml, .int (kb ay)])), (mb, .inl (E.2.1 0, 96, .inl (nF nb))), (mm, .inl (E.2.1 0, 160, .inl (nF (m_mem o (gv g 256 16) (gv g 272 16) mem)))), (mw, .inl (E.2.1 0, 370, .inl (nF u1)))] H := hP
                        have hD : va_D A [(mo, .inr (8, [.int (nI len), .ref mb, .int (kb on), .int (nI en), .int (nI gas), .int (nI ctr), .int (nI siz), .int (nI hgt), .int (nI frm), .int (nI ret), .ref mm, .ref mw, .ref mh, .ref ml, .int (kb ay)])), (mb, .inl (E.2.1 0, 96, .inl (nF nb))), (mm, .inl (E.2.1 0, 160, .inl (nF (m_mem o (gv g 256 16) (gv g 272 16) mem)))), (mw, .inl (E.2.1 0, 370, .inl (nF u1)))] := hD
                        refine lv_goto (tgt := 350) hx hb d_M_does_272 (by decide) ?_
                        exact hret _ ls _ _ (u1) d_M_does_350 (do_f (fun q => by by_cases q1 : o = 81; exact (hu1.1 q1).trans (mr_81 q1); exact absurd q (fun q => mg_83 (by omega) q)) hu1.2.1 hu1.2.2) hP hS
                  · refine lv_aload_n hx hb d_M_does_207 rfl (lv_at hl 0 rfl) ?_
                    refine lv_aload_n hx hb d_M_does_208 rfl (lv_at hl 0 rfl) ?_
                    refine lv_sipush (v := nI 256) hx hb d_M_does_209 (by decide) ?_
                    refine k_Vp (As := [.int (nI 256)]) (rest := [.ref mo]) ⟨hx, hb, hml, hown, hts⟩ (c_M_small l E mo mb mm mw mh ml len en gas ctr siz hgt frm ret on ay g hg 256 (by decide)) (k_cwV 1 hts t_857 t_859 t_32 t_71 t_860 (by decide +kernel) ⟨Nat.le_of_ble_eq_true rfl, Nat.le_of_ble_eq_true rfl⟩) hK hG hA hP hD hS [0, 3] rfl (by decide) 0 rfl rfl rfl hl.1 rfl (Nat.le_of_ble_eq_true rfl) d_M_does_212 ⟨Nat.zero_le _, Nat.zero_le _⟩ (fun r212 hu212 => ?_)
                    subst hu212
                    refine lv_sipush (v := nI 255) hx hb d_M_does_215 (by decide) ?_
                    refine kn_le (tgt := 227) hx hb (by omega) (by omega) d_M_does_218 (by decide) (fun h218 => ?_) (fun h218 => ?_)
                    · refine lv_aload_n hx hb d_M_does_227 rfl (lv_at hl 0 rfl) ?_
                      refine lv_sipush (v := nI 256) hx hb d_M_does_228 (by decide) ?_
                      refine k_Vp (As := [.int (nI 256)]) (rest := [.ref mo]) ⟨hx, hb, hml, hown, hts⟩ (c_M_small l E mo mb mm mw mh ml len en gas ctr siz hgt frm ret on ay g hg 256 (by decide)) (k_cwV 1 hts t_857 t_859 t_32 t_71 t_860 (by decide +kernel) ⟨Nat.le_of_ble_eq_true rfl, Nat.le_of_ble_eq_true rfl⟩) hK hG hA hP hD hS [0, 3] rfl (by decide) 0 rfl rfl rfl hl.1 rfl (Nat.le_of_ble_eq_true rfl) d_M_does_231 ⟨Nat.zero_le _, Nat.zero_le _⟩ (fun r231 hu231 => ?_)
                      subst hu231
                      refine lv_aload_n hx hb d_M_does_234 rfl (lv_at hl 0 rfl) ?_
                      refine lv_sipush (v := nI 272) hx hb d_M_does_235 (by decide) ?_
                      refine k_Vp (As := [.int (nI 272)]) (rest := [.int (nI (min (gv g 256 16) 65535)), .ref mo]) ⟨hx, hb, hml, hown, hts⟩ (c_M_isNegative l E mo mb mm mw mh ml len en gas ctr siz hgt frm ret on ay g hg 272 (by decide)) (k_cwV 1 hts t_922 t_924 t_47 t_71 t_925 (by decide +kernel) ⟨Nat.le_of_ble_eq_true rfl, Nat.le_of_ble_eq_true rfl⟩) hK hG hA hP hD hS [0, 3] rfl (by decide) 0 rfl rfl rfl hl.1 rfl (Nat.le_of_ble_eq_true rfl) d_M_does_238 ⟨Nat.zero_le _, Nat.zero_le _⟩ (fun r238 hu238 => ?_)
                      subst hu238
                      refine lv_if_eq (tgt := 248) hx hb d_M_does_241 (by decide) (fun h241 => ?_) (fun h241 => ?_)
                      · refine lv_iconst (v := nI 0) hx hb d_M_does_248 (by decide) ?_
                        refine k_Vv (As := [.int (nI (min (gv g 256 16) 65535)), .int (nI 0)]) (rest := []) ⟨hx, hb, hml, hown, hts⟩ (c_M_shiftDown l E mo mb mm mw mh ml len en gas ctr siz hgt frm ret on ay g hg (min (gv g 256 16) 65535) 0 (by omega) (by decide)) (k_cwV 2 hts t_954 t_956 t_55 t_71 t_957 (by decide +kernel) ⟨Nat.le_of_ble_eq_true rfl, Nat.le_of_ble_eq_true rfl⟩) hK hG hA hP hD hS [0, 3] rfl (by decide) 0 rfl rfl (fun _ => rfl) rfl hl.1 rfl (Nat.le_of_ble_eq_true rfl) d_M_does_249 ⟨Nat.zero_le _, Nat.zero_le _⟩ (fun u1 H locs hu1 hP hD hS => ?_)
                        have hP : va_P E.1 vwCl [(mo, .inr (8, [.int (nI len), .ref mb, .int (kb on), .int (nI en), .int (nI gas), .int (nI ctr), .int (nI siz), .int (nI hgt), .int (nI frm), .int (nI ret), .ref mm, .ref mw, .ref mh, .ref ml, .int (kb ay)])), (mb, .inl (E.2.1 0, 96, .inl (nF nb))), (mm, .inl (E.2.1 0, 160, .inl (nF mem))), (mw, .inl (E.2.1 0, 370, .inl (nF u1)))] H := hP
                        have hD : va_D A [(mo, .inr (8, [.int (nI len), .ref mb, .int (kb on), .int (nI en), .int (nI gas), .int (nI ctr), .int (nI siz), .int (nI hgt), .int (nI frm), .int (nI ret), .ref mm, .ref mw, .ref mh, .ref ml, .int (kb ay)])), (mb, .inl (E.2.1 0, 96, .inl (nF nb))), (mm, .inl (E.2.1 0, 160, .inl (nF mem))), (mw, .inl (E.2.1 0, 370, .inl (nF u1)))] := hD
                        refine lv_goto (tgt := 350) hx hb d_M_does_252 (by decide) ?_
                        exact hret _ ls _ _ (u1) d_M_does_350 (do_f (fun _ => (by rw [h204, mo_29]; exact sh_sar0 (gv_lt16 hg 272) (kb_0.mp h241) hu1 (by first | exact Or.inl (min_s h218) | exact Or.inr (min_b h218)) : gv u1 304 16 = m_op o (gv g 256 16) (gv g 272 16) (gv g 288 16)).trans (mr_op (by omega))) hu1.1 hu1.2.1) (by rw [← mm_81 (o := o) (A := gv g 256 16) (B := gv g 272 16) (by omega) (by omega)]; exact hP) hS
                      · refine lv_iconst (v := nI 1) hx hb d_M_does_244 (by decide) ?_
                        refine lv_goto (tgt := 249) hx hb d_M_does_245 (by decide) ?_
                        refine k_Vv (As := [.int (nI (min (gv g 256 16) 65535)), .int (nI 1)]) (rest := []) ⟨hx, hb, hml, hown, hts⟩ (c_M_shiftDown l E mo mb mm mw mh ml len en gas ctr siz hgt frm ret on ay g hg (min (gv g 256 16) 65535) 1 (by omega) (by decide)) (k_cwV 2 hts t_954 t_956 t_55 t_71 t_957 (by decide +kernel) ⟨Nat.le_of_ble_eq_true rfl, Nat.le_of_ble_eq_true rfl⟩) hK hG hA hP hD hS [0, 3] rfl (by decide) 0 rfl rfl (fun _ => rfl) rfl hl.1 rfl (Nat.le_of_ble_eq_true rfl) d_M_does_249 ⟨Nat.zero_le _, Nat.zero_le _⟩ (fun u1 H locs hu1 hP hD hS => ?_)
                        have hP : va_P E.1 vwCl [(mo, .inr (8, [.int (nI len), .ref mb, .int (kb on), .int (nI en), .int (nI gas), .int (nI ctr), .int (nI siz), .int (nI hgt), .int (nI frm), .int (nI ret), .ref mm, .ref mw, .ref mh, .ref ml, .int (kb ay)])), (mb, .inl (E.2.1 0, 96, .inl (nF nb))), (mm, .inl (E.2.1 0, 160, .inl (nF mem))), (mw, .inl (E.2.1 0, 370, .inl (nF u1)))] H := hP
                        have hD : va_D A [(mo, .inr (8, [.int (nI len), .ref mb, .int (kb on), .int (nI en), .int (nI gas), .int (nI ctr), .int (nI siz), .int (nI hgt), .int (nI frm), .int (nI ret), .ref mm, .ref mw, .ref mh, .ref ml, .int (kb ay)])), (mb, .inl (E.2.1 0, 96, .inl (nF nb))), (mm, .inl (E.2.1 0, 160, .inl (nF mem))), (mw, .inl (E.2.1 0, 370, .inl (nF u1)))] := hD
                        refine lv_goto (tgt := 350) hx hb d_M_does_252 (by decide) ?_
                        exact hret _ ls _ _ (u1) d_M_does_350 (do_f (fun _ => (by rw [h204, mo_29]; exact sh_sar1 (gv_lt16 hg 272) (kb_n0 h241) hu1 (by first | exact Or.inl (min_s h218) | exact Or.inr (min_b h218)) : gv u1 304 16 = m_op o (gv g 256 16) (gv g 272 16) (gv g 288 16)).trans (mr_op (by omega))) hu1.1 hu1.2.1) (by rw [← mm_81 (o := o) (A := gv g 256 16) (B := gv g 272 16) (by omega) (by omega)]; exact hP) hS
                    · refine lv_sipush (v := nI 256) hx hb d_M_does_221 (by decide) ?_
                      refine lv_goto (tgt := 234) hx hb d_M_does_224 (by decide) ?_
                      refine lv_aload_n hx hb d_M_does_234 rfl (lv_at hl 0 rfl) ?_
                      refine lv_sipush (v := nI 272) hx hb d_M_does_235 (by decide) ?_
                      refine k_Vp (As := [.int (nI 272)]) (rest := [.int (nI 256), .ref mo]) ⟨hx, hb, hml, hown, hts⟩ (c_M_isNegative l E mo mb mm mw mh ml len en gas ctr siz hgt frm ret on ay g hg 272 (by decide)) (k_cwV 1 hts t_922 t_924 t_47 t_71 t_925 (by decide +kernel) ⟨Nat.le_of_ble_eq_true rfl, Nat.le_of_ble_eq_true rfl⟩) hK hG hA hP hD hS [0, 3] rfl (by decide) 0 rfl rfl rfl hl.1 rfl (Nat.le_of_ble_eq_true rfl) d_M_does_238 ⟨Nat.zero_le _, Nat.zero_le _⟩ (fun r238 hu238 => ?_)
                      subst hu238
                      refine lv_if_eq (tgt := 248) hx hb d_M_does_241 (by decide) (fun h241 => ?_) (fun h241 => ?_)
                      · refine lv_iconst (v := nI 0) hx hb d_M_does_248 (by decide) ?_
                        refine k_Vv (As := [.int (nI 256), .int (nI 0)]) (rest := []) ⟨hx, hb, hml, hown, hts⟩ (c_M_shiftDown l E mo mb mm mw mh ml len en gas ctr siz hgt frm ret on ay g hg 256 0 (by omega) (by decide)) (k_cwV 2 hts t_954 t_956 t_55 t_71 t_957 (by decide +kernel) ⟨Nat.le_of_ble_eq_true rfl, Nat.le_of_ble_eq_true rfl⟩) hK hG hA hP hD hS [0, 3] rfl (by decide) 0 rfl rfl (fun _ => rfl) rfl hl.1 rfl (Nat.le_of_ble_eq_true rfl) d_M_does_249 ⟨Nat.zero_le _, Nat.zero_le _⟩ (fun u1 H locs hu1 hP hD hS => ?_)
                        have hP : va_P E.1 vwCl [(mo, .inr (8, [.int (nI len), .ref mb, .int (kb on), .int (nI en), .int (nI gas), .int (nI ctr), .int (nI siz), .int (nI hgt), .int (nI frm), .int (nI ret), .ref mm, .ref mw, .ref mh, .ref ml, .int (kb ay)])), (mb, .inl (E.2.1 0, 96, .inl (nF nb))), (mm, .inl (E.2.1 0, 160, .inl (nF mem))), (mw, .inl (E.2.1 0, 370, .inl (nF u1)))] H := hP
                        have hD : va_D A [(mo, .inr (8, [.int (nI len), .ref mb, .int (kb on), .int (nI en), .int (nI gas), .int (nI ctr), .int (nI siz), .int (nI hgt), .int (nI frm), .int (nI ret), .ref mm, .ref mw, .ref mh, .ref ml, .int (kb ay)])), (mb, .inl (E.2.1 0, 96, .inl (nF nb))), (mm, .inl (E.2.1 0, 160, .inl (nF mem))), (mw, .inl (E.2.1 0, 370, .inl (nF u1)))] := hD
                        refine lv_goto (tgt := 350) hx hb d_M_does_252 (by decide) ?_
                        exact hret _ ls _ _ (u1) d_M_does_350 (do_f (fun _ => (by rw [h204, mo_29]; exact sh_sar0 (gv_lt16 hg 272) (kb_0.mp h241) hu1 (by first | exact Or.inl (min_s h218) | exact Or.inr (min_b h218)) : gv u1 304 16 = m_op o (gv g 256 16) (gv g 272 16) (gv g 288 16)).trans (mr_op (by omega))) hu1.1 hu1.2.1) (by rw [← mm_81 (o := o) (A := gv g 256 16) (B := gv g 272 16) (by omega) (by omega)]; exact hP) hS
                      · refine lv_iconst (v := nI 1) hx hb d_M_does_244 (by decide) ?_
                        refine lv_goto (tgt := 249) hx hb d_M_does_245 (by decide) ?_
                        refine k_Vv (As := [.int (nI 256), .int (nI 1)]) (rest := []) ⟨hx, hb, hml, hown, hts⟩ (c_M_shiftDown l E mo mb mm mw mh ml len en gas ctr siz hgt frm ret on ay g hg 256 1 (by omega) (by decide)) (k_cwV 2 hts t_954 t_956 t_55 t_71 t_957 (by decide +kernel) ⟨Nat.le_of_ble_eq_true rfl, Nat.le_of_ble_eq_true rfl⟩) hK hG hA hP hD hS [0, 3] rfl (by decide) 0 rfl rfl (fun _ => rfl) rfl hl.1 rfl (Nat.le_of_ble_eq_true rfl) d_M_does_249 ⟨Nat.zero_le _, Nat.zero_le _⟩ (fun u1 H locs hu1 hP hD hS => ?_)
                        have hP : va_P E.1 vwCl [(mo, .inr (8, [.int (nI len), .ref mb, .int (kb on), .int (nI en), .int (nI gas), .int (nI ctr), .int (nI siz), .int (nI hgt), .int (nI frm), .int (nI ret), .ref mm, .ref mw, .ref mh, .ref ml, .int (kb ay)])), (mb, .inl (E.2.1 0, 96, .inl (nF nb))), (mm, .inl (E.2.1 0, 160, .inl (nF mem))), (mw, .inl (E.2.1 0, 370, .inl (nF u1)))] H := hP
                        have hD : va_D A [(mo, .inr (8, [.int (nI len), .ref mb, .int (kb on), .int (nI en), .int (nI gas), .int (nI ctr), .int (nI siz), .int (nI hgt), .int (nI frm), .int (nI ret), .ref mm, .ref mw, .ref mh, .ref ml, .int (kb ay)])), (mb, .inl (E.2.1 0, 96, .inl (nF nb))), (mm, .inl (E.2.1 0, 160, .inl (nF mem))), (mw, .inl (E.2.1 0, 370, .inl (nF u1)))] := hD
                        refine lv_goto (tgt := 350) hx hb d_M_does_252 (by decide) ?_
                        exact hret _ ls _ _ (u1) d_M_does_350 (do_f (fun _ => (by rw [h204, mo_29]; exact sh_sar1 (gv_lt16 hg 272) (kb_n0 h241) hu1 (by first | exact Or.inl (min_s h218) | exact Or.inr (min_b h218)) : gv u1 304 16 = m_op o (gv g 256 16) (gv g 272 16) (gv g 288 16)).trans (mr_op (by omega))) hu1.1 hu1.2.1) (by rw [← mm_81 (o := o) (A := gv g 256 16) (B := gv g 272 16) (by omega) (by omega)]; exact hP) hS
                · refine lv_aload_n hx hb d_M_does_167 rfl (lv_at hl 0 rfl) ?_
                  refine lv_aload_n hx hb d_M_does_168 rfl (lv_at hl 0 rfl) ?_
                  refine lv_sipush (v := nI 256) hx hb d_M_does_169 (by decide) ?_
                  refine k_Vp (As := [.int (nI 256)]) (rest := [.ref mo]) ⟨hx, hb, hml, hown, hts⟩ (c_M_small l E mo mb mm mw mh ml len en gas ctr siz hgt frm ret on ay g hg 256 (by decide)) (k_cwV 1 hts t_857 t_859 t_32 t_71 t_860 (by decide +kernel) ⟨Nat.le_of_ble_eq_true rfl, Nat.le_of_ble_eq_true rfl⟩) hK hG hA hP hD hS [0, 3] rfl (by decide) 0 rfl rfl rfl hl.1 rfl (Nat.le_of_ble_eq_true rfl) d_M_does_172 ⟨Nat.zero_le _, Nat.zero_le _⟩ (fun r172 hu172 => ?_)
                  subst hu172
                  refine lv_sipush (v := nI 255) hx hb d_M_does_175 (by decide) ?_
                  refine kn_le (tgt := 187) hx hb (by omega) (by omega) d_M_does_178 (by decide) (fun h178 => ?_) (fun h178 => ?_)
                  · refine lv_aload_n hx hb d_M_does_187 rfl (lv_at hl 0 rfl) ?_
                    refine lv_sipush (v := nI 256) hx hb d_M_does_188 (by decide) ?_
                    refine k_Vp (As := [.int (nI 256)]) (rest := [.ref mo]) ⟨hx, hb, hml, hown, hts⟩ (c_M_small l E mo mb mm mw mh ml len en gas ctr siz hgt frm ret on ay g hg 256 (by decide)) (k_cwV 1 hts t_857 t_859 t_32 t_71 t_860 (by decide +kernel) ⟨Nat.le_of_ble_eq_true rfl, Nat.le_of_ble_eq_true rfl⟩) hK hG hA hP hD hS [0, 3] rfl (by decide) 0 rfl rfl rfl hl.1 rfl (Nat.le_of_ble_eq_true rfl) d_M_does_191 ⟨Nat.zero_le _, Nat.zero_le _⟩ (fun r191 hu191 => ?_)
                    subst hu191
                    refine lv_iconst (v := nI 0) hx hb d_M_does_194 (by decide) ?_
                    refine k_Vv (As := [.int (nI (min (gv g 256 16) 65535)), .int (nI 0)]) (rest := []) ⟨hx, hb, hml, hown, hts⟩ (c_M_shiftDown l E mo mb mm mw mh ml len en gas ctr siz hgt frm ret on ay g hg (min (gv g 256 16) 65535) 0 (by omega) (by decide)) (k_cwV 2 hts t_954 t_956 t_55 t_71 t_957 (by decide +kernel) ⟨Nat.le_of_ble_eq_true rfl, Nat.le_of_ble_eq_true rfl⟩) hK hG hA hP hD hS [0, 3] rfl (by decide) 0 rfl rfl (fun _ => rfl) rfl hl.1 rfl (Nat.le_of_ble_eq_true rfl) d_M_does_195 ⟨Nat.zero_le _, Nat.zero_le _⟩ (fun u1 H locs hu1 hP hD hS => ?_)
                    have hP : va_P E.1 vwCl [(mo, .inr (8, [.int (nI len), .ref mb, .int (kb on), .int (nI en), .int (nI gas), .int (nI ctr), .int (nI siz), .int (nI hgt), .int (nI frm), .int (nI ret), .ref mm, .ref mw, .ref mh, .ref ml, .int (kb ay)])), (mb, .inl (E.2.1 0, 96, .inl (nF nb))), (mm, .inl (E.2.1 0, 160, .inl (nF mem))), (mw, .inl (E.2.1 0, 370, .inl (nF u1)))] H := hP
                    have hD : va_D A [(mo, .inr (8, [.int (nI len), .ref mb, .int (kb on), .int (nI en), .int (nI gas), .int (nI ctr), .int (nI siz), .int (nI hgt), .int (nI frm), .int (nI ret), .ref mm, .ref mw, .ref mh, .ref ml, .int (kb ay)])), (mb, .inl (E.2.1 0, 96, .inl (nF nb))), (mm, .inl (E.2.1 0, 160, .inl (nF mem))), (mw, .inl (E.2.1 0, 370, .inl (nF u1)))] := hD
                    refine lv_goto (tgt := 350) hx hb d_M_does_198 (by decide) ?_
                    exact hret _ ls _ _ (u1) d_M_does_350 (do_f (fun _ => (by rw [h164, mo_28]; exact sh_shr (gv_lt16 hg 272) hu1 (by first | exact Or.inl (min_s h178) | exact Or.inr (min_b h178)) : gv u1 304 16 = m_op o (gv g 256 16) (gv g 272 16) (gv g 288 16)).trans (mr_op (by omega))) hu1.1 hu1.2.1) (by rw [← mm_81 (o := o) (A := gv g 256 16) (B := gv g 272 16) (by omega) (by omega)]; exact hP) hS
                  · refine lv_sipush (v := nI 256) hx hb d_M_does_181 (by decide) ?_
                    refine lv_goto (tgt := 194) hx hb d_M_does_184 (by decide) ?_
                    refine lv_iconst (v := nI 0) hx hb d_M_does_194 (by decide) ?_
                    refine k_Vv (As := [.int (nI 256), .int (nI 0)]) (rest := []) ⟨hx, hb, hml, hown, hts⟩ (c_M_shiftDown l E mo mb mm mw mh ml len en gas ctr siz hgt frm ret on ay g hg 256 0 (by omega) (by decide)) (k_cwV 2 hts t_954 t_956 t_55 t_71 t_957 (by decide +kernel) ⟨Nat.le_of_ble_eq_true rfl, Nat.le_of_ble_eq_true rfl⟩) hK hG hA hP hD hS [0, 3] rfl (by decide) 0 rfl rfl (fun _ => rfl) rfl hl.1 rfl (Nat.le_of_ble_eq_true rfl) d_M_does_195 ⟨Nat.zero_le _, Nat.zero_le _⟩ (fun u1 H locs hu1 hP hD hS => ?_)
                    have hP : va_P E.1 vwCl [(mo, .inr (8, [.int (nI len), .ref mb, .int (kb on), .int (nI en), .int (nI gas), .int (nI ctr), .int (nI siz), .int (nI hgt), .int (nI frm), .int (nI ret), .ref mm, .ref mw, .ref mh, .ref ml, .int (kb ay)])), (mb, .inl (E.2.1 0, 96, .inl (nF nb))), (mm, .inl (E.2.1 0, 160, .inl (nF mem))), (mw, .inl (E.2.1 0, 370, .inl (nF u1)))] H := hP
                    have hD : va_D A [(mo, .inr (8, [.int (nI len), .ref mb, .int (kb on), .int (nI en), .int (nI gas), .int (nI ctr), .int (nI siz), .int (nI hgt), .int (nI frm), .int (nI ret), .ref mm, .ref mw, .ref mh, .ref ml, .int (kb ay)])), (mb, .inl (E.2.1 0, 96, .inl (nF nb))), (mm, .inl (E.2.1 0, 160, .inl (nF mem))), (mw, .inl (E.2.1 0, 370, .inl (nF u1)))] := hD
                    refine lv_goto (tgt := 350) hx hb d_M_does_198 (by decide) ?_
                    exact hret _ ls _ _ (u1) d_M_does_350 (do_f (fun _ => (by rw [h164, mo_28]; exact sh_shr (gv_lt16 hg 272) hu1 (by first | exact Or.inl (min_s h178) | exact Or.inr (min_b h178)) : gv u1 304 16 = m_op o (gv g 256 16) (gv g 272 16) (gv g 288 16)).trans (mr_op (by omega))) hu1.1 hu1.2.1) (by rw [← mm_81 (o := o) (A := gv g 256 16) (B := gv g 272 16) (by omega) (by omega)]; exact hP) hS
              · refine lv_aload_n hx hb d_M_does_126 rfl (lv_at hl 0 rfl) ?_
                refine lv_aload_n hx hb d_M_does_127 rfl (lv_at hl 0 rfl) ?_
                refine lv_sipush (v := nI 256) hx hb d_M_does_128 (by decide) ?_
                refine k_Vp (As := [.int (nI 256)]) (rest := [.ref mo]) ⟨hx, hb, hml, hown, hts⟩ (c_M_small l E mo mb mm mw mh ml len en gas ctr siz hgt frm ret on ay g hg 256 (by decide)) (k_cwV 1 hts t_857 t_859 t_32 t_71 t_860 (by decide +kernel) ⟨Nat.le_of_ble_eq_true rfl, Nat.le_of_ble_eq_true rfl⟩) hK hG hA hP hD hS [0, 3] rfl (by decide) 0 rfl rfl rfl hl.1 rfl (Nat.le_of_ble_eq_true rfl) d_M_does_131 ⟨Nat.zero_le _, Nat.zero_le _⟩ (fun r131 hu131 => ?_)
                subst hu131
                refine lv_sipush (v := nI 255) hx hb d_M_does_134 (by decide) ?_
                refine kn_le (tgt := 146) hx hb (by omega) (by omega) d_M_does_137 (by decide) (fun h137 => ?_) (fun h137 => ?_)
                · refine lv_aload_n hx hb d_M_does_146 rfl (lv_at hl 0 rfl) ?_
                  refine lv_sipush (v := nI 256) hx hb d_M_does_147 (by decide) ?_
                  refine k_Vp (As := [.int (nI 256)]) (rest := [.ref mo]) ⟨hx, hb, hml, hown, hts⟩ (c_M_small l E mo mb mm mw mh ml len en gas ctr siz hgt frm ret on ay g hg 256 (by decide)) (k_cwV 1 hts t_857 t_859 t_32 t_71 t_860 (by decide +kernel) ⟨Nat.le_of_ble_eq_true rfl, Nat.le_of_ble_eq_true rfl⟩) hK hG hA hP hD hS [0, 3] rfl (by decide) 0 rfl rfl rfl hl.1 rfl (Nat.le_of_ble_eq_true rfl) d_M_does_150 ⟨Nat.zero_le _, Nat.zero_le _⟩ (fun r150 hu150 => ?_)
                  subst hu150
                  refine lv_ineg hx hb d_M_does_153 ?_
                  refine lv_iconst (v := nI 0) hx hb d_M_does_154 (by decide) ?_
                  refine k_Vv (As := [.int (-(nI (min (gv g 256 16) 65535))), .int (nI 0)]) (rest := []) ⟨hx, hb, hml, hown, hts⟩ (c_M_shiftUp l E mo mb mm mw mh ml len en gas ctr siz hgt frm ret on ay g hg (min (gv g 256 16) 65535) 0 (by omega) (by decide)) (k_cwV 2 hts t_954 t_956 t_55 t_71 t_957 (by decide +kernel) ⟨Nat.le_of_ble_eq_true rfl, Nat.le_of_ble_eq_true rfl⟩) hK hG hA hP hD hS [0, 3] rfl (by decide) 0 rfl rfl (fun _ => rfl) rfl hl.1 rfl (Nat.le_of_ble_eq_true rfl) d_M_does_155 ⟨Nat.zero_le _, Nat.zero_le _⟩ (fun u1 H locs hu1 hP hD hS => ?_)
                  have hP : va_P E.1 vwCl [(mo, .inr (8, [.int (nI len), .ref mb, .int (kb on), .int (nI en), .int (nI gas), .int (nI ctr), .int (nI siz), .int (nI hgt), .int (nI frm), .int (nI ret), .ref mm, .ref mw, .ref mh, .ref ml, .int (kb ay)])), (mb, .inl (E.2.1 0, 96, .inl (nF nb))), (mm, .inl (E.2.1 0, 160, .inl (nF mem))), (mw, .inl (E.2.1 0, 370, .inl (nF u1)))] H := hP
                  have hD : va_D A [(mo, .inr (8, [.int (nI len), .ref mb, .int (kb on), .int (nI en), .int (nI gas), .int (nI ctr), .int (nI siz), .int (nI hgt), .int (nI frm), .int (nI ret), .ref mm, .ref mw, .ref mh, .ref ml, .int (kb ay)])), (mb, .inl (E.2.1 0, 96, .inl (nF nb))), (mm, .inl (E.2.1 0, 160, .inl (nF mem))), (mw, .inl (E.2.1 0, 370, .inl (nF u1)))] := hD
                  refine lv_goto (tgt := 350) hx hb d_M_does_158 (by decide) ?_
                  exact hret _ ls _ _ (u1) d_M_does_350 (do_f (fun _ => (by rw [h123, mo_27]; exact sh_shl hu1 (by first | exact Or.inl (min_s h137) | exact Or.inr (min_b h137)) : gv u1 304 16 = m_op o (gv g 256 16) (gv g 272 16) (gv g 288 16)).trans (mr_op (by omega))) hu1.1 hu1.2.1) (by rw [← mm_81 (o := o) (A := gv g 256 16) (B := gv g 272 16) (by omega) (by omega)]; exact hP) hS
                · refine lv_sipush (v := -256) hx hb d_M_does_140 (by decide) ?_
                  refine k_top (y := -(nI 256)) (by decide) ?_
                  refine lv_goto (tgt := 154) hx hb d_M_does_143 (by decide) ?_
                  refine lv_iconst (v := nI 0) hx hb d_M_does_154 (by decide) ?_
                  refine k_Vv (As := [.int (-(nI 256)), .int (nI 0)]) (rest := []) ⟨hx, hb, hml, hown, hts⟩ (c_M_shiftUp l E mo mb mm mw mh ml len en gas ctr siz hgt frm ret on ay g hg 256 0 (by omega) (by decide)) (k_cwV 2 hts t_954 t_956 t_55 t_71 t_957 (by decide +kernel) ⟨Nat.le_of_ble_eq_true rfl, Nat.le_of_ble_eq_true rfl⟩) hK hG hA hP hD hS [0, 3] rfl (by decide) 0 rfl rfl (fun _ => rfl) rfl hl.1 rfl (Nat.le_of_ble_eq_true rfl) d_M_does_155 ⟨Nat.zero_le _, Nat.zero_le _⟩ (fun u1 H locs hu1 hP hD hS => ?_)
                  have hP : va_P E.1 vwCl [(mo, .inr (8, [.int (nI len), .ref mb, .int (kb on), .int (nI en), .int (nI gas), .int (nI ctr), .int (nI siz), .int (nI hgt), .int (nI frm), .int (nI ret), .ref mm, .ref mw, .ref mh, .ref ml, .int (kb ay)])), (mb, .inl (E.2.1 0, 96, .inl (nF nb))), (mm, .inl (E.2.1 0, 160, .inl (nF mem))), (mw, .inl (E.2.1 0, 370, .inl (nF u1)))] H := hP
                  have hD : va_D A [(mo, .inr (8, [.int (nI len), .ref mb, .int (kb on), .int (nI en), .int (nI gas), .int (nI ctr), .int (nI siz), .int (nI hgt), .int (nI frm), .int (nI ret), .ref mm, .ref mw, .ref mh, .ref ml, .int (kb ay)])), (mb, .inl (E.2.1 0, 96, .inl (nF nb))), (mm, .inl (E.2.1 0, 160, .inl (nF mem))), (mw, .inl (E.2.1 0, 370, .inl (nF u1)))] := hD
                  refine lv_goto (tgt := 350) hx hb d_M_does_158 (by decide) ?_
                  exact hret _ ls _ _ (u1) d_M_does_350 (do_f (fun _ => (by rw [h123, mo_27]; exact sh_shl hu1 (by first | exact Or.inl (min_s h137) | exact Or.inr (min_b h137)) : gv u1 304 16 = m_op o (gv g 256 16) (gv g 272 16) (gv g 288 16)).trans (mr_op (by omega))) hu1.1 hu1.2.1) (by rw [← mm_81 (o := o) (A := gv g 256 16) (B := gv g 272 16) (by omega) (by omega)]; exact hP) hS
            · refine lv_aload_n hx hb d_M_does_80 rfl (lv_at hl 0 rfl) ?_
              refine lv_sipush (v := nI 304) hx hb d_M_does_81 (by decide) ?_
              refine lv_aload_n hx hb d_M_does_84 rfl (lv_at hl 0 rfl) ?_
              refine lv_sipush (v := nI 256) hx hb d_M_does_85 (by decide) ?_
              refine k_Vp (As := [.int (nI 256)]) (rest := [.int (nI 304), .ref mo]) ⟨hx, hb, hml, hown, hts⟩ (c_M_small l E mo mb mm mw mh ml len en gas ctr siz hgt frm ret on ay g hg 256 (by decide)) (k_cwV 1 hts t_857 t_859 t_32 t_71 t_860 (by decide +kernel) ⟨Nat.le_of_ble_eq_true rfl, Nat.le_of_ble_eq_true rfl⟩) hK hG hA hP hD hS [0, 3] rfl (by decide) 0 rfl rfl rfl hl.1 rfl (Nat.le_of_ble_eq_true rfl) d_M_does_88 ⟨Nat.zero_le _, Nat.zero_le _⟩ (fun r88 hu88 => ?_)
              subst hu88
              refine lv_bipush (v := nI 31) hx hb d_M_does_91 (by decide) ?_
              refine kn_le (tgt := 100) hx hb (by omega) (by omega) d_M_does_93 (by decide) (fun h93 => ?_) (fun h93 => ?_)
              · refine lv_aload_n hx hb d_M_does_100 rfl (lv_at hl 0 rfl) ?_
                refine lv_sipush (v := nI 272) hx hb d_M_does_101 (by decide) ?_
                refine lv_aload_n hx hb d_M_does_104 rfl (lv_at hl 0 rfl) ?_
                refine lv_sipush (v := nI 256) hx hb d_M_does_105 (by decide) ?_
                refine k_Vp (As := [.int (nI 256)]) (rest := [.int (nI 272), .ref mo, .int (nI 304), .ref mo]) ⟨hx, hb, hml, hown, hts⟩ (c_M_small l E mo mb mm mw mh ml len en gas ctr siz hgt frm ret on ay g hg 256 (by decide)) (k_cwV 1 hts t_857 t_859 t_32 t_71 t_860 (by decide +kernel) ⟨Nat.le_of_ble_eq_true rfl, Nat.le_of_ble_eq_true rfl⟩) hK hG hA hP hD hS [0, 3] rfl (by decide) 0 rfl rfl rfl hl.1 rfl (Nat.le_of_ble_eq_true rfl) d_M_does_108 ⟨Nat.zero_le _, Nat.zero_le _⟩ (fun r108 hu108 => ?_)
                subst hu108
                refine k_Vp (As := [.int (nI 272), .int (nI (min (gv g 256 16) 65535))]) (rest := [.int (nI 304), .ref mo]) ⟨hx, hb, hml, hown, hts⟩ (c_M_byteOf l E mo mb mm mw mh ml len en gas ctr siz hgt frm ret on ay g hg 272 (min (gv g 256 16) 65535) (by decide) (by omega)) (k_cwV 2 hts t_950 t_952 t_54 t_71 t_953 (by decide +kernel) ⟨Nat.le_of_ble_eq_true rfl, Nat.le_of_ble_eq_true rfl⟩) hK hG hA hP hD hS [0, 3] rfl (by decide) 0 rfl rfl rfl hl.1 rfl (Nat.le_of_ble_eq_true rfl) d_M_does_111 ⟨Nat.zero_le _, Nat.zero_le _⟩ (fun r111 hu111 => ?_)
                subst hu111
                have hnv : (m_byte (min (gv g 256 16) 65535) (gv g 272 16)) < 2147483648 := (Nat.lt_trans (byte_b _ _) (by decide))
                refine k_Vv (As := [.int (nI 304), .int (nI (m_byte (min (gv g 256 16) 65535) (gv g 272 16)))]) (rest := []) ⟨hx, hb, hml, hown, hts⟩ (c_M_number l E mo mb mm mw mh ml len en gas ctr siz hgt frm ret on ay g hg 304 (m_byte (min (gv g 256 16) 65535) (gv g 272 16)) (by decide) hnv) (k_cwV 2 hts t_942 t_944 t_52 t_71 t_945 (by decide +kernel) ⟨Nat.le_of_ble_eq_true rfl, Nat.le_of_ble_eq_true rfl⟩) hK hG hA hP hD hS [0, 3] rfl (by decide) 0 rfl rfl (fun _ => rfl) rfl hl.1 rfl (Nat.le_of_ble_eq_true rfl) d_M_does_114 ⟨Nat.zero_le _, Nat.zero_le _⟩ (fun u1 H locs hu1 hP hD hS => ?_)
                have hP : va_P E.1 vwCl [(mo, .inr (8, [.int (nI len), .ref mb, .int (kb on), .int (nI en), .int (nI gas), .int (nI ctr), .int (nI siz), .int (nI hgt), .int (nI frm), .int (nI ret), .ref mm, .ref mw, .ref mh, .ref ml, .int (kb ay)])), (mb, .inl (E.2.1 0, 96, .inl (nF nb))), (mm, .inl (E.2.1 0, 160, .inl (nF mem))), (mw, .inl (E.2.1 0, 370, .inl (nF (nmb g 304 (m_byte (min (gv g 256 16) 65535) (gv g 272 16))))))] H := hP
                have hD : va_D A [(mo, .inr (8, [.int (nI len), .ref mb, .int (kb on), .int (nI en), .int (nI gas), .int (nI ctr), .int (nI siz), .int (nI hgt), .int (nI frm), .int (nI ret), .ref mm, .ref mw, .ref mh, .ref ml, .int (kb ay)])), (mb, .inl (E.2.1 0, 96, .inl (nF nb))), (mm, .inl (E.2.1 0, 160, .inl (nF mem))), (mw, .inl (E.2.1 0, 370, .inl (nF (nmb g 304 (m_byte (min (gv g 256 16) 65535) (gv g 272 16))))))] := hD
                refine lv_goto (tgt := 350) hx hb d_M_does_117 (by decide) ?_
                exact hret _ ls _ _ (nmb g 304 (m_byte (min (gv g 256 16) 65535) (gv g 272 16))) d_M_does_350 (do_n hg (Nat.lt_trans hnv (by decide)) ((by rw [h77, mo_26]; first | exact byt_min h93 | exact byt_big h93 : m_byte (min (gv g 256 16) 65535) (gv g 272 16) = m_op o (gv g 256 16) (gv g 272 16) (gv g 288 16)).trans (mr_op (by omega)))) (by rw [← mm_81 (o := o) (A := gv g 256 16) (B := gv g 272 16) (by omega) (by omega)]; exact hP) hS
              · refine lv_iconst (v := nI 0) hx hb d_M_does_96 (by decide) ?_
                refine lv_goto (tgt := 114) hx hb d_M_does_97 (by decide) ?_
                have hnv : 0 < 2147483648 := (by omega)
                refine k_Vv (As := [.int (nI 304), .int (nI 0)]) (rest := []) ⟨hx, hb, hml, hown, hts⟩ (c_M_number l E mo mb mm mw mh ml len en gas ctr siz hgt frm ret on ay g hg 304 0 (by decide) hnv) (k_cwV 2 hts t_942 t_944 t_52 t_71 t_945 (by decide +kernel) ⟨Nat.le_of_ble_eq_true rfl, Nat.le_of_ble_eq_true rfl⟩) hK hG hA hP hD hS [0, 3] rfl (by decide) 0 rfl rfl (fun _ => rfl) rfl hl.1 rfl (Nat.le_of_ble_eq_true rfl) d_M_does_114 ⟨Nat.zero_le _, Nat.zero_le _⟩ (fun u1 H locs hu1 hP hD hS => ?_)
                have hP : va_P E.1 vwCl [(mo, .inr (8, [.int (nI len), .ref mb, .int (kb on), .int (nI en), .int (nI gas), .int (nI ctr), .int (nI siz), .int (nI hgt), .int (nI frm), .int (nI ret), .ref mm, .ref mw, .ref mh, .ref ml, .int (kb ay)])), (mb, .inl (E.2.1 0, 96, .inl (nF nb))), (mm, .inl (E.2.1 0, 160, .inl (nF mem))), (mw, .inl (E.2.1 0, 370, .inl (nF (nmb g 304 0))))] H := hP
                have hD : va_D A [(mo, .inr (8, [.int (nI len), .ref mb, .int (kb on), .int (nI en), .int (nI gas), .int (nI ctr), .int (nI siz), .int (nI hgt), .int (nI frm), .int (nI ret), .ref mm, .ref mw, .ref mh, .ref ml, .int (kb ay)])), (mb, .inl (E.2.1 0, 96, .inl (nF nb))), (mm, .inl (E.2.1 0, 160, .inl (nF mem))), (mw, .inl (E.2.1 0, 370, .inl (nF (nmb g 304 0))))] := hD
                refine lv_goto (tgt := 350) hx hb d_M_does_117 (by decide) ?_
                exact hret _ ls _ _ (nmb g 304 0) d_M_does_350 (do_n hg (Nat.lt_trans hnv (by decide)) ((by rw [h77, mo_26]; first | exact byt_min h93 | exact byt_big h93 : 0 = m_op o (gv g 256 16) (gv g 272 16) (gv g 288 16)).trans (mr_op (by omega)))) (by rw [← mm_81 (o := o) (A := gv g 256 16) (B := gv g 272 16) (by omega) (by omega)]; exact hP) hS
          · refine lv_aload_n hx hb d_M_does_66 rfl (lv_at hl 0 rfl) ?_
            refine lv_iload_n hx hb d_M_does_67 rfl (lv_at hl 1 rfl) ?_
            refine k_Vv (As := [.int (nI o)]) (rest := []) ⟨hx, hb, hml, hown, hts⟩ (c_M_joins l E mo mb mm mw mh ml len en gas ctr siz hgt frm ret on ay g hg o (by omega)) (k_cwV 1 hts t_946 t_948 t_53 t_71 t_949 (by decide +kernel) ⟨Nat.le_of_ble_eq_true rfl, Nat.le_of_ble_eq_true rfl⟩) hK hG hA hP hD hS [0, 3] rfl (by decide) 0 rfl rfl (fun _ => rfl) rfl hl.1 rfl (Nat.le_of_ble_eq_true rfl) d_M_does_68 ⟨Nat.zero_le _, Nat.zero_le _⟩ (fun u1 H locs hu1 hP hD hS => ?_)
            have hP : va_P E.1 vwCl [(mo, .inr (8, [.int (nI len), .ref mb, .int (kb on), .int (nI en), .int (nI gas), .int (nI ctr), .int (nI siz), .int (nI hgt), .int (nI frm), .int (nI ret), .ref mm, .ref mw, .ref mh, .ref ml, .int (kb ay)])), (mb, .inl (E.2.1 0, 96, .inl (nF nb))), (mm, .inl (E.2.1 0, 160, .inl (nF mem))), (mw, .inl (E.2.1 0, 370, .inl (nF u1)))] H := hP
            have hD : va_D A [(mo, .inr (8, [.int (nI len), .ref mb, .int (kb on), .int (nI en), .int (nI gas), .int (nI ctr), .int (nI siz), .int (nI hgt), .int (nI frm), .int (nI ret), .ref mm, .ref mw, .ref mh, .ref ml, .int (kb ay)])), (mb, .inl (E.2.1 0, 96, .inl (nF nb))), (mm, .inl (E.2.1 0, 160, .inl (nF mem))), (mw, .inl (E.2.1 0, 370, .inl (nF u1)))] := hD
            refine lv_goto (tgt := 350) hx hb d_M_does_71 (by decide) ?_
            exact hret _ ls _ _ (u1) d_M_does_350 (do_f (fun _ => (hu1.1 _).trans (mr_op (by omega))) hu1.2.1 hu1.2.2) (by rw [← mm_81 (o := o) (A := gv g 256 16) (B := gv g 272 16) (by omega) (by omega)]; exact hP) hS
      · refine lv_aload_n hx hb d_M_does_31 rfl (lv_at hl 0 rfl) ?_
        refine lv_sipush (v := nI 304) hx hb d_M_does_32 (by decide) ?_
        refine lv_aload_n hx hb d_M_does_35 rfl (lv_at hl 0 rfl) ?_
        refine lv_iload_n hx hb d_M_does_36 rfl (lv_at hl 1 rfl) ?_
        refine k_Vp (As := [.int (nI o)]) (rest := [.int (nI 304), .ref mo]) ⟨hx, hb, hml, hown, hts⟩ (c_M_holds l E mo mb mm mw mh ml len en gas ctr siz hgt frm ret on ay g hg o (by omega)) (k_cwV 1 hts t_930 t_932 t_49 t_71 t_933 (by decide +kernel) ⟨Nat.le_of_ble_eq_true rfl, Nat.le_of_ble_eq_true rfl⟩) hK hG hA hP hD hS [0, 3] rfl (by decide) 0 rfl rfl rfl hl.1 rfl (Nat.le_of_ble_eq_true rfl) d_M_does_37 ⟨Nat.zero_le _, Nat.zero_le _⟩ (fun r37 hu37 => ?_)
        subst hu37
        refine lv_if_eq (tgt := 47) hx hb d_M_does_40 (by decide) (fun h40 => ?_) (fun h40 => ?_)
        · refine lv_iconst (v := nI 0) hx hb d_M_does_47 (by decide) ?_
          have hnv : 0 < 2147483648 := (by omega)
          refine k_Vv (As := [.int (nI 304), .int (nI 0)]) (rest := []) ⟨hx, hb, hml, hown, hts⟩ (c_M_number l E mo mb mm mw mh ml len en gas ctr siz hgt frm ret on ay g hg 304 0 (by decide) hnv) (k_cwV 2 hts t_942 t_944 t_52 t_71 t_945 (by decide +kernel) ⟨Nat.le_of_ble_eq_true rfl, Nat.le_of_ble_eq_true rfl⟩) hK hG hA hP hD hS [0, 3] rfl (by decide) 0 rfl rfl (fun _ => rfl) rfl hl.1 rfl (Nat.le_of_ble_eq_true rfl) d_M_does_48 ⟨Nat.zero_le _, Nat.zero_le _⟩ (fun u1 H locs hu1 hP hD hS => ?_)
          have hP : va_P E.1 vwCl [(mo, .inr (8, [.int (nI len), .ref mb, .int (kb on), .int (nI en), .int (nI gas), .int (nI ctr), .int (nI siz), .int (nI hgt), .int (nI frm), .int (nI ret), .ref mm, .ref mw, .ref mh, .ref ml, .int (kb ay)])), (mb, .inl (E.2.1 0, 96, .inl (nF nb))), (mm, .inl (E.2.1 0, 160, .inl (nF mem))), (mw, .inl (E.2.1 0, 370, .inl (nF (nmb g 304 0))))] H := hP
          have hD : va_D A [(mo, .inr (8, [.int (nI len), .ref mb, .int (kb on), .int (nI en), .int (nI gas), .int (nI ctr), .int (nI siz), .int (nI hgt), .int (nI frm), .int (nI ret), .ref mm, .ref mw, .ref mh, .ref ml, .int (kb ay)])), (mb, .inl (E.2.1 0, 96, .inl (nF nb))), (mm, .inl (E.2.1 0, 160, .inl (nF mem))), (mw, .inl (E.2.1 0, 370, .inl (nF (nmb g 304 0))))] := hD
          refine lv_goto (tgt := 350) hx hb d_M_does_51 (by decide) ?_
          exact hret _ ls _ _ (nmb g 304 0) d_M_does_350 (do_n hg (by decide) ((by rw [hold_op (by omega) (by omega)]; first | (rw [kb_n0 h40]; rfl) | (rw [kb_0.mp h40]; rfl) : 0 = m_op o (gv g 256 16) (gv g 272 16) (gv g 288 16)).trans (mr_op (by omega)))) (by rw [← mm_81 (o := o) (A := gv g 256 16) (B := gv g 272 16) (by omega) (by omega)]; exact hP) hS
        · refine lv_iconst (v := nI 1) hx hb d_M_does_43 (by decide) ?_
          refine lv_goto (tgt := 48) hx hb d_M_does_44 (by decide) ?_
          have hnv : 1 < 2147483648 := (by omega)
          refine k_Vv (As := [.int (nI 304), .int (nI 1)]) (rest := []) ⟨hx, hb, hml, hown, hts⟩ (c_M_number l E mo mb mm mw mh ml len en gas ctr siz hgt frm ret on ay g hg 304 1 (by decide) hnv) (k_cwV 2 hts t_942 t_944 t_52 t_71 t_945 (by decide +kernel) ⟨Nat.le_of_ble_eq_true rfl, Nat.le_of_ble_eq_true rfl⟩) hK hG hA hP hD hS [0, 3] rfl (by decide) 0 rfl rfl (fun _ => rfl) rfl hl.1 rfl (Nat.le_of_ble_eq_true rfl) d_M_does_48 ⟨Nat.zero_le _, Nat.zero_le _⟩ (fun u1 H locs hu1 hP hD hS => ?_)
          have hP : va_P E.1 vwCl [(mo, .inr (8, [.int (nI len), .ref mb, .int (kb on), .int (nI en), .int (nI gas), .int (nI ctr), .int (nI siz), .int (nI hgt), .int (nI frm), .int (nI ret), .ref mm, .ref mw, .ref mh, .ref ml, .int (kb ay)])), (mb, .inl (E.2.1 0, 96, .inl (nF nb))), (mm, .inl (E.2.1 0, 160, .inl (nF mem))), (mw, .inl (E.2.1 0, 370, .inl (nF (nmb g 304 1))))] H := hP
          have hD : va_D A [(mo, .inr (8, [.int (nI len), .ref mb, .int (kb on), .int (nI en), .int (nI gas), .int (nI ctr), .int (nI siz), .int (nI hgt), .int (nI frm), .int (nI ret), .ref mm, .ref mw, .ref mh, .ref ml, .int (kb ay)])), (mb, .inl (E.2.1 0, 96, .inl (nF nb))), (mm, .inl (E.2.1 0, 160, .inl (nF mem))), (mw, .inl (E.2.1 0, 370, .inl (nF (nmb g 304 1))))] := hD
          refine lv_goto (tgt := 350) hx hb d_M_does_51 (by decide) ?_
          exact hret _ ls _ _ (nmb g 304 1) d_M_does_350 (do_n hg (by decide) ((by rw [hold_op (by omega) (by omega)]; first | (rw [kb_n0 h40]; rfl) | (rw [kb_0.mp h40]; rfl) : 1 = m_op o (gv g 256 16) (gv g 272 16) (gv g 288 16)).trans (mr_op (by omega)))) (by rw [← mm_81 (o := o) (A := gv g 256 16) (B := gv g 272 16) (by omega) (by omega)]; exact hP) hS
  · refine lv_iload_n hx hb d_M_does_5 rfl (lv_at hl 1 rfl) ?_
    refine lv_bipush (v := nI 11) hx hb d_M_does_6 (by decide) ?_
    refine kn_gt (tgt := 19) hx hb (by omega) (by omega) d_M_does_8 (by decide) (fun h8 => ?_) (fun h8 => ?_)
    · refine lv_iload_n hx hb d_M_does_19 rfl (lv_at hl 1 rfl) ?_
      refine lv_bipush (v := nI 16) hx hb d_M_does_20 (by decide) ?_
      refine kn_lt (tgt := 54) hx hb (by omega) (by omega) d_M_does_22 (by decide) (fun h22 => ?_) (fun h22 => ?_)
      · refine lv_iload_n hx hb d_M_does_54 rfl (lv_at hl 1 rfl) ?_
        refine lv_bipush (v := nI 22) hx hb d_M_does_55 (by decide) ?_
        refine kn_lt (tgt := 74) hx hb (by omega) (by omega) d_M_does_57 (by decide) (fun h57 => ?_) (fun h57 => ?_)
        · refine lv_iload_n hx hb d_M_does_74 rfl (lv_at hl 1 rfl) ?_
          refine lv_bipush (v := nI 26) hx hb d_M_does_75 (by decide) ?_
          refine kn_ne (tgt := 120) hx hb (by omega) (by omega) d_M_does_77 (by decide) (fun h77 => ?_) (fun h77 => ?_)
          · refine lv_iload_n hx hb d_M_does_120 rfl (lv_at hl 1 rfl) ?_
            refine lv_bipush (v := nI 27) hx hb d_M_does_121 (by decide) ?_
            refine kn_ne (tgt := 161) hx hb (by omega) (by omega) d_M_does_123 (by decide) (fun h123 => ?_) (fun h123 => ?_)
            · refine lv_iload_n hx hb d_M_does_161 rfl (lv_at hl 1 rfl) ?_
              refine lv_bipush (v := nI 28) hx hb d_M_does_162 (by decide) ?_
              refine kn_ne (tgt := 201) hx hb (by omega) (by omega) d_M_does_164 (by decide) (fun h164 => ?_) (fun h164 => ?_)
              · refine lv_iload_n hx hb d_M_does_201 rfl (lv_at hl 1 rfl) ?_
                refine lv_bipush (v := nI 29) hx hb d_M_does_202 (by decide) ?_
                refine kn_ne (tgt := 255) hx hb (by omega) (by omega) d_M_does_204 (by decide) (fun h204 => ?_) (fun h204 => ?_)
                · refine lv_iload_n hx hb d_M_does_255 rfl (lv_at hl 1 rfl) ?_
                  refine lv_bipush (v := nI 81) hx hb d_M_does_256 (by decide) ?_
                  refine kn_lt (tgt := 275) hx hb (by omega) (by omega) d_M_does_258 (by decide) (fun h258 => ?_) (fun h258 => ?_)
                  · refine lv_iload_n hx hb d_M_does_275 rfl (lv_at hl 1 rfl) ?_
                    refine lv_bipush (v := nI 88) hx hb d_M_does_276 (by decide) ?_
                    refine kn_ne (tgt := 295) hx hb (by omega) (by omega) d_M_does_278 (by decide) (fun h278 => ?_) (fun h278 => ?_)
                    · refine lv_iload_n hx hb d_M_does_295 rfl (lv_at hl 1 rfl) ?_
                      refine lv_bipush (v := nI 89) hx hb d_M_does_296 (by decide) ?_
                      refine kn_ne (tgt := 315) hx hb (by omega) (by omega) d_M_does_298 (by decide) (fun h298 => ?_) (fun h298 => ?_)
                      · refine lv_iload_n hx hb d_M_does_315 rfl (lv_at hl 1 rfl) ?_
                        refine lv_bipush (v := nI 90) hx hb d_M_does_316 (by decide) ?_
                        refine kn_ne (tgt := 335) hx hb (by omega) (by omega) d_M_does_318 (by decide) (fun h318 => ?_) (fun h318 => ?_)
                        · refine lv_iload_n hx hb d_M_does_335 rfl (lv_at hl 1 rfl) ?_
                          refine k_Sp (As := [.int (nI o)]) (rest := []) ⟨hx, hb, hml, hown, hts⟩ (c_M_hasNumber l E o (by omega)) (k_cwS 1 hts t_816 t_817 t_71 t_818 (by decide +kernel) ⟨Nat.le_of_ble_eq_true rfl, Nat.le_of_ble_eq_true rfl⟩) hK hG hA hP hD hS [] rfl (by decide) rfl hl.1 rfl (Nat.le_of_ble_eq_true rfl) d_M_does_336 ⟨Nat.zero_le _, Nat.zero_le _⟩ (fun r336 hu336 => ?_)
                          subst hu336
                          refine lv_if_eq (tgt := 350) hx hb d_M_does_339 (by decide) (fun h339 => ?_) (fun h339 => ?_)
                          · have hq := of_decide_eq_false (kb_0.mp h339)
                            exact hret _ ls _ _ (g) d_M_does_350 (do_0 hg (mg_0 hk (by omega) (by omega) (by omega) (by omega))) (by rw [← mm_81 (o := o) (A := gv g 256 16) (B := gv g 272 16) (by omega) (by omega)]; exact hP) hS
                          · have hq := of_decide_eq_true (kb_n0 h339)
                            refine lv_aload_n hx hb d_M_does_342 rfl (lv_at hl 0 rfl) ?_
                            refine lv_iload_n hx hb d_M_does_343 rfl (lv_at hl 1 rfl) ?_
                            refine lv_bipush (v := nI 95) hx hb d_M_does_344 (by decide) ?_
                            refine lv_isub hx hb d_M_does_346 ?_
                            refine k_top (pk_sub (by omega)) ?_
                            refine k_Vv (As := [.int (nI (o - 95))]) (rest := []) ⟨hx, hb, hml, hown, hts⟩ (c_M_reads l E mo mb mm mw mh ml len en gas ctr siz hgt frm ret on ay g hg nb bb okb (o - 95) (by omega) hc) (k_cwV 1 hts t_962 t_964 t_57 t_71 t_965 (by decide +kernel) ⟨Nat.le_of_ble_eq_true rfl, Nat.le_of_ble_eq_true rfl⟩) hK hG hA hP hD hS [0, 1, 3] rfl (by decide) 0 rfl rfl (fun _ => rfl) rfl hl.1 rfl (Nat.le_of_ble_eq_true rfl) d_M_does_347 ⟨Nat.zero_le _, Nat.zero_le _⟩ (fun u1 H locs hu1 hP hD hS => ?_)
                            have hP : va_P E.1 vwCl [(mo, .inr (8, [.int (nI len), .ref mb, .int (kb on), .int (nI en), .int (nI gas), .int (nI ctr), .int (nI siz), .int (nI hgt), .int (nI frm), .int (nI ret), .ref mm, .ref mw, .ref mh, .ref ml, .int (kb ay)])), (mb, .inl (E.2.1 0, 96, .inl (nF nb))), (mm, .inl (E.2.1 0, 160, .inl (nF mem))), (mw, .inl (E.2.1 0, 370, .inl (nF u1)))] H := hP
                            have hD : va_D A [(mo, .inr (8, [.int (nI len), .ref mb, .int (kb on), .int (nI en), .int (nI gas), .int (nI ctr), .int (nI siz), .int (nI hgt), .int (nI frm), .int (nI ret), .ref mm, .ref mw, .ref mh, .ref ml, .int (kb ay)])), (mb, .inl (E.2.1 0, 96, .inl (nF nb))), (mm, .inl (E.2.1 0, 160, .inl (nF mem))), (mw, .inl (E.2.1 0, 370, .inl (nF u1)))] := hD
                            exact hret _ ls _ _ (u1) d_M_does_350 (do_f (fun _ => hu1.1.trans (mr_num hq)) hu1.2.1 hu1.2.2) (by rw [← mm_81 (o := o) (A := gv g 256 16) (B := gv g 272 16) (by omega) (by omega)]; exact hP) hS
                        · refine lv_aload_n hx hb d_M_does_321 rfl (lv_at hl 0 rfl) ?_
                          refine lv_sipush (v := nI 304) hx hb d_M_does_322 (by decide) ?_
                          refine lv_aload_n hx hb d_M_does_325 rfl (lv_at hl 0 rfl) ?_
                          refine va_get (D := E.1) (ci := 8) (v := .int (nI gas)) (C := "WideStackModel") (T := T_M) (N := 15) hx hb hts in_M hown hK hP 0 rfl rfl 4 (by decide) (hts _ t_751) (fun _ h9 => h9) rfl d_M_does_326 ?_
                          have hnv : gas < 2147483648 := (by omega)
                          refine k_Vv (As := [.int (nI 304), .int (nI gas)]) (rest := []) ⟨hx, hb, hml, hown, hts⟩ (c_M_number l E mo mb mm mw mh ml len en gas ctr siz hgt frm ret on ay g hg 304 gas (by decide) hnv) (k_cwV 2 hts t_942 t_944 t_52 t_71 t_945 (by decide +kernel) ⟨Nat.le_of_ble_eq_true rfl, Nat.le_of_ble_eq_true rfl⟩) hK hG hA hP hD hS [0, 3] rfl (by decide) 0 rfl rfl (fun _ => rfl) rfl hl.1 rfl (Nat.le_of_ble_eq_true rfl) d_M_does_329 ⟨Nat.zero_le _, Nat.zero_le _⟩ (fun u1 H locs hu1 hP hD hS => ?_)
                          have hP : va_P E.1 vwCl [(mo, .inr (8, [.int (nI len), .ref mb, .int (kb on), .int (nI en), .int (nI gas), .int (nI ctr), .int (nI siz), .int (nI hgt), .int (nI frm), .int (nI ret), .ref mm, .ref mw, .ref mh, .ref ml, .int (kb ay)])), (mb, .inl (E.2.1 0, 96, .inl (nF nb))), (mm, .inl (E.2.1 0, 160, .inl (nF mem))), (mw, .inl (E.2.1 0, 370, .inl (nF (nmb g 304 gas))))] H := hP
                          have hD : va_D A [(mo, .inr (8, [.int (nI len), .ref mb, .int (kb on), .int (nI en), .int (nI gas), .int (nI ctr), .int (nI siz), .int (nI hgt), .int (nI frm), .int (nI ret), .ref mm, .ref mw, .ref mh, .ref ml, .int (kb ay)])), (mb, .inl (E.2.1 0, 96, .inl (nF nb))), (mm, .inl (E.2.1 0, 160, .inl (nF mem))), (mw, .inl (E.2.1 0, 370, .inl (nF (nmb g 304 gas))))] := hD
                          refine lv_goto (tgt := 350) hx hb d_M_does_332 (by decide) ?_
                          exact hret _ ls _ _ (nmb g 304 gas) d_M_does_350 (do_n hg (by omega) (mr_90 h318)) (by rw [← mm_81 (o := o) (A := gv g 256 16) (B := gv g 272 16) (by omega) (by omega)]; exact hP) hS
                      · refine lv_aload_n hx hb d_M_does_301 rfl (lv_at hl 0 rfl) ?_
                        refine lv_sipush (v := nI 304) hx hb d_M_does_302 (by decide) ?_
                        refine lv_aload_n hx hb d_M_does_305 rfl (lv_at hl 0 rfl) ?_
                        refine va_get (D := E.1) (ci := 8) (v := .int (nI siz)) (C := "WideStackModel") (T := T_M) (N := 15) hx hb hts in_M hown hK hP 0 rfl rfl 6 (by decide) (hts _ t_753) (fun _ h9 => h9) rfl d_M_does_306 ?_
                        have hnv : siz < 2147483648 := (by omega)
                        refine k_Vv (As := [.int (nI 304), .int (nI siz)]) (rest := []) ⟨hx, hb, hml, hown, hts⟩ (c_M_number l E mo mb mm mw mh ml len en gas ctr siz hgt frm ret on ay g hg 304 siz (by decide) hnv) (k_cwV 2 hts t_942 t_944 t_52 t_71 t_945 (by decide +kernel) ⟨Nat.le_of_ble_eq_true rfl, Nat.le_of_ble_eq_true rfl⟩) hK hG hA hP hD hS [0, 3] rfl (by decide) 0 rfl rfl (fun _ => rfl) rfl hl.1 rfl (Nat.le_of_ble_eq_true rfl) d_M_does_309 ⟨Nat.zero_le _, Nat.zero_le _⟩ (fun u1 H locs hu1 hP hD hS => ?_)
                        have hP : va_P E.1 vwCl [(mo, .inr (8, [.int (nI len), .ref mb, .int (kb on), .int (nI en), .int (nI gas), .int (nI ctr), .int (nI siz), .int (nI hgt), .int (nI frm), .int (nI ret), .ref mm, .ref mw, .ref mh, .ref ml, .int (kb ay)])), (mb, .inl (E.2.1 0, 96, .inl (nF nb))), (mm, .inl (E.2.1 0, 160, .inl (nF mem))), (mw, .inl (E.2.1 0, 370, .inl (nF (nmb g 304 siz))))] H := hP
                        have hD : va_D A [(mo, .inr (8, [.int (nI len), .ref mb, .int (kb on), .int (nI en), .int (nI gas), .int (nI ctr), .int (nI siz), .int (nI hgt), .int (nI frm), .int (nI ret), .ref mm, .ref mw, .ref mh, .ref ml, .int (kb ay)])), (mb, .inl (E.2.1 0, 96, .inl (nF nb))), (mm, .inl (E.2.1 0, 160, .inl (nF mem))), (mw, .inl (E.2.1 0, 370, .inl (nF (nmb g 304 siz))))] := hD
                        refine lv_goto (tgt := 350) hx hb d_M_does_312 (by decide) ?_
                        exact hret _ ls _ _ (nmb g 304 siz) d_M_does_350 (do_n hg (by omega) (mr_89 h298)) (by rw [← mm_81 (o := o) (A := gv g 256 16) (B := gv g 272 16) (by omega) (by omega)]; exact hP) hS
                    · refine lv_aload_n hx hb d_M_does_281 rfl (lv_at hl 0 rfl) ?_
                      refine lv_sipush (v := nI 304) hx hb d_M_does_282 (by decide) ?_
                      refine lv_aload_n hx hb d_M_does_285 rfl (lv_at hl 0 rfl) ?_
                      refine va_get (D := E.1) (ci := 8) (v := .int (nI ctr)) (C := "WideStackModel") (T := T_M) (N := 15) hx hb hts in_M hown hK hP 0 rfl rfl 5 (by decide) (hts _ t_752) (fun _ h9 => h9) rfl d_M_does_286 ?_
                      have hnv : ctr < 2147483648 := (by omega)
                      refine k_Vv (As := [.int (nI 304), .int (nI ctr)]) (rest := []) ⟨hx, hb, hml, hown, hts⟩ (c_M_number l E mo mb mm mw mh ml len en gas ctr siz hgt frm ret on ay g hg 304 ctr (by decide) hnv) (k_cwV 2 hts t_942 t_944 t_52 t_71 t_945 (by decide +kernel) ⟨Nat.le_of_ble_eq_true rfl, Nat.le_of_ble_eq_true rfl⟩) hK hG hA hP hD hS [0, 3] rfl (by decide) 0 rfl rfl (fun _ => rfl) rfl hl.1 rfl (Nat.le_of_ble_eq_true rfl) d_M_does_289 ⟨Nat.zero_le _, Nat.zero_le _⟩ (fun u1 H locs hu1 hP hD hS => ?_)
                      have hP : va_P E.1 vwCl [(mo, .inr (8, [.int (nI len), .ref mb, .int (kb on), .int (nI en), .int (nI gas), .int (nI ctr), .int (nI siz), .int (nI hgt), .int (nI frm), .int (nI ret), .ref mm, .ref mw, .ref mh, .ref ml, .int (kb ay)])), (mb, .inl (E.2.1 0, 96, .inl (nF nb))), (mm, .inl (E.2.1 0, 160, .inl (nF mem))), (mw, .inl (E.2.1 0, 370, .inl (nF (nmb g 304 ctr))))] H := hP
                      have hD : va_D A [(mo, .inr (8, [.int (nI len), .ref mb, .int (kb on), .int (nI en), .int (nI gas), .int (nI ctr), .int (nI siz), .int (nI hgt), .int (nI frm), .int (nI ret), .ref mm, .ref mw, .ref mh, .ref ml, .int (kb ay)])), (mb, .inl (E.2.1 0, 96, .inl (nF nb))), (mm, .inl (E.2.1 0, 160, .inl (nF mem))), (mw, .inl (E.2.1 0, 370, .inl (nF (nmb g 304 ctr))))] := hD
                      refine lv_goto (tgt := 350) hx hb d_M_does_292 (by decide) ?_
                      exact hret _ ls _ _ (nmb g 304 ctr) d_M_does_350 (do_n hg (by omega) (mr_88 h278)) (by rw [← mm_81 (o := o) (A := gv g 256 16) (B := gv g 272 16) (by omega) (by omega)]; exact hP) hS
                  · refine lv_iload_n hx hb d_M_does_261 rfl (lv_at hl 1 rfl) ?_
                    refine lv_bipush (v := nI 83) hx hb d_M_does_262 (by decide) ?_
                    refine kn_gt (tgt := 275) hx hb (by omega) (by omega) d_M_does_264 (by decide) (fun h264 => ?_) (fun h264 => ?_)
                    · refine lv_iload_n hx hb d_M_does_275 rfl (lv_at hl 1 rfl) ?_
                      refine lv_bipush (v := nI 88) hx hb d_M_does_276 (by decide) ?_
                      refine kn_ne (tgt := 295) hx hb (by omega) (by omega) d_M_does_278 (by decide) (fun h278 => ?_) (fun h278 => ?_)
                      · refine lv_iload_n hx hb d_M_does_295 rfl (lv_at hl 1 rfl) ?_
                        refine lv_bipush (v := nI 89) hx hb d_M_does_296 (by decide) ?_
                        refine kn_ne (tgt := 315) hx hb (by omega) (by omega) d_M_does_298 (by decide) (fun h298 => ?_) (fun h298 => ?_)
                        · refine lv_iload_n hx hb d_M_does_315 rfl (lv_at hl 1 rfl) ?_
                          refine lv_bipush (v := nI 90) hx hb d_M_does_316 (by decide) ?_
                          refine kn_ne (tgt := 335) hx hb (by omega) (by omega) d_M_does_318 (by decide) (fun h318 => ?_) (fun h318 => ?_)
                          · refine lv_iload_n hx hb d_M_does_335 rfl (lv_at hl 1 rfl) ?_
                            refine k_Sp (As := [.int (nI o)]) (rest := []) ⟨hx, hb, hml, hown, hts⟩ (c_M_hasNumber l E o (by omega)) (k_cwS 1 hts t_816 t_817 t_71 t_818 (by decide +kernel) ⟨Nat.le_of_ble_eq_true rfl, Nat.le_of_ble_eq_true rfl⟩) hK hG hA hP hD hS [] rfl (by decide) rfl hl.1 rfl (Nat.le_of_ble_eq_true rfl) d_M_does_336 ⟨Nat.zero_le _, Nat.zero_le _⟩ (fun r336 hu336 => ?_)
                            subst hu336
                            refine lv_if_eq (tgt := 350) hx hb d_M_does_339 (by decide) (fun h339 => ?_) (fun h339 => ?_)
                            · have hq := of_decide_eq_false (kb_0.mp h339)
                              exact hret _ ls _ _ (g) d_M_does_350 (do_0 hg (mg_0 hk (by omega) (by omega) (by omega) (by omega))) (by rw [← mm_81 (o := o) (A := gv g 256 16) (B := gv g 272 16) (by omega) (by omega)]; exact hP) hS
                            · have hq := of_decide_eq_true (kb_n0 h339)
                              refine lv_aload_n hx hb d_M_does_342 rfl (lv_at hl 0 rfl) ?_
                              refine lv_iload_n hx hb d_M_does_343 rfl (lv_at hl 1 rfl) ?_
                              refine lv_bipush (v := nI 95) hx hb d_M_does_344 (by decide) ?_
                              refine lv_isub hx hb d_M_does_346 ?_
                              refine k_top (pk_sub (by omega)) ?_
                              refine k_Vv (As := [.int (nI (o - 95))]) (rest := []) ⟨hx, hb, hml, hown, hts⟩ (c_M_reads l E mo mb mm mw mh ml len en gas ctr siz hgt frm ret on ay g hg nb bb okb (o - 95) (by omega) hc) (k_cwV 1 hts t_962 t_964 t_57 t_71 t_965 (by decide +kernel) ⟨Nat.le_of_ble_eq_true rfl, Nat.le_of_ble_eq_true rfl⟩) hK hG hA hP hD hS [0, 1, 3] rfl (by decide) 0 rfl rfl (fun _ => rfl) rfl hl.1 rfl (Nat.le_of_ble_eq_true rfl) d_M_does_347 ⟨Nat.zero_le _, Nat.zero_le _⟩ (fun u1 H locs hu1 hP hD hS => ?_)
                              have hP : va_P E.1 vwCl [(mo, .inr (8, [.int (nI len), .ref mb, .int (kb on), .int (nI en), .int (nI gas), .int (nI ctr), .int (nI siz), .int (nI hgt), .int (nI frm), .int (nI ret), .ref mm, .ref mw, .ref mh, .ref ml, .int (kb ay)])), (mb, .inl (E.2.1 0, 96, .inl (nF nb))), (mm, .inl (E.2.1 0, 160, .inl (nF mem))), (mw, .inl (E.2.1 0, 370, .inl (nF u1)))] H := hP
                              have hD : va_D A [(mo, .inr (8, [.int (nI len), .ref mb, .int (kb on), .int (nI en), .int (nI gas), .int (nI ctr), .int (nI siz), .int (nI hgt), .int (nI frm), .int (nI ret), .ref mm, .ref mw, .ref mh, .ref ml, .int (kb ay)])), (mb, .inl (E.2.1 0, 96, .inl (nF nb))), (mm, .inl (E.2.1 0, 160, .inl (nF mem))), (mw, .inl (E.2.1 0, 370, .inl (nF u1)))] := hD
                              exact hret _ ls _ _ (u1) d_M_does_350 (do_f (fun _ => hu1.1.trans (mr_num hq)) hu1.2.1 hu1.2.2) (by rw [← mm_81 (o := o) (A := gv g 256 16) (B := gv g 272 16) (by omega) (by omega)]; exact hP) hS
                          · refine lv_aload_n hx hb d_M_does_321 rfl (lv_at hl 0 rfl) ?_
                            refine lv_sipush (v := nI 304) hx hb d_M_does_322 (by decide) ?_
                            refine lv_aload_n hx hb d_M_does_325 rfl (lv_at hl 0 rfl) ?_
                            refine va_get (D := E.1) (ci := 8) (v := .int (nI gas)) (C := "WideStackModel") (T := T_M) (N := 15) hx hb hts in_M hown hK hP 0 rfl rfl 4 (by decide) (hts _ t_751) (fun _ h9 => h9) rfl d_M_does_326 ?_
                            have hnv : gas < 2147483648 := (by omega)
                            refine k_Vv (As := [.int (nI 304), .int (nI gas)]) (rest := []) ⟨hx, hb, hml, hown, hts⟩ (c_M_number l E mo mb mm mw mh ml len en gas ctr siz hgt frm ret on ay g hg 304 gas (by decide) hnv) (k_cwV 2 hts t_942 t_944 t_52 t_71 t_945 (by decide +kernel) ⟨Nat.le_of_ble_eq_true rfl, Nat.le_of_ble_eq_true rfl⟩) hK hG hA hP hD hS [0, 3] rfl (by decide) 0 rfl rfl (fun _ => rfl) rfl hl.1 rfl (Nat.le_of_ble_eq_true rfl) d_M_does_329 ⟨Nat.zero_le _, Nat.zero_le _⟩ (fun u1 H locs hu1 hP hD hS => ?_)
                            have hP : va_P E.1 vwCl [(mo, .inr (8, [.int (nI len), .ref mb, .int (kb on), .int (nI en), .int (nI gas), .int (nI ctr), .int (nI siz), .int (nI hgt), .int (nI frm), .int (nI ret), .ref mm, .ref mw, .ref mh, .ref ml, .int (kb ay)])), (mb, .inl (E.2.1 0, 96, .inl (nF nb))), (mm, .inl (E.2.1 0, 160, .inl (nF mem))), (mw, .inl (E.2.1 0, 370, .inl (nF (nmb g 304 gas))))] H := hP
                            have hD : va_D A [(mo, .inr (8, [.int (nI len), .ref mb, .int (kb on), .int (nI en), .int (nI gas), .int (nI ctr), .int (nI siz), .int (nI hgt), .int (nI frm), .int (nI ret), .ref mm, .ref mw, .ref mh, .ref ml, .int (kb ay)])), (mb, .inl (E.2.1 0, 96, .inl (nF nb))), (mm, .inl (E.2.1 0, 160, .inl (nF mem))), (mw, .inl (E.2.1 0, 370, .inl (nF (nmb g 304 gas))))] := hD
                            refine lv_goto (tgt := 350) hx hb d_M_does_332 (by decide) ?_
                            exact hret _ ls _ _ (nmb g 304 gas) d_M_does_350 (do_n hg (by omega) (mr_90 h318)) (by rw [← mm_81 (o := o) (A := gv g 256 16) (B := gv g 272 16) (by omega) (by omega)]; exact hP) hS
                        · refine lv_aload_n hx hb d_M_does_301 rfl (lv_at hl 0 rfl) ?_
                          refine lv_sipush (v := nI 304) hx hb d_M_does_302 (by decide) ?_
                          refine lv_aload_n hx hb d_M_does_305 rfl (lv_at hl 0 rfl) ?_
                          refine va_get (D := E.1) (ci := 8) (v := .int (nI siz)) (C := "WideStackModel") (T := T_M) (N := 15) hx hb hts in_M hown hK hP 0 rfl rfl 6 (by decide) (hts _ t_753) (fun _ h9 => h9) rfl d_M_does_306 ?_
                          have hnv : siz < 2147483648 := (by omega)
                          refine k_Vv (As := [.int (nI 304), .int (nI siz)]) (rest := []) ⟨hx, hb, hml, hown, hts⟩ (c_M_number l E mo mb mm mw mh ml len en gas ctr siz hgt frm ret on ay g hg 304 siz (by decide) hnv) (k_cwV 2 hts t_942 t_944 t_52 t_71 t_945 (by decide +kernel) ⟨Nat.le_of_ble_eq_true rfl, Nat.le_of_ble_eq_true rfl⟩) hK hG hA hP hD hS [0, 3] rfl (by decide) 0 rfl rfl (fun _ => rfl) rfl hl.1 rfl (Nat.le_of_ble_eq_true rfl) d_M_does_309 ⟨Nat.zero_le _, Nat.zero_le _⟩ (fun u1 H locs hu1 hP hD hS => ?_)
                          have hP : va_P E.1 vwCl [(mo, .inr (8, [.int (nI len), .ref mb, .int (kb on), .int (nI en), .int (nI gas), .int (nI ctr), .int (nI siz), .int (nI hgt), .int (nI frm), .int (nI ret), .ref mm, .ref mw, .ref mh, .ref ml, .int (kb ay)])), (mb, .inl (E.2.1 0, 96, .inl (nF nb))), (mm, .inl (E.2.1 0, 160, .inl (nF mem))), (mw, .inl (E.2.1 0, 370, .inl (nF (nmb g 304 siz))))] H := hP
                          have hD : va_D A [(mo, .inr (8, [.int (nI len), .ref mb, .int (kb on), .int (nI en), .int (nI gas), .int (nI ctr), .int (nI siz), .int (nI hgt), .int (nI frm), .int (nI ret), .ref mm, .ref mw, .ref mh, .ref ml, .int (kb ay)])), (mb, .inl (E.2.1 0, 96, .inl (nF nb))), (mm, .inl (E.2.1 0, 160, .inl (nF mem))), (mw, .inl (E.2.1 0, 370, .inl (nF (nmb g 304 siz))))] := hD
                          refine lv_goto (tgt := 350) hx hb d_M_does_312 (by decide) ?_
                          exact hret _ ls _ _ (nmb g 304 siz) d_M_does_350 (do_n hg (by omega) (mr_89 h298)) (by rw [← mm_81 (o := o) (A := gv g 256 16) (B := gv g 272 16) (by omega) (by omega)]; exact hP) hS
                      · refine lv_aload_n hx hb d_M_does_281 rfl (lv_at hl 0 rfl) ?_
                        refine lv_sipush (v := nI 304) hx hb d_M_does_282 (by decide) ?_
                        refine lv_aload_n hx hb d_M_does_285 rfl (lv_at hl 0 rfl) ?_
                        refine va_get (D := E.1) (ci := 8) (v := .int (nI ctr)) (C := "WideStackModel") (T := T_M) (N := 15) hx hb hts in_M hown hK hP 0 rfl rfl 5 (by decide) (hts _ t_752) (fun _ h9 => h9) rfl d_M_does_286 ?_
                        have hnv : ctr < 2147483648 := (by omega)
                        refine k_Vv (As := [.int (nI 304), .int (nI ctr)]) (rest := []) ⟨hx, hb, hml, hown, hts⟩ (c_M_number l E mo mb mm mw mh ml len en gas ctr siz hgt frm ret on ay g hg 304 ctr (by decide) hnv) (k_cwV 2 hts t_942 t_944 t_52 t_71 t_945 (by decide +kernel) ⟨Nat.le_of_ble_eq_true rfl, Nat.le_of_ble_eq_true rfl⟩) hK hG hA hP hD hS [0, 3] rfl (by decide) 0 rfl rfl (fun _ => rfl) rfl hl.1 rfl (Nat.le_of_ble_eq_true rfl) d_M_does_289 ⟨Nat.zero_le _, Nat.zero_le _⟩ (fun u1 H locs hu1 hP hD hS => ?_)
                        have hP : va_P E.1 vwCl [(mo, .inr (8, [.int (nI len), .ref mb, .int (kb on), .int (nI en), .int (nI gas), .int (nI ctr), .int (nI siz), .int (nI hgt), .int (nI frm), .int (nI ret), .ref mm, .ref mw, .ref mh, .ref ml, .int (kb ay)])), (mb, .inl (E.2.1 0, 96, .inl (nF nb))), (mm, .inl (E.2.1 0, 160, .inl (nF mem))), (mw, .inl (E.2.1 0, 370, .inl (nF (nmb g 304 ctr))))] H := hP
                        have hD : va_D A [(mo, .inr (8, [.int (nI len), .ref mb, .int (kb on), .int (nI en), .int (nI gas), .int (nI ctr), .int (nI siz), .int (nI hgt), .int (nI frm), .int (nI ret), .ref mm, .ref mw, .ref mh, .ref ml, .int (kb ay)])), (mb, .inl (E.2.1 0, 96, .inl (nF nb))), (mm, .inl (E.2.1 0, 160, .inl (nF mem))), (mw, .inl (E.2.1 0, 370, .inl (nF (nmb g 304 ctr))))] := hD
                        refine lv_goto (tgt := 350) hx hb d_M_does_292 (by decide) ?_
                        exact hret _ ls _ _ (nmb g 304 ctr) d_M_does_350 (do_n hg (by omega) (mr_88 h278)) (by rw [← mm_81 (o := o) (A := gv g 256 16) (B := gv g 272 16) (by omega) (by omega)]; exact hP) hS
                    · refine lv_aload_n hx hb d_M_does_267 rfl (lv_at hl 0 rfl) ?_
                      refine lv_iload_n hx hb d_M_does_268 rfl (lv_at hl 1 rfl) ?_
                      refine k_Vv (As := [.int (nI o)]) (rest := []) ⟨hx, hb, hml, hown, hts⟩ (c_M_remembers l E mo mb mm mw mh ml len en gas ctr siz hgt frm ret on ay g hg mem hm o (by omega) hu0) (k_cwV 1 hts t_958 t_960 t_56 t_71 t_961 (by decide +kernel) ⟨Nat.le_of_ble_eq_true rfl, Nat.le_of_ble_eq_true rfl⟩) hK hG hA hP hD hS [0, 2, 3] rfl (by decide) 0 rfl rfl (fun _ => rfl) rfl hl.1 rfl (Nat.le_of_ble_eq_true rfl) d_M_does_269 ⟨Nat.zero_le _, Nat.zero_le _⟩ (fun u1 H locs hu1 hP hD hS => ?_)
                      have hP : va_P E.1 vwCl [(mo, .inr (8, [.int (nI len), .ref mb, .int (kb on), .int (nI en), .int (nI gas), .int (nI ctr), .int (nI siz), .int (nI hgt), .int (nI frm), .int (nI ret), .ref mm, .ref mw, .ref mh, .ref ml, .int (kb ay)])), (mb, .inl (E.2.1 0, 96, .inl (nF nb))), (mm, .inl (E.2.1 0, 160, .inl (nF (m_mem o (gv g 256 16) (gv g 272 16) mem)))), (mw, .inl (E.2.1 0, 370, .inl (nF u1)))] H := hP
                      have hD : va_D A [(mo, .inr (8, [.int (nI len), .ref mb, .int (kb on), .int (nI en), .int (nI gas), .int (nI ctr), .int (nI siz), .int (nI hgt), .int (nI frm), .int (nI ret), .ref mm, .ref mw, .ref mh, .ref ml, .int (kb ay)])), (mb, .inl (E.2.1 0, 96, .inl (nF nb))), (mm, .inl (E.2.1 0, 160, .inl (nF (m_mem o (gv g 256 16) (gv g 272 16) mem)))), (mw, .inl (E.2.1 0, 370, .inl (nF u1)))] := hD
                      refine lv_goto (tgt := 350) hx hb d_M_does_272 (by decide) ?_
                      exact hret _ ls _ _ (u1) d_M_does_350 (do_f (fun q => by by_cases q1 : o = 81; exact (hu1.1 q1).trans (mr_81 q1); exact absurd q (fun q => mg_83 (by omega) q)) hu1.2.1 hu1.2.2) hP hS
                · refine lv_aload_n hx hb d_M_does_207 rfl (lv_at hl 0 rfl) ?_
                  refine lv_aload_n hx hb d_M_does_208 rfl (lv_at hl 0 rfl) ?_
                  refine lv_sipush (v := nI 256) hx hb d_M_does_209 (by decide) ?_
                  refine k_Vp (As := [.int (nI 256)]) (rest := [.ref mo]) ⟨hx, hb, hml, hown, hts⟩ (c_M_small l E mo mb mm mw mh ml len en gas ctr siz hgt frm ret on ay g hg 256 (by decide)) (k_cwV 1 hts t_857 t_859 t_32 t_71 t_860 (by decide +kernel) ⟨Nat.le_of_ble_eq_true rfl, Nat.le_of_ble_eq_true rfl⟩) hK hG hA hP hD hS [0, 3] rfl (by decide) 0 rfl rfl rfl hl.1 rfl (Nat.le_of_ble_eq_true rfl) d_M_does_212 ⟨Nat.zero_le _, Nat.zero_le _⟩ (fun r212 hu212 => ?_)
                  subst hu212
                  refine lv_sipush (v := nI 255) hx hb d_M_does_215 (by decide) ?_
                  refine kn_le (tgt := 227) hx hb (by omega) (by omega) d_M_does_218 (by decide) (fun h218 => ?_) (fun h218 => ?_)
                  · refine lv_aload_n hx hb d_M_does_227 rfl (lv_at hl 0 rfl) ?_
                    refine lv_sipush (v := nI 256) hx hb d_M_does_228 (by decide) ?_
                    refine k_Vp (As := [.int (nI 256)]) (rest := [.ref mo]) ⟨hx, hb, hml, hown, hts⟩ (c_M_small l E mo mb mm mw mh ml len en gas ctr siz hgt frm ret on ay g hg 256 (by decide)) (k_cwV 1 hts t_857 t_859 t_32 t_71 t_860 (by decide +kernel) ⟨Nat.le_of_ble_eq_true rfl, Nat.le_of_ble_eq_true rfl⟩) hK hG hA hP hD hS [0, 3] rfl (by decide) 0 rfl rfl rfl hl.1 rfl (Nat.le_of_ble_eq_true rfl) d_M_does_231 ⟨Nat.zero_le _, Nat.zero_le _⟩ (fun r231 hu231 => ?_)
                    subst hu231
                    refine lv_aload_n hx hb d_M_does_234 rfl (lv_at hl 0 rfl) ?_
                    refine lv_sipush (v := nI 272) hx hb d_M_does_235 (by decide) ?_
                    refine k_Vp (As := [.int (nI 272)]) (rest := [.int (nI (min (gv g 256 16) 65535)), .ref mo]) ⟨hx, hb, hml, hown, hts⟩ (c_M_isNegative l E mo mb mm mw mh ml len en gas ctr siz hgt frm ret on ay g hg 272 (by decide)) (k_cwV 1 hts t_922 t_924 t_47 t_71 t_925 (by decide +kernel) ⟨Nat.le_of_ble_eq_true rfl, Nat.le_of_ble_eq_true rfl⟩) hK hG hA hP hD hS [0, 3] rfl (by decide) 0 rfl rfl rfl hl.1 rfl (Nat.le_of_ble_eq_true rfl) d_M_does_238 ⟨Nat.zero_le _, Nat.zero_le _⟩ (fun r238 hu238 => ?_)
                    subst hu238
                    refine lv_if_eq (tgt := 248) hx hb d_M_does_241 (by decide) (fun h241 => ?_) (fun h241 => ?_)
                    · refine lv_iconst (v := nI 0) hx hb d_M_does_248 (by decide) ?_
                      refine k_Vv (As := [.int (nI (min (gv g 256 16) 65535)), .int (nI 0)]) (rest := []) ⟨hx, hb, hml, hown, hts⟩ (c_M_shiftDown l E mo mb mm mw mh ml len en gas ctr siz hgt frm ret on ay g hg (min (gv g 256 16) 65535) 0 (by omega) (by decide)) (k_cwV 2 hts t_954 t_956 t_55 t_71 t_957 (by decide +kernel) ⟨Nat.le_of_ble_eq_true rfl, Nat.le_of_ble_eq_true rfl⟩) hK hG hA hP hD hS [0, 3] rfl (by decide) 0 rfl rfl (fun _ => rfl) rfl hl.1 rfl (Nat.le_of_ble_eq_true rfl) d_M_does_249 ⟨Nat.zero_le _, Nat.zero_le _⟩ (fun u1 H locs hu1 hP hD hS => ?_)
                      have hP : va_P E.1 vwCl [(mo, .inr (8, [.int (nI len), .ref mb, .int (kb on), .int (nI en), .int (nI gas), .int (nI ctr), .int (nI siz), .int (nI hgt), .int (nI frm), .int (nI ret), .ref mm, .ref mw, .ref mh, .ref ml, .int (kb ay)])), (mb, .inl (E.2.1 0, 96, .inl (nF nb))), (mm, .inl (E.2.1 0, 160, .inl (nF mem))), (mw, .inl (E.2.1 0, 370, .inl (nF u1)))] H := hP
                      have hD : va_D A [(mo, .inr (8, [.int (nI len), .ref mb, .int (kb on), .int (nI en), .int (nI gas), .int (nI ctr), .int (nI siz), .int (nI hgt), .int (nI frm), .int (nI ret), .ref mm, .ref mw, .ref mh, .ref ml, .int (kb ay)])), (mb, .inl (E.2.1 0, 96, .inl (nF nb))), (mm, .inl (E.2.1 0, 160, .inl (nF mem))), (mw, .inl (E.2.1 0, 370, .inl (nF u1)))] := hD
                      refine lv_goto (tgt := 350) hx hb d_M_does_252 (by decide) ?_
                      exact hret _ ls _ _ (u1) d_M_does_350 (do_f (fun _ => (by rw [h204, mo_29]; exact sh_sar0 (gv_lt16 hg 272) (kb_0.mp h241) hu1 (by first | exact Or.inl (min_s h218) | exact Or.inr (min_b h218)) : gv u1 304 16 = m_op o (gv g 256 16) (gv g 272 16) (gv g 288 16)).trans (mr_op (by omega))) hu1.1 hu1.2.1) (by rw [← mm_81 (o := o) (A := gv g 256 16) (B := gv g 272 16) (by omega) (by omega)]; exact hP) hS
                    · refine lv_iconst (v := nI 1) hx hb d_M_does_244 (by decide) ?_
                      refine lv_goto (tgt := 249) hx hb d_M_does_245 (by decide) ?_
                      refine k_Vv (As := [.int (nI (min (gv g 256 16) 65535)), .int (nI 1)]) (rest := []) ⟨hx, hb, hml, hown, hts⟩ (c_M_shiftDown l E mo mb mm mw mh ml len en gas ctr siz hgt frm ret on ay g hg (min (gv g 256 16) 65535) 1 (by omega) (by decide)) (k_cwV 2 hts t_954 t_956 t_55 t_71 t_957 (by decide +kernel) ⟨Nat.le_of_ble_eq_true rfl, Nat.le_of_ble_eq_true rfl⟩) hK hG hA hP hD hS [0, 3] rfl (by decide) 0 rfl rfl (fun _ => rfl) rfl hl.1 rfl (Nat.le_of_ble_eq_true rfl) d_M_does_249 ⟨Nat.zero_le _, Nat.zero_le _⟩ (fun u1 H locs hu1 hP hD hS => ?_)
                      have hP : va_P E.1 vwCl [(mo, .inr (8, [.int (nI len), .ref mb, .int (kb on), .int (nI en), .int (nI gas), .int (nI ctr), .int (nI siz), .int (nI hgt), .int (nI frm), .int (nI ret), .ref mm, .ref mw, .ref mh, .ref ml, .int (kb ay)])), (mb, .inl (E.2.1 0, 96, .inl (nF nb))), (mm, .inl (E.2.1 0, 160, .inl (nF mem))), (mw, .inl (E.2.1 0, 370, .inl (nF u1)))] H := hP
                      have hD : va_D A [(mo, .inr (8, [.int (nI len), .ref mb, .int (kb on), .int (nI en), .int (nI gas), .int (nI ctr), .int (nI siz), .int (nI hgt), .int (nI frm), .int (nI ret), .ref mm, .ref mw, .ref mh, .ref ml, .int (kb ay)])), (mb, .inl (E.2.1 0, 96, .inl (nF nb))), (mm, .inl (E.2.1 0, 160, .inl (nF mem))), (mw, .inl (E.2.1 0, 370, .inl (nF u1)))] := hD
                      refine lv_goto (tgt := 350) hx hb d_M_does_252 (by decide) ?_
                      exact hret _ ls _ _ (u1) d_M_does_350 (do_f (fun _ => (by rw [h204, mo_29]; exact sh_sar1 (gv_lt16 hg 272) (kb_n0 h241) hu1 (by first | exact Or.inl (min_s h218) | exact Or.inr (min_b h218)) : gv u1 304 16 = m_op o (gv g 256 16) (gv g 272 16) (gv g 288 16)).trans (mr_op (by omega))) hu1.1 hu1.2.1) (by rw [← mm_81 (o := o) (A := gv g 256 16) (B := gv g 272 16) (by omega) (by omega)]; exact hP) hS
                  · refine lv_sipush (v := nI 256) hx hb d_M_does_221 (by decide) ?_
                    refine lv_goto (tgt := 234) hx hb d_M_does_224 (by decide) ?_
                    refine lv_aload_n hx hb d_M_does_234 rfl (lv_at hl 0 rfl) ?_
                    refine lv_sipush (v := nI 272) hx hb d_M_does_235 (by decide) ?_
                    refine k_Vp (As := [.int (nI 272)]) (rest := [.int (nI 256), .ref mo]) ⟨hx, hb, hml, hown, hts⟩ (c_M_isNegative l E mo mb mm mw mh ml len en gas ctr siz hgt frm ret on ay g hg 272 (by decide)) (k_cwV 1 hts t_922 t_924 t_47 t_71 t_925 (by decide +kernel) ⟨Nat.le_of_ble_eq_true rfl, Nat.le_of_ble_eq_true rfl⟩) hK hG hA hP hD hS [0, 3] rfl (by decide) 0 rfl rfl rfl hl.1 rfl (Nat.le_of_ble_eq_true rfl) d_M_does_238 ⟨Nat.zero_le _, Nat.zero_le _⟩ (fun r238 hu238 => ?_)
                    subst hu238
                    refine lv_if_eq (tgt := 248) hx hb d_M_does_241 (by decide) (fun h241 => ?_) (fun h241 => ?_)
                    · refine lv_iconst (v := nI 0) hx hb d_M_does_248 (by decide) ?_
                      refine k_Vv (As := [.int (nI 256), .int (nI 0)]) (rest := []) ⟨hx, hb, hml, hown, hts⟩ (c_M_shiftDown l E mo mb mm mw mh ml len en gas ctr siz hgt frm ret on ay g hg 256 0 (by omega) (by decide)) (k_cwV 2 hts t_954 t_956 t_55 t_71 t_957 (by decide +kernel) ⟨Nat.le_of_ble_eq_true rfl, Nat.le_of_ble_eq_true rfl⟩) hK hG hA hP hD hS [0, 3] rfl (by decide) 0 rfl rfl (fun _ => rfl) rfl hl.1 rfl (Nat.le_of_ble_eq_true rfl) d_M_does_249 ⟨Nat.zero_le _, Nat.zero_le _⟩ (fun u1 H locs hu1 hP hD hS => ?_)
                      have hP : va_P E.1 vwCl [(mo, .inr (8, [.int (nI len), .ref mb, .int (kb on), .int (nI en), .int (nI gas), .int (nI ctr), .int (nI siz), .int (nI hgt), .int (nI frm), .int (nI ret), .ref mm, .ref mw, .ref mh, .ref ml, .int (kb ay)])), (mb, .inl (E.2.1 0, 96, .inl (nF nb))), (mm, .inl (E.2.1 0, 160, .inl (nF mem))), (mw, .inl (E.2.1 0, 370, .inl (nF u1)))] H := hP
                      have hD : va_D A [(mo, .inr (8, [.int (nI len), .ref mb, .int (kb on), .int (nI en), .int (nI gas), .int (nI ctr), .int (nI siz), .int (nI hgt), .int (nI frm), .int (nI ret), .ref mm, .ref mw, .ref mh, .ref ml, .int (kb ay)])), (mb, .inl (E.2.1 0, 96, .inl (nF nb))), (mm, .inl (E.2.1 0, 160, .inl (nF mem))), (mw, .inl (E.2.1 0, 370, .inl (nF u1)))] := hD
                      refine lv_goto (tgt := 350) hx hb d_M_does_252 (by decide) ?_
                      exact hret _ ls _ _ (u1) d_M_does_350 (do_f (fun _ => (by rw [h204, mo_29]; exact sh_sar0 (gv_lt16 hg 272) (kb_0.mp h241) hu1 (by first | exact Or.inl (min_s h218) | exact Or.inr (min_b h218)) : gv u1 304 16 = m_op o (gv g 256 16) (gv g 272 16) (gv g 288 16)).trans (mr_op (by omega))) hu1.1 hu1.2.1) (by rw [← mm_81 (o := o) (A := gv g 256 16) (B := gv g 272 16) (by omega) (by omega)]; exact hP) hS
                    · refine lv_iconst (v := nI 1) hx hb d_M_does_244 (by decide) ?_
                      refine lv_goto (tgt := 249) hx hb d_M_does_245 (by decide) ?_
                      refine k_Vv (As := [.int (nI 256), .int (nI 1)]) (rest := []) ⟨hx, hb, hml, hown, hts⟩ (c_M_shiftDown l E mo mb mm mw mh ml len en gas ctr siz hgt frm ret on ay g hg 256 1 (by omega) (by decide)) (k_cwV 2 hts t_954 t_956 t_55 t_71 t_957 (by decide +kernel) ⟨Nat.le_of_ble_eq_true rfl, Nat.le_of_ble_eq_true rfl⟩) hK hG hA hP hD hS [0, 3] rfl (by decide) 0 rfl rfl (fun _ => rfl) rfl hl.1 rfl (Nat.le_of_ble_eq_true rfl) d_M_does_249 ⟨Nat.zero_le _, Nat.zero_le _⟩ (fun u1 H locs hu1 hP hD hS => ?_)
                      have hP : va_P E.1 vwCl [(mo, .inr (8, [.int (nI len), .ref mb, .int (kb on), .int (nI en), .int (nI gas), .int (nI ctr), .int (nI siz), .int (nI hgt), .int (nI frm), .int (nI ret), .ref mm, .ref mw, .ref mh, .ref ml, .int (kb ay)])), (mb, .inl (E.2.1 0, 96, .inl (nF nb))), (mm, .inl (E.2.1 0, 160, .inl (nF mem))), (mw, .inl (E.2.1 0, 370, .inl (nF u1)))] H := hP
                      have hD : va_D A [(mo, .inr (8, [.int (nI len), .ref mb, .int (kb on), .int (nI en), .int (nI gas), .int (nI ctr), .int (nI siz), .int (nI hgt), .int (nI frm), .int (nI ret), .ref mm, .ref mw, .ref mh, .ref ml, .int (kb ay)])), (mb, .inl (E.2.1 0, 96, .inl (nF nb))), (mm, .inl (E.2.1 0, 160, .inl (nF mem))), (mw, .inl (E.2.1 0, 370, .inl (nF u1)))] := hD
                      refine lv_goto (tgt := 350) hx hb d_M_does_252 (by decide) ?_
                      exact hret _ ls _ _ (u1) d_M_does_350 (do_f (fun _ => (by rw [h204, mo_29]; exact sh_sar1 (gv_lt16 hg 272) (kb_n0 h241) hu1 (by first | exact Or.inl (min_s h218) | exact Or.inr (min_b h218)) : gv u1 304 16 = m_op o (gv g 256 16) (gv g 272 16) (gv g 288 16)).trans (mr_op (by omega))) hu1.1 hu1.2.1) (by rw [← mm_81 (o := o) (A := gv g 256 16) (B := gv g 272 16) (by omega) (by omega)]; exact hP) hS
              · refine lv_aload_n hx hb d_M_does_167 rfl (lv_at hl 0 rfl) ?_
                refine lv_aload_n hx hb d_M_does_168 rfl (lv_at hl 0 rfl) ?_
                refine lv_sipush (v := nI 256) hx hb d_M_does_169 (by decide) ?_
                refine k_Vp (As := [.int (nI 256)]) (rest := [.ref mo]) ⟨hx, hb, hml, hown, hts⟩ (c_M_small l E mo mb mm mw mh ml len en gas ctr siz hgt frm ret on ay g hg 256 (by decide)) (k_cwV 1 hts t_857 t_859 t_32 t_71 t_860 (by decide +kernel) ⟨Nat.le_of_ble_eq_true rfl, Nat.le_of_ble_eq_true rfl⟩) hK hG hA hP hD hS [0, 3] rfl (by decide) 0 rfl rfl rfl hl.1 rfl (Nat.le_of_ble_eq_true rfl) d_M_does_172 ⟨Nat.zero_le _, Nat.zero_le _⟩ (fun r172 hu172 => ?_)
                subst hu172
                refine lv_sipush (v := nI 255) hx hb d_M_does_175 (by decide) ?_
                refine kn_le (tgt := 187) hx hb (by omega) (by omega) d_M_does_178 (by decide) (fun h178 => ?_) (fun h178 => ?_)
                · refine lv_aload_n hx hb d_M_does_187 rfl (lv_at hl 0 rfl) ?_
                  refine lv_sipush (v := nI 256) hx hb d_M_does_188 (by decide) ?_
                  refine k_Vp (As := [.int (nI 256)]) (rest := [.ref mo]) ⟨hx, hb, hml, hown, hts⟩ (c_M_small l E mo mb mm mw mh ml len en gas ctr siz hgt frm ret on ay g hg 256 (by decide)) (k_cwV 1 hts t_857 t_859 t_32 t_71 t_860 (by decide +kernel) ⟨Nat.le_of_ble_eq_true rfl, Nat.le_of_ble_eq_true rfl⟩) hK hG hA hP hD hS [0, 3] rfl (by decide) 0 rfl rfl rfl hl.1 rfl (Nat.le_of_ble_eq_true rfl) d_M_does_191 ⟨Nat.zero_le _, Nat.zero_le _⟩ (fun r191 hu191 => ?_)
                  subst hu191
                  refine lv_iconst (v := nI 0) hx hb d_M_does_194 (by decide) ?_
                  refine k_Vv (As := [.int (nI (min (gv g 256 16) 65535)), .int (nI 0)]) (rest := []) ⟨hx, hb, hml, hown, hts⟩ (c_M_shiftDown l E mo mb mm mw mh ml len en gas ctr siz hgt frm ret on ay g hg (min (gv g 256 16) 65535) 0 (by omega) (by decide)) (k_cwV 2 hts t_954 t_956 t_55 t_71 t_957 (by decide +kernel) ⟨Nat.le_of_ble_eq_true rfl, Nat.le_of_ble_eq_true rfl⟩) hK hG hA hP hD hS [0, 3] rfl (by decide) 0 rfl rfl (fun _ => rfl) rfl hl.1 rfl (Nat.le_of_ble_eq_true rfl) d_M_does_195 ⟨Nat.zero_le _, Nat.zero_le _⟩ (fun u1 H locs hu1 hP hD hS => ?_)
                  have hP : va_P E.1 vwCl [(mo, .inr (8, [.int (nI len), .ref mb, .int (kb on), .int (nI en), .int (nI gas), .int (nI ctr), .int (nI siz), .int (nI hgt), .int (nI frm), .int (nI ret), .ref mm, .ref mw, .ref mh, .ref ml, .int (kb ay)])), (mb, .inl (E.2.1 0, 96, .inl (nF nb))), (mm, .inl (E.2.1 0, 160, .inl (nF mem))), (mw, .inl (E.2.1 0, 370, .inl (nF u1)))] H := hP
                  have hD : va_D A [(mo, .inr (8, [.int (nI len), .ref mb, .int (kb on), .int (nI en), .int (nI gas), .int (nI ctr), .int (nI siz), .int (nI hgt), .int (nI frm), .int (nI ret), .ref mm, .ref mw, .ref mh, .ref ml, .int (kb ay)])), (mb, .inl (E.2.1 0, 96, .inl (nF nb))), (mm, .inl (E.2.1 0, 160, .inl (nF mem))), (mw, .inl (E.2.1 0, 370, .inl (nF u1)))] := hD
                  refine lv_goto (tgt := 350) hx hb d_M_does_198 (by decide) ?_
                  exact hret _ ls _ _ (u1) d_M_does_350 (do_f (fun _ => (by rw [h164, mo_28]; exact sh_shr (gv_lt16 hg 272) hu1 (by first | exact Or.inl (min_s h178) | exact Or.inr (min_b h178)) : gv u1 304 16 = m_op o (gv g 256 16) (gv g 272 16) (gv g 288 16)).trans (mr_op (by omega))) hu1.1 hu1.2.1) (by rw [← mm_81 (o := o) (A := gv g 256 16) (B := gv g 272 16) (by omega) (by omega)]; exact hP) hS
                · refine lv_sipush (v := nI 256) hx hb d_M_does_181 (by decide) ?_
                  refine lv_goto (tgt := 194) hx hb d_M_does_184 (by decide) ?_
                  refine lv_iconst (v := nI 0) hx hb d_M_does_194 (by decide) ?_
                  refine k_Vv (As := [.int (nI 256), .int (nI 0)]) (rest := []) ⟨hx, hb, hml, hown, hts⟩ (c_M_shiftDown l E mo mb mm mw mh ml len en gas ctr siz hgt frm ret on ay g hg 256 0 (by omega) (by decide)) (k_cwV 2 hts t_954 t_956 t_55 t_71 t_957 (by decide +kernel) ⟨Nat.le_of_ble_eq_true rfl, Nat.le_of_ble_eq_true rfl⟩) hK hG hA hP hD hS [0, 3] rfl (by decide) 0 rfl rfl (fun _ => rfl) rfl hl.1 rfl (Nat.le_of_ble_eq_true rfl) d_M_does_195 ⟨Nat.zero_le _, Nat.zero_le _⟩ (fun u1 H locs hu1 hP hD hS => ?_)
                  have hP : va_P E.1 vwCl [(mo, .inr (8, [.int (nI len), .ref mb, .int (kb on), .int (nI en), .int (nI gas), .int (nI ctr), .int (nI siz), .int (nI hgt), .int (nI frm), .int (nI ret), .ref mm, .ref mw, .ref mh, .ref ml, .int (kb ay)])), (mb, .inl (E.2.1 0, 96, .inl (nF nb))), (mm, .inl (E.2.1 0, 160, .inl (nF mem))), (mw, .inl (E.2.1 0, 370, .inl (nF u1)))] H := hP
                  have hD : va_D A [(mo, .inr (8, [.int (nI len), .ref mb, .int (kb on), .int (nI en), .int (nI gas), .int (nI ctr), .int (nI siz), .int (nI hgt), .int (nI frm), .int (nI ret), .ref mm, .ref mw, .ref mh, .ref ml, .int (kb ay)])), (mb, .inl (E.2.1 0, 96, .inl (nF nb))), (mm, .inl (E.2.1 0, 160, .inl (nF mem))), (mw, .inl (E.2.1 0, 370, .inl (nF u1)))] := hD
                  refine lv_goto (tgt := 350) hx hb d_M_does_198 (by decide) ?_
                  exact hret _ ls _ _ (u1) d_M_does_350 (do_f (fun _ => (by rw [h164, mo_28]; exact sh_shr (gv_lt16 hg 272) hu1 (by first | exact Or.inl (min_s h178) | exact Or.inr (min_b h178)) : gv u1 304 16 = m_op o (gv g 256 16) (gv g 272 16) (gv g 288 16)).trans (mr_op (by omega))) hu1.1 hu1.2.1) (by rw [← mm_81 (o := o) (A := gv g 256 16) (B := gv g 272 16) (by omega) (by omega)]; exact hP) hS
            · refine lv_aload_n hx hb d_M_does_126 rfl (lv_at hl 0 rfl) ?_
              refine lv_aload_n hx hb d_M_does_127 rfl (lv_at hl 0 rfl) ?_
              refine lv_sipush (v := nI 256) hx hb d_M_does_128 (by decide) ?_
              refine k_Vp (As := [.int (nI 256)]) (rest := [.ref mo]) ⟨hx, hb, hml, hown, hts⟩ (c_M_small l E mo mb mm mw mh ml len en gas ctr siz hgt frm ret on ay g hg 256 (by decide)) (k_cwV 1 hts t_857 t_859 t_32 t_71 t_860 (by decide +kernel) ⟨Nat.le_of_ble_eq_true rfl, Nat.le_of_ble_eq_true rfl⟩) hK hG hA hP hD hS [0, 3] rfl (by decide) 0 rfl rfl rfl hl.1 rfl (Nat.le_of_ble_eq_true rfl) d_M_does_131 ⟨Nat.zero_le _, Nat.zero_le _⟩ (fun r131 hu131 => ?_)
              subst hu131
              refine lv_sipush (v := nI 255) hx hb d_M_does_134 (by decide) ?_
              refine kn_le (tgt := 146) hx hb (by omega) (by omega) d_M_does_137 (by decide) (fun h137 => ?_) (fun h137 => ?_)
              · refine lv_aload_n hx hb d_M_does_146 rfl (lv_at hl 0 rfl) ?_
                refine lv_sipush (v := nI 256) hx hb d_M_does_147 (by decide) ?_
                refine k_Vp (As := [.int (nI 256)]) (rest := [.ref mo]) ⟨hx, hb, hml, hown, hts⟩ (c_M_small l E mo mb mm mw mh ml len en gas ctr siz hgt frm ret on ay g hg 256 (by decide)) (k_cwV 1 hts t_857 t_859 t_32 t_71 t_860 (by decide +kernel) ⟨Nat.le_of_ble_eq_true rfl, Nat.le_of_ble_eq_true rfl⟩) hK hG hA hP hD hS [0, 3] rfl (by decide) 0 rfl rfl rfl hl.1 rfl (Nat.le_of_ble_eq_true rfl) d_M_does_150 ⟨Nat.zero_le _, Nat.zero_le _⟩ (fun r150 hu150 => ?_)
                subst hu150
                refine lv_ineg hx hb d_M_does_153 ?_
                refine lv_iconst (v := nI 0) hx hb d_M_does_154 (by decide) ?_
                refine k_Vv (As := [.int (-(nI (min (gv g 256 16) 65535))), .int (nI 0)]) (rest := []) ⟨hx, hb, hml, hown, hts⟩ (c_M_shiftUp l E mo mb mm mw mh ml len en gas ctr siz hgt frm ret on ay g hg (min (gv g 256 16) 65535) 0 (by omega) (by decide)) (k_cwV 2 hts t_954 t_956 t_55 t_71 t_957 (by decide +kernel) ⟨Nat.le_of_ble_eq_true rfl, Nat.le_of_ble_eq_true rfl⟩) hK hG hA hP hD hS [0, 3] rfl (by decide) 0 rfl rfl (fun _ => rfl) rfl hl.1 rfl (Nat.le_of_ble_eq_true rfl) d_M_does_155 ⟨Nat.zero_le _, Nat.zero_le _⟩ (fun u1 H locs hu1 hP hD hS => ?_)
                have hP : va_P E.1 vwCl [(mo, .inr (8, [.int (nI len), .ref mb, .int (kb on), .int (nI en), .int (nI gas), .int (nI ctr), .int (nI siz), .int (nI hgt), .int (nI frm), .int (nI ret), .ref mm, .ref mw, .ref mh, .ref ml, .int (kb ay)])), (mb, .inl (E.2.1 0, 96, .inl (nF nb))), (mm, .inl (E.2.1 0, 160, .inl (nF mem))), (mw, .inl (E.2.1 0, 370, .inl (nF u1)))] H := hP
                have hD : va_D A [(mo, .inr (8, [.int (nI len), .ref mb, .int (kb on), .int (nI en), .int (nI gas), .int (nI ctr), .int (nI siz), .int (nI hgt), .int (nI frm), .int (nI ret), .ref mm, .ref mw, .ref mh, .ref ml, .int (kb ay)])), (mb, .inl (E.2.1 0, 96, .inl (nF nb))), (mm, .inl (E.2.1 0, 160, .inl (nF mem))), (mw, .inl (E.2.1 0, 370, .inl (nF u1)))] := hD
                refine lv_goto (tgt := 350) hx hb d_M_does_158 (by decide) ?_
                exact hret _ ls _ _ (u1) d_M_does_350 (do_f (fun _ => (by rw [h123, mo_27]; exact sh_shl hu1 (by first | exact Or.inl (min_s h137) | exact Or.inr (min_b h137)) : gv u1 304 16 = m_op o (gv g 256 16) (gv g 272 16) (gv g 288 16)).trans (mr_op (by omega))) hu1.1 hu1.2.1) (by rw [← mm_81 (o := o) (A := gv g 256 16) (B := gv g 272 16) (by omega) (by omega)]; exact hP) hS
              · refine lv_sipush (v := -256) hx hb d_M_does_140 (by decide) ?_
                refine k_top (y := -(nI 256)) (by decide) ?_
                refine lv_goto (tgt := 154) hx hb d_M_does_143 (by decide) ?_
                refine lv_iconst (v := nI 0) hx hb d_M_does_154 (by decide) ?_
                refine k_Vv (As := [.int (-(nI 256)), .int (nI 0)]) (rest := []) ⟨hx, hb, hml, hown, hts⟩ (c_M_shiftUp l E mo mb mm mw mh ml len en gas ctr siz hgt frm ret on ay g hg 256 0 (by omega) (by decide)) (k_cwV 2 hts t_954 t_956 t_55 t_71 t_957 (by decide +kernel) ⟨Nat.le_of_ble_eq_true rfl, Nat.le_of_ble_eq_true rfl⟩) hK hG hA hP hD hS [0, 3] rfl (by decide) 0 rfl rfl (fun _ => rfl) rfl hl.1 rfl (Nat.le_of_ble_eq_true rfl) d_M_does_155 ⟨Nat.zero_le _, Nat.zero_le _⟩ (fun u1 H locs hu1 hP hD hS => ?_)
                have hP : va_P E.1 vwCl [(mo, .inr (8, [.int (nI len), .ref mb, .int (kb on), .int (nI en), .int (nI gas), .int (nI ctr), .int (nI siz), .int (nI hgt), .int (nI frm), .int (nI ret), .ref mm, .ref mw, .ref mh, .ref ml, .int (kb ay)])), (mb, .inl (E.2.1 0, 96, .inl (nF nb))), (mm, .inl (E.2.1 0, 160, .inl (nF mem))), (mw, .inl (E.2.1 0, 370, .inl (nF u1)))] H := hP
                have hD : va_D A [(mo, .inr (8, [.int (nI len), .ref mb, .int (kb on), .int (nI en), .int (nI gas), .int (nI ctr), .int (nI siz), .int (nI hgt), .int (nI frm), .int (nI ret), .ref mm, .ref mw, .ref mh, .ref ml, .int (kb ay)])), (mb, .inl (E.2.1 0, 96, .inl (nF nb))), (mm, .inl (E.2.1 0, 160, .inl (nF mem))), (mw, .inl (E.2.1 0, 370, .inl (nF u1)))] := hD
                refine lv_goto (tgt := 350) hx hb d_M_does_158 (by decide) ?_
                exact hret _ ls _ _ (u1) d_M_does_350 (do_f (fun _ => (by rw [h123, mo_27]; exact sh_shl hu1 (by first | exact Or.inl (min_s h137) | exact Or.inr (min_b h137)) : gv u1 304 16 = m_op o (gv g 256 16) (gv g 272 16) (gv g 288 16)).trans (mr_op (by omega))) hu1.1 hu1.2.1) (by rw [← mm_81 (o := o) (A := gv g 256 16) (B := gv g 272 16) (by omega) (by omega)]; exact hP) hS
          · refine lv_aload_n hx hb d_M_does_80 rfl (lv_at hl 0 rfl) ?_
            refine lv_sipush (v := nI 304) hx hb d_M_does_81 (by decide) ?_
            refine lv_aload_n hx hb d_M_does_84 rfl (lv_at hl 0 rfl) ?_
            refine lv_sipush (v := nI 256) hx hb d_M_does_85 (by decide) ?_
            refine k_Vp (As := [.int (nI 256)]) (rest := [.int (nI 304), .ref mo]) ⟨hx, hb, hml, hown, hts⟩ (c_M_small l E mo mb mm mw mh ml len en gas ctr siz hgt frm ret on ay g hg 256 (by decide)) (k_cwV 1 hts t_857 t_859 t_32 t_71 t_860 (by decide +kernel) ⟨Nat.le_of_ble_eq_true rfl, Nat.le_of_ble_eq_true rfl⟩) hK hG hA hP hD hS [0, 3] rfl (by decide) 0 rfl rfl rfl hl.1 rfl (Nat.le_of_ble_eq_true rfl) d_M_does_88 ⟨Nat.zero_le _, Nat.zero_le _⟩ (fun r88 hu88 => ?_)
            subst hu88
            refine lv_bipush (v := nI 31) hx hb d_M_does_91 (by decide) ?_
            refine kn_le (tgt := 100) hx hb (by omega) (by omega) d_M_does_93 (by decide) (fun h93 => ?_) (fun h93 => ?_)
            · refine lv_aload_n hx hb d_M_does_100 rfl (lv_at hl 0 rfl) ?_
              refine lv_sipush (v := nI 272) hx hb d_M_does_101 (by decide) ?_
              refine lv_aload_n hx hb d_M_does_104 rfl (lv_at hl 0 rfl) ?_
              refine lv_sipush (v := nI 256) hx hb d_M_does_105 (by decide) ?_
              refine k_Vp (As := [.int (nI 256)]) (rest := [.int (nI 272), .ref mo, .int (nI 304), .ref mo]) ⟨hx, hb, hml, hown, hts⟩ (c_M_small l E mo mb mm mw mh ml len en gas ctr siz hgt frm ret on ay g hg 256 (by decide)) (k_cwV 1 hts t_857 t_859 t_32 t_71 t_860 (by decide +kernel) ⟨Nat.le_of_ble_eq_true rfl, Nat.le_of_ble_eq_true rfl⟩) hK hG hA hP hD hS [0, 3] rfl (by decide) 0 rfl rfl rfl hl.1 rfl (Nat.le_of_ble_eq_true rfl) d_M_does_108 ⟨Nat.zero_le _, Nat.zero_le _⟩ (fun r108 hu108 => ?_)
              subst hu108
              refine k_Vp (As := [.int (nI 272), .int (nI (min (gv g 256 16) 65535))]) (rest := [.int (nI 304), .ref mo]) ⟨hx, hb, hml, hown, hts⟩ (c_M_byteOf l E mo mb mm mw mh ml len en gas ctr siz hgt frm ret on ay g hg 272 (min (gv g 256 16) 65535) (by decide) (by omega)) (k_cwV 2 hts t_950 t_952 t_54 t_71 t_953 (by decide +kernel) ⟨Nat.le_of_ble_eq_true rfl, Nat.le_of_ble_eq_true rfl⟩) hK hG hA hP hD hS [0, 3] rfl (by decide) 0 rfl rfl rfl hl.1 rfl (Nat.le_of_ble_eq_true rfl) d_M_does_111 ⟨Nat.zero_le _, Nat.zero_le _⟩ (fun r111 hu111 => ?_)
              subst hu111
              have hnv : (m_byte (min (gv g 256 16) 65535) (gv g 272 16)) < 2147483648 := (Nat.lt_trans (byte_b _ _) (by decide))
              refine k_Vv (As := [.int (nI 304), .int (nI (m_byte (min (gv g 256 16) 65535) (gv g 272 16)))]) (rest := []) ⟨hx, hb, hml, hown, hts⟩ (c_M_number l E mo mb mm mw mh ml len en gas ctr siz hgt frm ret on ay g hg 304 (m_byte (min (gv g 256 16) 65535) (gv g 272 16)) (by decide) hnv) (k_cwV 2 hts t_942 t_944 t_52 t_71 t_945 (by decide +kernel) ⟨Nat.le_of_ble_eq_true rfl, Nat.le_of_ble_eq_true rfl⟩) hK hG hA hP hD hS [0, 3] rfl (by decide) 0 rfl rfl (fun _ => rfl) rfl hl.1 rfl (Nat.le_of_ble_eq_true rfl) d_M_does_114 ⟨Nat.zero_le _, Nat.zero_le _⟩ (fun u1 H locs hu1 hP hD hS => ?_)
              have hP : va_P E.1 vwCl [(mo, .inr (8, [.int (nI len), .ref mb, .int (kb on), .int (nI en), .int (nI gas), .int (nI ctr), .int (nI siz), .int (nI hgt), .int (nI frm), .int (nI ret), .ref mm, .ref mw, .ref mh, .ref ml, .int (kb ay)])), (mb, .inl (E.2.1 0, 96, .inl (nF nb))), (mm, .inl (E.2.1 0, 160, .inl (nF mem))), (mw, .inl (E.2.1 0, 370, .inl (nF (nmb g 304 (m_byte (min (gv g 256 16) 65535) (gv g 272 16))))))] H := hP
              have hD : va_D A [(mo, .inr (8, [.int (nI len), .ref mb, .int (kb on), .int (nI en), .int (nI gas), .int (nI ctr), .int (nI siz), .int (nI hgt), .int (nI frm), .int (nI ret), .ref mm, .ref mw, .ref mh, .ref ml, .int (kb ay)])), (mb, .inl (E.2.1 0, 96, .inl (nF nb))), (mm, .inl (E.2.1 0, 160, .inl (nF mem))), (mw, .inl (E.2.1 0, 370, .inl (nF (nmb g 304 (m_byte (min (gv g 256 16) 65535) (gv g 272 16))))))] := hD
              refine lv_goto (tgt := 350) hx hb d_M_does_117 (by decide) ?_
              exact hret _ ls _ _ (nmb g 304 (m_byte (min (gv g 256 16) 65535) (gv g 272 16))) d_M_does_350 (do_n hg (Nat.lt_trans hnv (by decide)) ((by rw [h77, mo_26]; first | exact byt_min h93 | exact byt_big h93 : m_byte (min (gv g 256 16) 65535) (gv g 272 16) = m_op o (gv g 256 16) (gv g 272 16) (gv g 288 16)).trans (mr_op (by omega)))) (by rw [← mm_81 (o := o) (A := gv g 256 16) (B := gv g 272 16) (by omega) (by omega)]; exact hP) hS
            · refine lv_iconst (v := nI 0) hx hb d_M_does_96 (by decide) ?_
              refine lv_goto (tgt := 114) hx hb d_M_does_97 (by decide) ?_
              have hnv : 0 < 2147483648 := (by omega)
              refine k_Vv (As := [.int (nI 304), .int (nI 0)]) (rest := []) ⟨hx, hb, hml, hown, hts⟩ (c_M_number l E mo mb mm mw mh ml len en gas ctr siz hgt frm ret on ay g hg 304 0 (by decide) hnv) (k_cwV 2 hts t_942 t_944 t_52 t_71 t_945 (by decide +kernel) ⟨Nat.le_of_ble_eq_true rfl, Nat.le_of_ble_eq_true rfl⟩) hK hG hA hP hD hS [0, 3] rfl (by decide) 0 rfl rfl (fun _ => rfl) rfl hl.1 rfl (Nat.le_of_ble_eq_true rfl) d_M_does_114 ⟨Nat.zero_le _, Nat.zero_le _⟩ (fun u1 H locs hu1 hP hD hS => ?_)
              have hP : va_P E.1 vwCl [(mo, .inr (8, [.int (nI len), .ref mb, .int (kb on), .int (nI en), .int (nI gas), .int (nI ctr), .int (nI siz), .int (nI hgt), .int (nI frm), .int (nI ret), .ref mm, .ref mw, .ref mh, .ref ml, .int (kb ay)])), (mb, .inl (E.2.1 0, 96, .inl (nF nb))), (mm, .inl (E.2.1 0, 160, .inl (nF mem))), (mw, .inl (E.2.1 0, 370, .inl (nF (nmb g 304 0))))] H := hP
              have hD : va_D A [(mo, .inr (8, [.int (nI len), .ref mb, .int (kb on), .int (nI en), .int (nI gas), .int (nI ctr), .int (nI siz), .int (nI hgt), .int (nI frm), .int (nI ret), .ref mm, .ref mw, .ref mh, .ref ml, .int (kb ay)])), (mb, .inl (E.2.1 0, 96, .inl (nF nb))), (mm, .inl (E.2.1 0, 160, .inl (nF mem))), (mw, .inl (E.2.1 0, 370, .inl (nF (nmb g 304 0))))] := hD
              refine lv_goto (tgt := 350) hx hb d_M_does_117 (by decide) ?_
              exact hret _ ls _ _ (nmb g 304 0) d_M_does_350 (do_n hg (Nat.lt_trans hnv (by decide)) ((by rw [h77, mo_26]; first | exact byt_min h93 | exact byt_big h93 : 0 = m_op o (gv g 256 16) (gv g 272 16) (gv g 288 16)).trans (mr_op (by omega)))) (by rw [← mm_81 (o := o) (A := gv g 256 16) (B := gv g 272 16) (by omega) (by omega)]; exact hP) hS
        · refine lv_iload_n hx hb d_M_does_60 rfl (lv_at hl 1 rfl) ?_
          refine lv_bipush (v := nI 25) hx hb d_M_does_61 (by decide) ?_
          refine kn_gt (tgt := 74) hx hb (by omega) (by omega) d_M_does_63 (by decide) (fun h63 => ?_) (fun h63 => ?_)
          · refine lv_iload_n hx hb d_M_does_74 rfl (lv_at hl 1 rfl) ?_
            refine lv_bipush (v := nI 26) hx hb d_M_does_75 (by decide) ?_
            refine kn_ne (tgt := 120) hx hb (by omega) (by omega) d_M_does_77 (by decide) (fun h77 => ?_) (fun h77 => ?_)
            · refine lv_iload_n hx hb d_M_does_120 rfl (lv_at hl 1 rfl) ?_
              refine lv_bipush (v := nI 27) hx hb d_M_does_121 (by decide) ?_
              refine kn_ne (tgt := 161) hx hb (by omega) (by omega) d_M_does_123 (by decide) (fun h123 => ?_) (fun h123 => ?_)
              · refine lv_iload_n hx hb d_M_does_161 rfl (lv_at hl 1 rfl) ?_
                refine lv_bipush (v := nI 28) hx hb d_M_does_162 (by decide) ?_
                refine kn_ne (tgt := 201) hx hb (by omega) (by omega) d_M_does_164 (by decide) (fun h164 => ?_) (fun h164 => ?_)
                · refine lv_iload_n hx hb d_M_does_201 rfl (lv_at hl 1 rfl) ?_
                  refine lv_bipush (v := nI 29) hx hb d_M_does_202 (by decide) ?_
                  refine kn_ne (tgt := 255) hx hb (by omega) (by omega) d_M_does_204 (by decide) (fun h204 => ?_) (fun h204 => ?_)
                  · refine lv_iload_n hx hb d_M_does_255 rfl (lv_at hl 1 rfl) ?_
                    refine lv_bipush (v := nI 81) hx hb d_M_does_256 (by decide) ?_
                    refine kn_lt (tgt := 275) hx hb (by omega) (by omega) d_M_does_258 (by decide) (fun h258 => ?_) (fun h258 => ?_)
                    · refine lv_iload_n hx hb d_M_does_275 rfl (lv_at hl 1 rfl) ?_
                      refine lv_bipush (v := nI 88) hx hb d_M_does_276 (by decide) ?_
                      refine kn_ne (tgt := 295) hx hb (by omega) (by omega) d_M_does_278 (by decide) (fun h278 => ?_) (fun h278 => ?_)
                      · refine lv_iload_n hx hb d_M_does_295 rfl (lv_at hl 1 rfl) ?_
                        refine lv_bipush (v := nI 89) hx hb d_M_does_296 (by decide) ?_
                        refine kn_ne (tgt := 315) hx hb (by omega) (by omega) d_M_does_298 (by decide) (fun h298 => ?_) (fun h298 => ?_)
                        · refine lv_iload_n hx hb d_M_does_315 rfl (lv_at hl 1 rfl) ?_
                          refine lv_bipush (v := nI 90) hx hb d_M_does_316 (by decide) ?_
                          refine kn_ne (tgt := 335) hx hb (by omega) (by omega) d_M_does_318 (by decide) (fun h318 => ?_) (fun h318 => ?_)
                          · refine lv_iload_n hx hb d_M_does_335 rfl (lv_at hl 1 rfl) ?_
                            refine k_Sp (As := [.int (nI o)]) (rest := []) ⟨hx, hb, hml, hown, hts⟩ (c_M_hasNumber l E o (by omega)) (k_cwS 1 hts t_816 t_817 t_71 t_818 (by decide +kernel) ⟨Nat.le_of_ble_eq_true rfl, Nat.le_of_ble_eq_true rfl⟩) hK hG hA hP hD hS [] rfl (by decide) rfl hl.1 rfl (Nat.le_of_ble_eq_true rfl) d_M_does_336 ⟨Nat.zero_le _, Nat.zero_le _⟩ (fun r336 hu336 => ?_)
                            subst hu336
                            refine lv_if_eq (tgt := 350) hx hb d_M_does_339 (by decide) (fun h339 => ?_) (fun h339 => ?_)
                            · have hq := of_decide_eq_false (kb_0.mp h339)
                              exact hret _ ls _ _ (g) d_M_does_350 (do_0 hg (mg_0 hk (by omega) (by omega) (by omega) (by omega))) (by rw [← mm_81 (o := o) (A := gv g 256 16) (B := gv g 272 16) (by omega) (by omega)]; exact hP) hS
                            · have hq := of_decide_eq_true (kb_n0 h339)
                              refine lv_aload_n hx hb d_M_does_342 rfl (lv_at hl 0 rfl) ?_
                              refine lv_iload_n hx hb d_M_does_343 rfl (lv_at hl 1 rfl) ?_
                              refine lv_bipush (v := nI 95) hx hb d_M_does_344 (by decide) ?_
                              refine lv_isub hx hb d_M_does_346 ?_
                              refine k_top (pk_sub (by omega)) ?_
                              refine k_Vv (As := [.int (nI (o - 95))]) (rest := []) ⟨hx, hb, hml, hown, hts⟩ (c_M_reads l E mo mb mm mw mh ml len en gas ctr siz hgt frm ret on ay g hg nb bb okb (o - 95) (by omega) hc) (k_cwV 1 hts t_962 t_964 t_57 t_71 t_965 (by decide +kernel) ⟨Nat.le_of_ble_eq_true rfl, Nat.le_of_ble_eq_true rfl⟩) hK hG hA hP hD hS [0, 1, 3] rfl (by decide) 0 rfl rfl (fun _ => rfl) rfl hl.1 rfl (Nat.le_of_ble_eq_true rfl) d_M_does_347 ⟨Nat.zero_le _, Nat.zero_le _⟩ (fun u1 H locs hu1 hP hD hS => ?_)
                              have hP : va_P E.1 vwCl [(mo, .inr (8, [.int (nI len), .ref mb, .int (kb on), .int (nI en), .int (nI gas), .int (nI ctr), .int (nI siz), .int (nI hgt), .int (nI frm), .int (nI ret), .ref mm, .ref mw, .ref mh, .ref ml, .int (kb ay)])), (mb, .inl (E.2.1 0, 96, .inl (nF nb))), (mm, .inl (E.2.1 0, 160, .inl (nF mem))), (mw, .inl (E.2.1 0, 370, .inl (nF u1)))] H := hP
                              have hD : va_D A [(mo, .inr (8, [.int (nI len), .ref mb, .int (kb on), .int (nI en), .int (nI gas), .int (nI ctr), .int (nI siz), .int (nI hgt), .int (nI frm), .int (nI ret), .ref mm, .ref mw, .ref mh, .ref ml, .int (kb ay)])), (mb, .inl (E.2.1 0, 96, .inl (nF nb))), (mm, .inl (E.2.1 0, 160, .inl (nF mem))), (mw, .inl (E.2.1 0, 370, .inl (nF u1)))] := hD
                              exact hret _ ls _ _ (u1) d_M_does_350 (do_f (fun _ => hu1.1.trans (mr_num hq)) hu1.2.1 hu1.2.2) (by rw [← mm_81 (o := o) (A := gv g 256 16) (B := gv g 272 16) (by omega) (by omega)]; exact hP) hS
                          · refine lv_aload_n hx hb d_M_does_321 rfl (lv_at hl 0 rfl) ?_
                            refine lv_sipush (v := nI 304) hx hb d_M_does_322 (by decide) ?_
                            refine lv_aload_n hx hb d_M_does_325 rfl (lv_at hl 0 rfl) ?_
                            refine va_get (D := E.1) (ci := 8) (v := .int (nI gas)) (C := "WideStackModel") (T := T_M) (N := 15) hx hb hts in_M hown hK hP 0 rfl rfl 4 (by decide) (hts _ t_751) (fun _ h9 => h9) rfl d_M_does_326 ?_
                            have hnv : gas < 2147483648 := (by omega)
                            refine k_Vv (As := [.int (nI 304), .int (nI gas)]) (rest := []) ⟨hx, hb, hml, hown, hts⟩ (c_M_number l E mo mb mm mw mh ml len en gas ctr siz hgt frm ret on ay g hg 304 gas (by decide) hnv) (k_cwV 2 hts t_942 t_944 t_52 t_71 t_945 (by decide +kernel) ⟨Nat.le_of_ble_eq_true rfl, Nat.le_of_ble_eq_true rfl⟩) hK hG hA hP hD hS [0, 3] rfl (by decide) 0 rfl rfl (fun _ => rfl) rfl hl.1 rfl (Nat.le_of_ble_eq_true rfl) d_M_does_329 ⟨Nat.zero_le _, Nat.zero_le _⟩ (fun u1 H locs hu1 hP hD hS => ?_)
                            have hP : va_P E.1 vwCl [(mo, .inr (8, [.int (nI len), .ref mb, .int (kb on), .int (nI en), .int (nI gas), .int (nI ctr), .int (nI siz), .int (nI hgt), .int (nI frm), .int (nI ret), .ref mm, .ref mw, .ref mh, .ref ml, .int (kb ay)])), (mb, .inl (E.2.1 0, 96, .inl (nF nb))), (mm, .inl (E.2.1 0, 160, .inl (nF mem))), (mw, .inl (E.2.1 0, 370, .inl (nF (nmb g 304 gas))))] H := hP
                            have hD : va_D A [(mo, .inr (8, [.int (nI len), .ref mb, .int (kb on), .int (nI en), .int (nI gas), .int (nI ctr), .int (nI siz), .int (nI hgt), .int (nI frm), .int (nI ret), .ref mm, .ref mw, .ref mh, .ref ml, .int (kb ay)])), (mb, .inl (E.2.1 0, 96, .inl (nF nb))), (mm, .inl (E.2.1 0, 160, .inl (nF mem))), (mw, .inl (E.2.1 0, 370, .inl (nF (nmb g 304 gas))))] := hD
                            refine lv_goto (tgt := 350) hx hb d_M_does_332 (by decide) ?_
                            exact hret _ ls _ _ (nmb g 304 gas) d_M_does_350 (do_n hg (by omega) (mr_90 h318)) (by rw [← mm_81 (o := o) (A := gv g 256 16) (B := gv g 272 16) (by omega) (by omega)]; exact hP) hS
                        · refine lv_aload_n hx hb d_M_does_301 rfl (lv_at hl 0 rfl) ?_
                          refine lv_sipush (v := nI 304) hx hb d_M_does_302 (by decide) ?_
                          refine lv_aload_n hx hb d_M_does_305 rfl (lv_at hl 0 rfl) ?_
                          refine va_get (D := E.1) (ci := 8) (v := .int (nI siz)) (C := "WideStackModel") (T := T_M) (N := 15) hx hb hts in_M hown hK hP 0 rfl rfl 6 (by decide) (hts _ t_753) (fun _ h9 => h9) rfl d_M_does_306 ?_
                          have hnv : siz < 2147483648 := (by omega)
                          refine k_Vv (As := [.int (nI 304), .int (nI siz)]) (rest := []) ⟨hx, hb, hml, hown, hts⟩ (c_M_number l E mo mb mm mw mh ml len en gas ctr siz hgt frm ret on ay g hg 304 siz (by decide) hnv) (k_cwV 2 hts t_942 t_944 t_52 t_71 t_945 (by decide +kernel) ⟨Nat.le_of_ble_eq_true rfl, Nat.le_of_ble_eq_true rfl⟩) hK hG hA hP hD hS [0, 3] rfl (by decide) 0 rfl rfl (fun _ => rfl) rfl hl.1 rfl (Nat.le_of_ble_eq_true rfl) d_M_does_309 ⟨Nat.zero_le _, Nat.zero_le _⟩ (fun u1 H locs hu1 hP hD hS => ?_)
                          have hP : va_P E.1 vwCl [(mo, .inr (8, [.int (nI len), .ref mb, .int (kb on), .int (nI en), .int (nI gas), .int (nI ctr), .int (nI siz), .int (nI hgt), .int (nI frm), .int (nI ret), .ref mm, .ref mw, .ref mh, .ref ml, .int (kb ay)])), (mb, .inl (E.2.1 0, 96, .inl (nF nb))), (mm, .inl (E.2.1 0, 160, .inl (nF mem))), (mw, .inl (E.2.1 0, 370, .inl (nF (nmb g 304 siz))))] H := hP
                          have hD : va_D A [(mo, .inr (8, [.int (nI len), .ref mb, .int (kb on), .int (nI en), .int (nI gas), .int (nI ctr), .int (nI siz), .int (nI hgt), .int (nI frm), .int (nI ret), .ref mm, .ref mw, .ref mh, .ref ml, .int (kb ay)])), (mb, .inl (E.2.1 0, 96, .inl (nF nb))), (mm, .inl (E.2.1 0, 160, .inl (nF mem))), (mw, .inl (E.2.1 0, 370, .inl (nF (nmb g 304 siz))))] := hD
                          refine lv_goto (tgt := 350) hx hb d_M_does_312 (by decide) ?_
                          exact hret _ ls _ _ (nmb g 304 siz) d_M_does_350 (do_n hg (by omega) (mr_89 h298)) (by rw [← mm_81 (o := o) (A := gv g 256 16) (B := gv g 272 16) (by omega) (by omega)]; exact hP) hS
                      · refine lv_aload_n hx hb d_M_does_281 rfl (lv_at hl 0 rfl) ?_
                        refine lv_sipush (v := nI 304) hx hb d_M_does_282 (by decide) ?_
                        refine lv_aload_n hx hb d_M_does_285 rfl (lv_at hl 0 rfl) ?_
                        refine va_get (D := E.1) (ci := 8) (v := .int (nI ctr)) (C := "WideStackModel") (T := T_M) (N := 15) hx hb hts in_M hown hK hP 0 rfl rfl 5 (by decide) (hts _ t_752) (fun _ h9 => h9) rfl d_M_does_286 ?_
                        have hnv : ctr < 2147483648 := (by omega)
                        refine k_Vv (As := [.int (nI 304), .int (nI ctr)]) (rest := []) ⟨hx, hb, hml, hown, hts⟩ (c_M_number l E mo mb mm mw mh ml len en gas ctr siz hgt frm ret on ay g hg 304 ctr (by decide) hnv) (k_cwV 2 hts t_942 t_944 t_52 t_71 t_945 (by decide +kernel) ⟨Nat.le_of_ble_eq_true rfl, Nat.le_of_ble_eq_true rfl⟩) hK hG hA hP hD hS [0, 3] rfl (by decide) 0 rfl rfl (fun _ => rfl) rfl hl.1 rfl (Nat.le_of_ble_eq_true rfl) d_M_does_289 ⟨Nat.zero_le _, Nat.zero_le _⟩ (fun u1 H locs hu1 hP hD hS => ?_)
                        have hP : va_P E.1 vwCl [(mo, .inr (8, [.int (nI len), .ref mb, .int (kb on), .int (nI en), .int (nI gas), .int (nI ctr), .int (nI siz), .int (nI hgt), .int (nI frm), .int (nI ret), .ref mm, .ref mw, .ref mh, .ref ml, .int (kb ay)])), (mb, .inl (E.2.1 0, 96, .inl (nF nb))), (mm, .inl (E.2.1 0, 160, .inl (nF mem))), (mw, .inl (E.2.1 0, 370, .inl (nF (nmb g 304 ctr))))] H := hP
                        have hD : va_D A [(mo, .inr (8, [.int (nI len), .ref mb, .int (kb on), .int (nI en), .int (nI gas), .int (nI ctr), .int (nI siz), .int (nI hgt), .int (nI frm), .int (nI ret), .ref mm, .ref mw, .ref mh, .ref ml, .int (kb ay)])), (mb, .inl (E.2.1 0, 96, .inl (nF nb))), (mm, .inl (E.2.1 0, 160, .inl (nF mem))), (mw, .inl (E.2.1 0, 370, .inl (nF (nmb g 304 ctr))))] := hD
                        refine lv_goto (tgt := 350) hx hb d_M_does_292 (by decide) ?_
                        exact hret _ ls _ _ (nmb g 304 ctr) d_M_does_350 (do_n hg (by omega) (mr_88 h278)) (by rw [← mm_81 (o := o) (A := gv g 256 16) (B := gv g 272 16) (by omega) (by omega)]; exact hP) hS
                    · refine lv_iload_n hx hb d_M_does_261 rfl (lv_at hl 1 rfl) ?_
                      refine lv_bipush (v := nI 83) hx hb d_M_does_262 (by decide) ?_
                      refine kn_gt (tgt := 275) hx hb (by omega) (by omega) d_M_does_264 (by decide) (fun h264 => ?_) (fun h264 => ?_)
                      · refine lv_iload_n hx hb d_M_does_275 rfl (lv_at hl 1 rfl) ?_
                        refine lv_bipush (v := nI 88) hx hb d_M_does_276 (by decide) ?_
                        refine kn_ne (tgt := 295) hx hb (by omega) (by omega) d_M_does_278 (by decide) (fun h278 => ?_) (fun h278 => ?_)
                        · refine lv_iload_n hx hb d_M_does_295 rfl (lv_at hl 1 rfl) ?_
                          refine lv_bipush (v := nI 89) hx hb d_M_does_296 (by decide) ?_
                          refine kn_ne (tgt := 315) hx hb (by omega) (by omega) d_M_does_298 (by decide) (fun h298 => ?_) (fun h298 => ?_)
                          · refine lv_iload_n hx hb d_M_does_315 rfl (lv_at hl 1 rfl) ?_
                            refine lv_bipush (v := nI 90) hx hb d_M_does_316 (by decide) ?_
                            refine kn_ne (tgt := 335) hx hb (by omega) (by omega) d_M_does_318 (by decide) (fun h318 => ?_) (fun h318 => ?_)
                            · refine lv_iload_n hx hb d_M_does_335 rfl (lv_at hl 1 rfl) ?_
                              refine k_Sp (As := [.int (nI o)]) (rest := []) ⟨hx, hb, hml, hown, hts⟩ (c_M_hasNumber l E o (by omega)) (k_cwS 1 hts t_816 t_817 t_71 t_818 (by decide +kernel) ⟨Nat.le_of_ble_eq_true rfl, Nat.le_of_ble_eq_true rfl⟩) hK hG hA hP hD hS [] rfl (by decide) rfl hl.1 rfl (Nat.le_of_ble_eq_true rfl) d_M_does_336 ⟨Nat.zero_le _, Nat.zero_le _⟩ (fun r336 hu336 => ?_)
                              subst hu336
                              refine lv_if_eq (tgt := 350) hx hb d_M_does_339 (by decide) (fun h339 => ?_) (fun h339 => ?_)
                              · have hq := of_decide_eq_false (kb_0.mp h339)
                                exact hret _ ls _ _ (g) d_M_does_350 (do_0 hg (mg_0 hk (by omega) (by omega) (by omega) (by omega))) (by rw [← mm_81 (o := o) (A := gv g 256 16) (B := gv g 272 16) (by omega) (by omega)]; exact hP) hS
                              · have hq := of_decide_eq_true (kb_n0 h339)
                                refine lv_aload_n hx hb d_M_does_342 rfl (lv_at hl 0 rfl) ?_
                                refine lv_iload_n hx hb d_M_does_343 rfl (lv_at hl 1 rfl) ?_
                                refine lv_bipush (v := nI 95) hx hb d_M_does_344 (by decide) ?_
                                refine lv_isub hx hb d_M_does_346 ?_
                                refine k_top (pk_sub (by omega)) ?_
                                refine k_Vv (As := [.int (nI (o - 95))]) (rest := []) ⟨hx, hb, hml, hown, hts⟩ (c_M_reads l E mo mb mm mw mh ml len en gas ctr siz hgt frm ret on ay g hg nb bb okb (o - 95) (by omega) hc) (k_cwV 1 hts t_962 t_964 t_57 t_71 t_965 (by decide +kernel) ⟨Nat.le_of_ble_eq_true rfl, Nat.le_of_ble_eq_true rfl⟩) hK hG hA hP hD hS [0, 1, 3] rfl (by decide) 0 rfl rfl (fun _ => rfl) rfl hl.1 rfl (Nat.le_of_ble_eq_true rfl) d_M_does_347 ⟨Nat.zero_le _, Nat.zero_le _⟩ (fun u1 H locs hu1 hP hD hS => ?_)
                                have hP : va_P E.1 vwCl [(mo, .inr (8, [.int (nI len), .ref mb, .int (kb on), .int (nI en), .int (nI gas), .int (nI ctr), .int (nI siz), .int (nI hgt), .int (nI frm), .int (nI ret), .ref mm, .ref mw, .ref mh, .ref ml, .int (kb ay)])), (mb, .inl (E.2.1 0, 96, .inl (nF nb))), (mm, .inl (E.2.1 0, 160, .inl (nF mem))), (mw, .inl (E.2.1 0, 370, .inl (nF u1)))] H := hP
                                have hD : va_D A [(mo, .inr (8, [.int (nI len), .ref mb, .int (kb on), .int (nI en), .int (nI gas), .int (nI ctr), .int (nI siz), .int (nI hgt), .int (nI frm), .int (nI ret), .ref mm, .ref mw, .ref mh, .ref ml, .int (kb ay)])), (mb, .inl (E.2.1 0, 96, .inl (nF nb))), (mm, .inl (E.2.1 0, 160, .inl (nF mem))), (mw, .inl (E.2.1 0, 370, .inl (nF u1)))] := hD
                                exact hret _ ls _ _ (u1) d_M_does_350 (do_f (fun _ => hu1.1.trans (mr_num hq)) hu1.2.1 hu1.2.2) (by rw [← mm_81 (o := o) (A := gv g 256 16) (B := gv g 272 16) (by omega) (by omega)]; exact hP) hS
                            · refine lv_aload_n hx hb d_M_does_321 rfl (lv_at hl 0 rfl) ?_
                              refine lv_sipush (v := nI 304) hx hb d_M_does_322 (by decide) ?_
                              refine lv_aload_n hx hb d_M_does_325 rfl (lv_at hl 0 rfl) ?_
                              refine va_get (D := E.1) (ci := 8) (v := .int (nI gas)) (C := "WideStackModel") (T := T_M) (N := 15) hx hb hts in_M hown hK hP 0 rfl rfl 4 (by decide) (hts _ t_751) (fun _ h9 => h9) rfl d_M_does_326 ?_
                              have hnv : gas < 2147483648 := (by omega)
                              refine k_Vv (As := [.int (nI 304), .int (nI gas)]) (rest := []) ⟨hx, hb, hml, hown, hts⟩ (c_M_number l E mo mb mm mw mh ml len en gas ctr siz hgt frm ret on ay g hg 304 gas (by decide) hnv) (k_cwV 2 hts t_942 t_944 t_52 t_71 t_945 (by decide +kernel) ⟨Nat.le_of_ble_eq_true rfl, Nat.le_of_ble_eq_true rfl⟩) hK hG hA hP hD hS [0, 3] rfl (by decide) 0 rfl rfl (fun _ => rfl) rfl hl.1 rfl (Nat.le_of_ble_eq_true rfl) d_M_does_329 ⟨Nat.zero_le _, Nat.zero_le _⟩ (fun u1 H locs hu1 hP hD hS => ?_)
                              have hP : va_P E.1 vwCl [(mo, .inr (8, [.int (nI len), .ref mb, .int (kb on), .int (nI en), .int (nI gas), .int (nI ctr), .int (nI siz), .int (nI hgt), .int (nI frm), .int (nI ret), .ref mm, .ref mw, .ref mh, .ref ml, .int (kb ay)])), (mb, .inl (E.2.1 0, 96, .inl (nF nb))), (mm, .inl (E.2.1 0, 160, .inl (nF mem))), (mw, .inl (E.2.1 0, 370, .inl (nF (nmb g 304 gas))))] H := hP
                              have hD : va_D A [(mo, .inr (8, [.int (nI len), .ref mb, .int (kb on), .int (nI en), .int (nI gas), .int (nI ctr), .int (nI siz), .int (nI hgt), .int (nI frm), .int (nI ret), .ref mm, .ref mw, .ref mh, .ref ml, .int (kb ay)])), (mb, .inl (E.2.1 0, 96, .inl (nF nb))), (mm, .inl (E.2.1 0, 160, .inl (nF mem))), (mw, .inl (E.2.1 0, 370, .inl (nF (nmb g 304 gas))))] := hD
                              refine lv_goto (tgt := 350) hx hb d_M_does_332 (by decide) ?_
                              exact hret _ ls _ _ (nmb g 304 gas) d_M_does_350 (do_n hg (by omega) (mr_90 h318)) (by rw [← mm_81 (o := o) (A := gv g 256 16) (B := gv g 272 16) (by omega) (by omega)]; exact hP) hS
                          · refine lv_aload_n hx hb d_M_does_301 rfl (lv_at hl 0 rfl) ?_
                            refine lv_sipush (v := nI 304) hx hb d_M_does_302 (by decide) ?_
                            refine lv_aload_n hx hb d_M_does_305 rfl (lv_at hl 0 rfl) ?_
                            refine va_get (D := E.1) (ci := 8) (v := .int (nI siz)) (C := "WideStackModel") (T := T_M) (N := 15) hx hb hts in_M hown hK hP 0 rfl rfl 6 (by decide) (hts _ t_753) (fun _ h9 => h9) rfl d_M_does_306 ?_
                            have hnv : siz < 2147483648 := (by omega)
                            refine k_Vv (As := [.int (nI 304), .int (nI siz)]) (rest := []) ⟨hx, hb, hml, hown, hts⟩ (c_M_number l E mo mb mm mw mh ml len en gas ctr siz hgt frm ret on ay g hg 304 siz (by decide) hnv) (k_cwV 2 hts t_942 t_944 t_52 t_71 t_945 (by decide +kernel) ⟨Nat.le_of_ble_eq_true rfl, Nat.le_of_ble_eq_true rfl⟩) hK hG hA hP hD hS [0, 3] rfl (by decide) 0 rfl rfl (fun _ => rfl) rfl hl.1 rfl (Nat.le_of_ble_eq_true rfl) d_M_does_309 ⟨Nat.zero_le _, Nat.zero_le _⟩ (fun u1 H locs hu1 hP hD hS => ?_)
                            have hP : va_P E.1 vwCl [(mo, .inr (8, [.int (nI len), .ref mb, .int (kb on), .int (nI en), .int (nI gas), .int (nI ctr), .int (nI siz), .int (nI hgt), .int (nI frm), .int (nI ret), .ref mm, .ref mw, .ref mh, .ref ml, .int (kb ay)])), (mb, .inl (E.2.1 0, 96, .inl (nF nb))), (mm, .inl (E.2.1 0, 160, .inl (nF mem))), (mw, .inl (E.2.1 0, 370, .inl (nF (nmb g 304 siz))))] H := hP
                            have hD : va_D A [(mo, .inr (8, [.int (nI len), .ref mb, .int (kb on), .int (nI en), .int (nI gas), .int (nI ctr), .int (nI siz), .int (nI hgt), .int (nI frm), .int (nI ret), .ref mm, .ref mw, .ref mh, .ref ml, .int (kb ay)])), (mb, .inl (E.2.1 0, 96, .inl (nF nb))), (mm, .inl (E.2.1 0, 160, .inl (nF mem))), (mw, .inl (E.2.1 0, 370, .inl (nF (nmb g 304 siz))))] := hD
                            refine lv_goto (tgt := 350) hx hb d_M_does_312 (by decide) ?_
                            exact hret _ ls _ _ (nmb g 304 siz) d_M_does_350 (do_n hg (by omega) (mr_89 h298)) (by rw [← mm_81 (o := o) (A := gv g 256 16) (B := gv g 272 16) (by omega) (by omega)]; exact hP) hS
                        · refine lv_aload_n hx hb d_M_does_281 rfl (lv_at hl 0 rfl) ?_
                          refine lv_sipush (v := nI 304) hx hb d_M_does_282 (by decide) ?_
                          refine lv_aload_n hx hb d_M_does_285 rfl (lv_at hl 0 rfl) ?_
                          refine va_get (D := E.1) (ci := 8) (v := .int (nI ctr)) (C := "WideStackModel") (T := T_M) (N := 15) hx hb hts in_M hown hK hP 0 rfl rfl 5 (by decide) (hts _ t_752) (fun _ h9 => h9) rfl d_M_does_286 ?_
                          have hnv : ctr < 2147483648 := (by omega)
                          refine k_Vv (As := [.int (nI 304), .int (nI ctr)]) (rest := []) ⟨hx, hb, hml, hown, hts⟩ (c_M_number l E mo mb mm mw mh ml len en gas ctr siz hgt frm ret on ay g hg 304 ctr (by decide) hnv) (k_cwV 2 hts t_942 t_944 t_52 t_71 t_945 (by decide +kernel) ⟨Nat.le_of_ble_eq_true rfl, Nat.le_of_ble_eq_true rfl⟩) hK hG hA hP hD hS [0, 3] rfl (by decide) 0 rfl rfl (fun _ => rfl) rfl hl.1 rfl (Nat.le_of_ble_eq_true rfl) d_M_does_289 ⟨Nat.zero_le _, Nat.zero_le _⟩ (fun u1 H locs hu1 hP hD hS => ?_)
                          have hP : va_P E.1 vwCl [(mo, .inr (8, [.int (nI len), .ref mb, .int (kb on), .int (nI en), .int (nI gas), .int (nI ctr), .int (nI siz), .int (nI hgt), .int (nI frm), .int (nI ret), .ref mm, .ref mw, .ref mh, .ref ml, .int (kb ay)])), (mb, .inl (E.2.1 0, 96, .inl (nF nb))), (mm, .inl (E.2.1 0, 160, .inl (nF mem))), (mw, .inl (E.2.1 0, 370, .inl (nF (nmb g 304 ctr))))] H := hP
                          have hD : va_D A [(mo, .inr (8, [.int (nI len), .ref mb, .int (kb on), .int (nI en), .int (nI gas), .int (nI ctr), .int (nI siz), .int (nI hgt), .int (nI frm), .int (nI ret), .ref mm, .ref mw, .ref mh, .ref ml, .int (kb ay)])), (mb, .inl (E.2.1 0, 96, .inl (nF nb))), (mm, .inl (E.2.1 0, 160, .inl (nF mem))), (mw, .inl (E.2.1 0, 370, .inl (nF (nmb g 304 ctr))))] := hD
                          refine lv_goto (tgt := 350) hx hb d_M_does_292 (by decide) ?_
                          exact hret _ ls _ _ (nmb g 304 ctr) d_M_does_350 (do_n hg (by omega) (mr_88 h278)) (by rw [← mm_81 (o := o) (A := gv g 256 16) (B := gv g 272 16) (by omega) (by omega)]; exact hP) hS
                      · refine lv_aload_n hx hb d_M_does_267 rfl (lv_at hl 0 rfl) ?_
                        refine lv_iload_n hx hb d_M_does_268 rfl (lv_at hl 1 rfl) ?_
                        refine k_Vv (As := [.int (nI o)]) (rest := []) ⟨hx, hb, hml, hown, hts⟩ (c_M_remembers l E mo mb mm mw mh ml len en gas ctr siz hgt frm ret on ay g hg mem hm o (by omega) hu0) (k_cwV 1 hts t_958 t_960 t_56 t_71 t_961 (by decide +kernel) ⟨Nat.le_of_ble_eq_true rfl, Nat.le_of_ble_eq_true rfl⟩) hK hG hA hP hD hS [0, 2, 3] rfl (by decide) 0 rfl rfl (fun _ => rfl) rfl hl.1 rfl (Nat.le_of_ble_eq_true rfl) d_M_does_269 ⟨Nat.zero_le _, Nat.zero_le _⟩ (fun u1 H locs hu1 hP hD hS => ?_)
                        have hP : va_P E.1 vwCl [(mo, .inr (8, [.int (nI len), .ref mb, .int (kb on), .int (nI en), .int (nI gas), .int (nI ctr), .int (nI siz), .int (nI hgt), .int (nI frm), .int (nI ret), .ref mm, .ref mw, .ref mh, .ref ml, .int (kb ay)])), (mb, .inl (E.2.1 0, 96, .inl (nF nb))), (mm, .inl (E.2.1 0, 160, .inl (nF (m_mem o (gv g 256 16) (gv g 272 16) mem)))), (mw, .inl (E.2.1 0, 370, .inl (nF u1)))] H := hP
                        have hD : va_D A [(mo, .inr (8, [.int (nI len), .ref mb, .int (kb on), .int (nI en), .int (nI gas), .int (nI ctr), .int (nI siz), .int (nI hgt), .int (nI frm), .int (nI ret), .ref mm, .ref mw, .ref mh, .ref ml, .int (kb ay)])), (mb, .inl (E.2.1 0, 96, .inl (nF nb))), (mm, .inl (E.2.1 0, 160, .inl (nF (m_mem o (gv g 256 16) (gv g 272 16) mem)))), (mw, .inl (E.2.1 0, 370, .inl (nF u1)))] := hD
                        refine lv_goto (tgt := 350) hx hb d_M_does_272 (by decide) ?_
                        exact hret _ ls _ _ (u1) d_M_does_350 (do_f (fun q => by by_cases q1 : o = 81; exact (hu1.1 q1).trans (mr_81 q1); exact absurd q (fun q => mg_83 (by omega) q)) hu1.2.1 hu1.2.2) hP hS
                  · refine lv_aload_n hx hb d_M_does_207 rfl (lv_at hl 0 rfl) ?_
                    refine lv_aload_n hx hb d_M_does_208 rfl (lv_at hl 0 rfl) ?_
                    refine lv_sipush (v := nI 256) hx hb d_M_does_209 (by decide) ?_
                    refine k_Vp (As := [.int (nI 256)]) (rest := [.ref mo]) ⟨hx, hb, hml, hown, hts⟩ (c_M_small l E mo mb mm mw mh ml len en gas ctr siz hgt frm ret on ay g hg 256 (by decide)) (k_cwV 1 hts t_857 t_859 t_32 t_71 t_860 (by decide +kernel) ⟨Nat.le_of_ble_eq_true rfl, Nat.le_of_ble_eq_true rfl⟩) hK hG hA hP hD hS [0, 3] rfl (by decide) 0 rfl rfl rfl hl.1 rfl (Nat.le_of_ble_eq_true rfl) d_M_does_212 ⟨Nat.zero_le _, Nat.zero_le _⟩ (fun r212 hu212 => ?_)
                    subst hu212
                    refine lv_sipush (v := nI 255) hx hb d_M_does_215 (by decide) ?_
                    refine kn_le (tgt := 227) hx hb (by omega) (by omega) d_M_does_218 (by decide) (fun h218 => ?_) (fun h218 => ?_)
                    · refine lv_aload_n hx hb d_M_does_227 rfl (lv_at hl 0 rfl) ?_
                      refine lv_sipush (v := nI 256) hx hb d_M_does_228 (by decide) ?_
                      refine k_Vp (As := [.int (nI 256)]) (rest := [.ref mo]) ⟨hx, hb, hml, hown, hts⟩ (c_M_small l E mo mb mm mw mh ml len en gas ctr siz hgt frm ret on ay g hg 256 (by decide)) (k_cwV 1 hts t_857 t_859 t_32 t_71 t_860 (by decide +kernel) ⟨Nat.le_of_ble_eq_true rfl, Nat.le_of_ble_eq_true rfl⟩) hK hG hA hP hD hS [0, 3] rfl (by decide) 0 rfl rfl rfl hl.1 rfl (Nat.le_of_ble_eq_true rfl) d_M_does_231 ⟨Nat.zero_le _, Nat.zero_le _⟩ (fun r231 hu231 => ?_)
                      subst hu231
                      refine lv_aload_n hx hb d_M_does_234 rfl (lv_at hl 0 rfl) ?_
                      refine lv_sipush (v := nI 272) hx hb d_M_does_235 (by decide) ?_
                      refine k_Vp (As := [.int (nI 272)]) (rest := [.int (nI (min (gv g 256 16) 65535)), .ref mo]) ⟨hx, hb, hml, hown, hts⟩ (c_M_isNegative l E mo mb mm mw mh ml len en gas ctr siz hgt frm ret on ay g hg 272 (by decide)) (k_cwV 1 hts t_922 t_924 t_47 t_71 t_925 (by decide +kernel) ⟨Nat.le_of_ble_eq_true rfl, Nat.le_of_ble_eq_true rfl⟩) hK hG hA hP hD hS [0, 3] rfl (by decide) 0 rfl rfl rfl hl.1 rfl (Nat.le_of_ble_eq_true rfl) d_M_does_238 ⟨Nat.zero_le _, Nat.zero_le _⟩ (fun r238 hu238 => ?_)
                      subst hu238
                      refine lv_if_eq (tgt := 248) hx hb d_M_does_241 (by decide) (fun h241 => ?_) (fun h241 => ?_)
                      · refine lv_iconst (v := nI 0) hx hb d_M_does_248 (by decide) ?_
                        refine k_Vv (As := [.int (nI (min (gv g 256 16) 65535)), .int (nI 0)]) (rest := []) ⟨hx, hb, hml, hown, hts⟩ (c_M_shiftDown l E mo mb mm mw mh ml len en gas ctr siz hgt frm ret on ay g hg (min (gv g 256 16) 65535) 0 (by omega) (by decide)) (k_cwV 2 hts t_954 t_956 t_55 t_71 t_957 (by decide +kernel) ⟨Nat.le_of_ble_eq_true rfl, Nat.le_of_ble_eq_true rfl⟩) hK hG hA hP hD hS [0, 3] rfl (by decide) 0 rfl rfl (fun _ => rfl) rfl hl.1 rfl (Nat.le_of_ble_eq_true rfl) d_M_does_249 ⟨Nat.zero_le _, Nat.zero_le _⟩ (fun u1 H locs hu1 hP hD hS => ?_)
                        have hP : va_P E.1 vwCl [(mo, .inr (8, [.int (nI len), .ref mb, .int (kb on), .int (nI en), .int (nI gas), .int (nI ctr), .int (nI siz), .int (nI hgt), .int (nI frm), .int (nI ret), .ref mm, .ref mw, .ref mh, .ref ml, .int (kb ay)])), (mb, .inl (E.2.1 0, 96, .inl (nF nb))), (mm, .inl (E.2.1 0, 160, .inl (nF mem))), (mw, .inl (E.2.1 0, 370, .inl (nF u1)))] H := hP
                        have hD : va_D A [(mo, .inr (8, [.int (nI len), .ref mb, .int (kb on), .int (nI en), .int (nI gas), .int (nI ctr), .int (nI siz), .int (nI hgt), .int (nI frm), .int (nI ret), .ref mm, .ref mw, .ref mh, .ref ml, .int (kb ay)])), (mb, .inl (E.2.1 0, 96, .inl (nF nb))), (mm, .inl (E.2.1 0, 160, .inl (nF mem))), (mw, .inl (E.2.1 0, 370, .inl (nF u1)))] := hD
                        refine lv_goto (tgt := 350) hx hb d_M_does_252 (by decide) ?_
                        exact hret _ ls _ _ (u1) d_M_does_350 (do_f (fun _ => (by rw [h204, mo_29]; exact sh_sar0 (gv_lt16 hg 272) (kb_0.mp h241) hu1 (by first | exact Or.inl (min_s h218) | exact Or.inr (min_b h218)) : gv u1 304 16 = m_op o (gv g 256 16) (gv g 272 16) (gv g 288 16)).trans (mr_op (by omega))) hu1.1 hu1.2.1) (by rw [← mm_81 (o := o) (A := gv g 256 16) (B := gv g 272 16) (by omega) (by omega)]; exact hP) hS
                      · refine lv_iconst (v := nI 1) hx hb d_M_does_244 (by decide) ?_
                        refine lv_goto (tgt := 249) hx hb d_M_does_245 (by decide) ?_
                        refine k_Vv (As := [.int (nI (min (gv g 256 16) 65535)), .int (nI 1)]) (rest := []) ⟨hx, hb, hml, hown, hts⟩ (c_M_shiftDown l E mo mb mm mw mh ml len en gas ctr siz hgt frm ret on ay g hg (min (gv g 256 16) 65535) 1 (by omega) (by decide)) (k_cwV 2 hts t_954 t_956 t_55 t_71 t_957 (by decide +kernel) ⟨Nat.le_of_ble_eq_true rfl, Nat.le_of_ble_eq_true rfl⟩) hK hG hA hP hD hS [0, 3] rfl (by decide) 0 rfl rfl (fun _ => rfl) rfl hl.1 rfl (Nat.le_of_ble_eq_true rfl) d_M_does_249 ⟨Nat.zero_le _, Nat.zero_le _⟩ (fun u1 H locs hu1 hP hD hS => ?_)
                        have hP : va_P E.1 vwCl [(mo, .inr (8, [.int (nI len), .ref mb, .int (kb on), .int (nI en), .int (nI gas), .int (nI ctr), .int (nI siz), .int (nI hgt), .int (nI frm), .int (nI ret), .ref mm, .ref mw, .ref mh, .ref ml, .int (kb ay)])), (mb, .inl (E.2.1 0, 96, .inl (nF nb))), (mm, .inl (E.2.1 0, 160, .inl (nF mem))), (mw, .inl (E.2.1 0, 370, .inl (nF u1)))] H := hP
                        have hD : va_D A [(mo, .inr (8, [.int (nI len), .ref mb, .int (kb on), .int (nI en), .int (nI gas), .int (nI ctr), .int (nI siz), .int (nI hgt), .int (nI frm), .int (nI ret), .ref mm, .ref mw, .ref mh, .ref ml, .int (kb ay)])), (mb, .inl (E.2.1 0, 96, .inl (nF nb))), (mm, .inl (E.2.1 0, 160, .inl (nF mem))), (mw, .inl (E.2.1 0, 370, .inl (nF u1)))] := hD
                        refine lv_goto (tgt := 350) hx hb d_M_does_252 (by decide) ?_
                        exact hret _ ls _ _ (u1) d_M_does_350 (do_f (fun _ => (by rw [h204, mo_29]; exact sh_sar1 (gv_lt16 hg 272) (kb_n0 h241) hu1 (by first | exact Or.inl (min_s h218) | exact Or.inr (min_b h218)) : gv u1 304 16 = m_op o (gv g 256 16) (gv g 272 16) (gv g 288 16)).trans (mr_op (by omega))) hu1.1 hu1.2.1) (by rw [← mm_81 (o := o) (A := gv g 256 16) (B := gv g 272 16) (by omega) (by omega)]; exact hP) hS
                    · refine lv_sipush (v := nI 256) hx hb d_M_does_221 (by decide) ?_
                      refine lv_goto (tgt := 234) hx hb d_M_does_224 (by decide) ?_
                      refine lv_aload_n hx hb d_M_does_234 rfl (lv_at hl 0 rfl) ?_
                      refine lv_sipush (v := nI 272) hx hb d_M_does_235 (by decide) ?_
                      refine k_Vp (As := [.int (nI 272)]) (rest := [.int (nI 256), .ref mo]) ⟨hx, hb, hml, hown, hts⟩ (c_M_isNegative l E mo mb mm mw mh ml len en gas ctr siz hgt frm ret on ay g hg 272 (by decide)) (k_cwV 1 hts t_922 t_924 t_47 t_71 t_925 (by decide +kernel) ⟨Nat.le_of_ble_eq_true rfl, Nat.le_of_ble_eq_true rfl⟩) hK hG hA hP hD hS [0, 3] rfl (by decide) 0 rfl rfl rfl hl.1 rfl (Nat.le_of_ble_eq_true rfl) d_M_does_238 ⟨Nat.zero_le _, Nat.zero_le _⟩ (fun r238 hu238 => ?_)
                      subst hu238
                      refine lv_if_eq (tgt := 248) hx hb d_M_does_241 (by decide) (fun h241 => ?_) (fun h241 => ?_)
                      · refine lv_iconst (v := nI 0) hx hb d_M_does_248 (by decide) ?_
                        refine k_Vv (As := [.int (nI 256), .int (nI 0)]) (rest := []) ⟨hx, hb, hml, hown, hts⟩ (c_M_shiftDown l E mo mb mm mw mh ml len en gas ctr siz hgt frm ret on ay g hg 256 0 (by omega) (by decide)) (k_cwV 2 hts t_954 t_956 t_55 t_71 t_957 (by decide +kernel) ⟨Nat.le_of_ble_eq_true rfl, Nat.le_of_ble_eq_true rfl⟩) hK hG hA hP hD hS [0, 3] rfl (by decide) 0 rfl rfl (fun _ => rfl) rfl hl.1 rfl (Nat.le_of_ble_eq_true rfl) d_M_does_249 ⟨Nat.zero_le _, Nat.zero_le _⟩ (fun u1 H locs hu1 hP hD hS => ?_)
                        have hP : va_P E.1 vwCl [(mo, .inr (8, [.int (nI len), .ref mb, .int (kb on), .int (nI en), .int (nI gas), .int (nI ctr), .int (nI siz), .int (nI hgt), .int (nI frm), .int (nI ret), .ref mm, .ref mw, .ref mh, .ref ml, .int (kb ay)])), (mb, .inl (E.2.1 0, 96, .inl (nF nb))), (mm, .inl (E.2.1 0, 160, .inl (nF mem))), (mw, .inl (E.2.1 0, 370, .inl (nF u1)))] H := hP
                        have hD : va_D A [(mo, .inr (8, [.int (nI len), .ref mb, .int (kb on), .int (nI en), .int (nI gas), .int (nI ctr), .int (nI siz), .int (nI hgt), .int (nI frm), .int (nI ret), .ref mm, .ref mw, .ref mh, .ref ml, .int (kb ay)])), (mb, .inl (E.2.1 0, 96, .inl (nF nb))), (mm, .inl (E.2.1 0, 160, .inl (nF mem))), (mw, .inl (E.2.1 0, 370, .inl (nF u1)))] := hD
                        refine lv_goto (tgt := 350) hx hb d_M_does_252 (by decide) ?_
                        exact hret _ ls _ _ (u1) d_M_does_350 (do_f (fun _ => (by rw [h204, mo_29]; exact sh_sar0 (gv_lt16 hg 272) (kb_0.mp h241) hu1 (by first | exact Or.inl (min_s h218) | exact Or.inr (min_b h218)) : gv u1 304 16 = m_op o (gv g 256 16) (gv g 272 16) (gv g 288 16)).trans (mr_op (by omega))) hu1.1 hu1.2.1) (by rw [← mm_81 (o := o) (A := gv g 256 16) (B := gv g 272 16) (by omega) (by omega)]; exact hP) hS
                      · refine lv_iconst (v := nI 1) hx hb d_M_does_244 (by decide) ?_
                        refine lv_goto (tgt := 249) hx hb d_M_does_245 (by decide) ?_
                        refine k_Vv (As := [.int (nI 256), .int (nI 1)]) (rest := []) ⟨hx, hb, hml, hown, hts⟩ (c_M_shiftDown l E mo mb mm mw mh ml len en gas ctr siz hgt frm ret on ay g hg 256 1 (by omega) (by decide)) (k_cwV 2 hts t_954 t_956 t_55 t_71 t_957 (by decide +kernel) ⟨Nat.le_of_ble_eq_true rfl, Nat.le_of_ble_eq_true rfl⟩) hK hG hA hP hD hS [0, 3] rfl (by decide) 0 rfl rfl (fun _ => rfl) rfl hl.1 rfl (Nat.le_of_ble_eq_true rfl) d_M_does_249 ⟨Nat.zero_le _, Nat.zero_le _⟩ (fun u1 H locs hu1 hP hD hS => ?_)
                        have hP : va_P E.1 vwCl [(mo, .inr (8, [.int (nI len), .ref mb, .int (kb on), .int (nI en), .int (nI gas), .int (nI ctr), .int (nI siz), .int (nI hgt), .int (nI frm), .int (nI ret), .ref mm, .ref mw, .ref mh, .ref ml, .int (kb ay)])), (mb, .inl (E.2.1 0, 96, .inl (nF nb))), (mm, .inl (E.2.1 0, 160, .inl (nF mem))), (mw, .inl (E.2.1 0, 370, .inl (nF u1)))] H := hP
                        have hD : va_D A [(mo, .inr (8, [.int (nI len), .ref mb, .int (kb on), .int (nI en), .int (nI gas), .int (nI ctr), .int (nI siz), .int (nI hgt), .int (nI frm), .int (nI ret), .ref mm, .ref mw, .ref mh, .ref ml, .int (kb ay)])), (mb, .inl (E.2.1 0, 96, .inl (nF nb))), (mm, .inl (E.2.1 0, 160, .inl (nF mem))), (mw, .inl (E.2.1 0, 370, .inl (nF u1)))] := hD
                        refine lv_goto (tgt := 350) hx hb d_M_does_252 (by decide) ?_
                        exact hret _ ls _ _ (u1) d_M_does_350 (do_f (fun _ => (by rw [h204, mo_29]; exact sh_sar1 (gv_lt16 hg 272) (kb_n0 h241) hu1 (by first | exact Or.inl (min_s h218) | exact Or.inr (min_b h218)) : gv u1 304 16 = m_op o (gv g 256 16) (gv g 272 16) (gv g 288 16)).trans (mr_op (by omega))) hu1.1 hu1.2.1) (by rw [← mm_81 (o := o) (A := gv g 256 16) (B := gv g 272 16) (by omega) (by omega)]; exact hP) hS
                · refine lv_aload_n hx hb d_M_does_167 rfl (lv_at hl 0 rfl) ?_
                  refine lv_aload_n hx hb d_M_does_168 rfl (lv_at hl 0 rfl) ?_
                  refine lv_sipush (v := nI 256) hx hb d_M_does_169 (by decide) ?_
                  refine k_Vp (As := [.int (nI 256)]) (rest := [.ref mo]) ⟨hx, hb, hml, hown, hts⟩ (c_M_small l E mo mb mm mw mh ml len en gas ctr siz hgt frm ret on ay g hg 256 (by decide)) (k_cwV 1 hts t_857 t_859 t_32 t_71 t_860 (by decide +kernel) ⟨Nat.le_of_ble_eq_true rfl, Nat.le_of_ble_eq_true rfl⟩) hK hG hA hP hD hS [0, 3] rfl (by decide) 0 rfl rfl rfl hl.1 rfl (Nat.le_of_ble_eq_true rfl) d_M_does_172 ⟨Nat.zero_le _, Nat.zero_le _⟩ (fun r172 hu172 => ?_)
                  subst hu172
                  refine lv_sipush (v := nI 255) hx hb d_M_does_175 (by decide) ?_
                  refine kn_le (tgt := 187) hx hb (by omega) (by omega) d_M_does_178 (by decide) (fun h178 => ?_) (fun h178 => ?_)
                  · refine lv_aload_n hx hb d_M_does_187 rfl (lv_at hl 0 rfl) ?_
                    refine lv_sipush (v := nI 256) hx hb d_M_does_188 (by decide) ?_
                    refine k_Vp (As := [.int (nI 256)]) (rest := [.ref mo]) ⟨hx, hb, hml, hown, hts⟩ (c_M_small l E mo mb mm mw mh ml len en gas ctr siz hgt frm ret on ay g hg 256 (by decide)) (k_cwV 1 hts t_857 t_859 t_32 t_71 t_860 (by decide +kernel) ⟨Nat.le_of_ble_eq_true rfl, Nat.le_of_ble_eq_true rfl⟩) hK hG hA hP hD hS [0, 3] rfl (by decide) 0 rfl rfl rfl hl.1 rfl (Nat.le_of_ble_eq_true rfl) d_M_does_191 ⟨Nat.zero_le _, Nat.zero_le _⟩ (fun r191 hu191 => ?_)
                    subst hu191
                    refine lv_iconst (v := nI 0) hx hb d_M_does_194 (by decide) ?_
                    refine k_Vv (As := [.int (nI (min (gv g 256 16) 65535)), .int (nI 0)]) (rest := []) ⟨hx, hb, hml, hown, hts⟩ (c_M_shiftDown l E mo mb mm mw mh ml len en gas ctr siz hgt frm ret on ay g hg (min (gv g 256 16) 65535) 0 (by omega) (by decide)) (k_cwV 2 hts t_954 t_956 t_55 t_71 t_957 (by decide +kernel) ⟨Nat.le_of_ble_eq_true rfl, Nat.le_of_ble_eq_true rfl⟩) hK hG hA hP hD hS [0, 3] rfl (by decide) 0 rfl rfl (fun _ => rfl) rfl hl.1 rfl (Nat.le_of_ble_eq_true rfl) d_M_does_195 ⟨Nat.zero_le _, Nat.zero_le _⟩ (fun u1 H locs hu1 hP hD hS => ?_)
                    have hP : va_P E.1 vwCl [(mo, .inr (8, [.int (nI len), .ref mb, .int (kb on), .int (nI en), .int (nI gas), .int (nI ctr), .int (nI siz), .int (nI hgt), .int (nI frm), .int (nI ret), .ref mm, .ref mw, .ref mh, .ref ml, .int (kb ay)])), (mb, .inl (E.2.1 0, 96, .inl (nF nb))), (mm, .inl (E.2.1 0, 160, .inl (nF mem))), (mw, .inl (E.2.1 0, 370, .inl (nF u1)))] H := hP
                    have hD : va_D A [(mo, .inr (8, [.int (nI len), .ref mb, .int (kb on), .int (nI en), .int (nI gas), .int (nI ctr), .int (nI siz), .int (nI hgt), .int (nI frm), .int (nI ret), .ref mm, .ref mw, .ref mh, .ref ml, .int (kb ay)])), (mb, .inl (E.2.1 0, 96, .inl (nF nb))), (mm, .inl (E.2.1 0, 160, .inl (nF mem))), (mw, .inl (E.2.1 0, 370, .inl (nF u1)))] := hD
                    refine lv_goto (tgt := 350) hx hb d_M_does_198 (by decide) ?_
                    exact hret _ ls _ _ (u1) d_M_does_350 (do_f (fun _ => (by rw [h164, mo_28]; exact sh_shr (gv_lt16 hg 272) hu1 (by first | exact Or.inl (min_s h178) | exact Or.inr (min_b h178)) : gv u1 304 16 = m_op o (gv g 256 16) (gv g 272 16) (gv g 288 16)).trans (mr_op (by omega))) hu1.1 hu1.2.1) (by rw [← mm_81 (o := o) (A := gv g 256 16) (B := gv g 272 16) (by omega) (by omega)]; exact hP) hS
                  · refine lv_sipush (v := nI 256) hx hb d_M_does_181 (by decide) ?_
                    refine lv_goto (tgt := 194) hx hb d_M_does_184 (by decide) ?_
                    refine lv_iconst (v := nI 0) hx hb d_M_does_194 (by decide) ?_
                    refine k_Vv (As := [.int (nI 256), .int (nI 0)]) (rest := []) ⟨hx, hb, hml, hown, hts⟩ (c_M_shiftDown l E mo mb mm mw mh ml len en gas ctr siz hgt frm ret on ay g hg 256 0 (by omega) (by decide)) (k_cwV 2 hts t_954 t_956 t_55 t_71 t_957 (by decide +kernel) ⟨Nat.le_of_ble_eq_true rfl, Nat.le_of_ble_eq_true rfl⟩) hK hG hA hP hD hS [0, 3] rfl (by decide) 0 rfl rfl (fun _ => rfl) rfl hl.1 rfl (Nat.le_of_ble_eq_true rfl) d_M_does_195 ⟨Nat.zero_le _, Nat.zero_le _⟩ (fun u1 H locs hu1 hP hD hS => ?_)
                    have hP : va_P E.1 vwCl [(mo, .inr (8, [.int (nI len), .ref mb, .int (kb on), .int (nI en), .int (nI gas), .int (nI ctr), .int (nI siz), .int (nI hgt), .int (nI frm), .int (nI ret), .ref mm, .ref mw, .ref mh, .ref ml, .int (kb ay)])), (mb, .inl (E.2.1 0, 96, .inl (nF nb))), (mm, .inl (E.2.1 0, 160, .inl (nF mem))), (mw, .inl (E.2.1 0, 370, .inl (nF u1)))] H := hP
                    have hD : va_D A [(mo, .inr (8, [.int (nI len), .ref mb, .int (kb on), .int (nI en), .int (nI gas), .int (nI ctr), .int (nI siz), .int (nI hgt), .int (nI frm), .int (nI ret), .ref mm, .ref mw, .ref mh, .ref ml, .int (kb ay)])), (mb, .inl (E.2.1 0, 96, .inl (nF nb))), (mm, .inl (E.2.1 0, 160, .inl (nF mem))), (mw, .inl (E.2.1 0, 370, .inl (nF u1)))] := hD
                    refine lv_goto (tgt := 350) hx hb d_M_does_198 (by decide) ?_
                    exact hret _ ls _ _ (u1) d_M_does_350 (do_f (fun _ => (by rw [h164, mo_28]; exact sh_shr (gv_lt16 hg 272) hu1 (by first | exact Or.inl (min_s h178) | exact Or.inr (min_b h178)) : gv u1 304 16 = m_op o (gv g 256 16) (gv g 272 16) (gv g 288 16)).trans (mr_op (by omega))) hu1.1 hu1.2.1) (by rw [← mm_81 (o := o) (A := gv g 256 16) (B := gv g 272 16) (by omega) (by omega)]; exact hP) hS
              · refine lv_aload_n hx hb d_M_does_126 rfl (lv_at hl 0 rfl) ?_
                refine lv_aload_n hx hb d_M_does_127 rfl (lv_at hl 0 rfl) ?_
                refine lv_sipush (v := nI 256) hx hb d_M_does_128 (by decide) ?_
                refine k_Vp (As := [.int (nI 256)]) (rest := [.ref mo]) ⟨hx, hb, hml, hown, hts⟩ (c_M_small l E mo mb mm mw mh ml len en gas ctr siz hgt frm ret on ay g hg 256 (by decide)) (k_cwV 1 hts t_857 t_859 t_32 t_71 t_860 (by decide +kernel) ⟨Nat.le_of_ble_eq_true rfl, Nat.le_of_ble_eq_true rfl⟩) hK hG hA hP hD hS [0, 3] rfl (by decide) 0 rfl rfl rfl hl.1 rfl (Nat.le_of_ble_eq_true rfl) d_M_does_131 ⟨Nat.zero_le _, Nat.zero_le _⟩ (fun r131 hu131 => ?_)
                subst hu131
                refine lv_sipush (v := nI 255) hx hb d_M_does_134 (by decide) ?_
                refine kn_le (tgt := 146) hx hb (by omega) (by omega) d_M_does_137 (by decide) (fun h137 => ?_) (fun h137 => ?_)
                · refine lv_aload_n hx hb d_M_does_146 rfl (lv_at hl 0 rfl) ?_
                  refine lv_sipush (v := nI 256) hx hb d_M_does_147 (by decide) ?_
                  refine k_Vp (As := [.int (nI 256)]) (rest := [.ref mo]) ⟨hx, hb, hml, hown, hts⟩ (c_M_small l E mo mb mm mw mh ml len en gas ctr siz hgt frm ret on ay g hg 256 (by decide)) (k_cwV 1 hts t_857 t_859 t_32 t_71 t_860 (by decide +kernel) ⟨Nat.le_of_ble_eq_true rfl, Nat.le_of_ble_eq_true rfl⟩) hK hG hA hP hD hS [0, 3] rfl (by decide) 0 rfl rfl rfl hl.1 rfl (Nat.le_of_ble_eq_true rfl) d_M_does_150 ⟨Nat.zero_le _, Nat.zero_le _⟩ (fun r150 hu150 => ?_)
                  subst hu150
                  refine lv_ineg hx hb d_M_does_153 ?_
                  refine lv_iconst (v := nI 0) hx hb d_M_does_154 (by decide) ?_
                  refine k_Vv (As := [.int (-(nI (min (gv g 256 16) 65535))), .int (nI 0)]) (rest := []) ⟨hx, hb, hml, hown, hts⟩ (c_M_shiftUp l E mo mb mm mw mh ml len en gas ctr siz hgt frm ret on ay g hg (min (gv g 256 16) 65535) 0 (by omega) (by decide)) (k_cwV 2 hts t_954 t_956 t_55 t_71 t_957 (by decide +kernel) ⟨Nat.le_of_ble_eq_true rfl, Nat.le_of_ble_eq_true rfl⟩) hK hG hA hP hD hS [0, 3] rfl (by decide) 0 rfl rfl (fun _ => rfl) rfl hl.1 rfl (Nat.le_of_ble_eq_true rfl) d_M_does_155 ⟨Nat.zero_le _, Nat.zero_le _⟩ (fun u1 H locs hu1 hP hD hS => ?_)
                  have hP : va_P E.1 vwCl [(mo, .inr (8, [.int (nI len), .ref mb, .int (kb on), .int (nI en), .int (nI gas), .int (nI ctr), .int (nI siz), .int (nI hgt), .int (nI frm), .int (nI ret), .ref mm, .ref mw, .ref mh, .ref ml, .int (kb ay)])), (mb, .inl (E.2.1 0, 96, .inl (nF nb))), (mm, .inl (E.2.1 0, 160, .inl (nF mem))), (mw, .inl (E.2.1 0, 370, .inl (nF u1)))] H := hP
                  have hD : va_D A [(mo, .inr (8, [.int (nI len), .ref mb, .int (kb on), .int (nI en), .int (nI gas), .int (nI ctr), .int (nI siz), .int (nI hgt), .int (nI frm), .int (nI ret), .ref mm, .ref mw, .ref mh, .ref ml, .int (kb ay)])), (mb, .inl (E.2.1 0, 96, .inl (nF nb))), (mm, .inl (E.2.1 0, 160, .inl (nF mem))), (mw, .inl (E.2.1 0, 370, .inl (nF u1)))] := hD
                  refine lv_goto (tgt := 350) hx hb d_M_does_158 (by decide) ?_
                  exact hret _ ls _ _ (u1) d_M_does_350 (do_f (fun _ => (by rw [h123, mo_27]; exact sh_shl hu1 (by first | exact Or.inl (min_s h137) | exact Or.inr (min_b h137)) : gv u1 304 16 = m_op o (gv g 256 16) (gv g 272 16) (gv g 288 16)).trans (mr_op (by omega))) hu1.1 hu1.2.1) (by rw [← mm_81 (o := o) (A := gv g 256 16) (B := gv g 272 16) (by omega) (by omega)]; exact hP) hS
                · refine lv_sipush (v := -256) hx hb d_M_does_140 (by decide) ?_
                  refine k_top (y := -(nI 256)) (by decide) ?_
                  refine lv_goto (tgt := 154) hx hb d_M_does_143 (by decide) ?_
                  refine lv_iconst (v := nI 0) hx hb d_M_does_154 (by decide) ?_
                  refine k_Vv (As := [.int (-(nI 256)), .int (nI 0)]) (rest := []) ⟨hx, hb, hml, hown, hts⟩ (c_M_shiftUp l E mo mb mm mw mh ml len en gas ctr siz hgt frm ret on ay g hg 256 0 (by omega) (by decide)) (k_cwV 2 hts t_954 t_956 t_55 t_71 t_957 (by decide +kernel) ⟨Nat.le_of_ble_eq_true rfl, Nat.le_of_ble_eq_true rfl⟩) hK hG hA hP hD hS [0, 3] rfl (by decide) 0 rfl rfl (fun _ => rfl) rfl hl.1 rfl (Nat.le_of_ble_eq_true rfl) d_M_does_155 ⟨Nat.zero_le _, Nat.zero_le _⟩ (fun u1 H locs hu1 hP hD hS => ?_)
                  have hP : va_P E.1 vwCl [(mo, .inr (8, [.int (nI len), .ref mb, .int (kb on), .int (nI en), .int (nI gas), .int (nI ctr), .int (nI siz), .int (nI hgt), .int (nI frm), .int (nI ret), .ref mm, .ref mw, .ref mh, .ref ml, .int (kb ay)])), (mb, .inl (E.2.1 0, 96, .inl (nF nb))), (mm, .inl (E.2.1 0, 160, .inl (nF mem))), (mw, .inl (E.2.1 0, 370, .inl (nF u1)))] H := hP
                  have hD : va_D A [(mo, .inr (8, [.int (nI len), .ref mb, .int (kb on), .int (nI en), .int (nI gas), .int (nI ctr), .int (nI siz), .int (nI hgt), .int (nI frm), .int (nI ret), .ref mm, .ref mw, .ref mh, .ref ml, .int (kb ay)])), (mb, .inl (E.2.1 0, 96, .inl (nF nb))), (mm, .inl (E.2.1 0, 160, .inl (nF mem))), (mw, .inl (E.2.1 0, 370, .inl (nF u1)))] := hD
                  refine lv_goto (tgt := 350) hx hb d_M_does_158 (by decide) ?_
                  exact hret _ ls _ _ (u1) d_M_does_350 (do_f (fun _ => (by rw [h123, mo_27]; exact sh_shl hu1 (by first | exact Or.inl (min_s h137) | exact Or.inr (min_b h137)) : gv u1 304 16 = m_op o (gv g 256 16) (gv g 272 16) (gv g 288 16)).trans (mr_op (by omega))) hu1.1 hu1.2.1) (by rw [← mm_81 (o := o) (A := gv g 256 16) (B := gv g 272 16) (by omega) (by omega)]; exact hP) hS
            · refine lv_aload_n hx hb d_M_does_80 rfl (lv_at hl 0 rfl) ?_
              refine lv_sipush (v := nI 304) hx hb d_M_does_81 (by decide) ?_
              refine lv_aload_n hx hb d_M_does_84 rfl (lv_at hl 0 rfl) ?_
              refine lv_sipush (v := nI 256) hx hb d_M_does_85 (by decide) ?_
              refine k_Vp (As := [.int (nI 256)]) (rest := [.int (nI 304), .ref mo]) ⟨hx, hb, hml, hown, hts⟩ (c_M_small l E mo mb mm mw mh ml len en gas ctr siz hgt frm ret on ay g hg 256 (by decide)) (k_cwV 1 hts t_857 t_859 t_32 t_71 t_860 (by decide +kernel) ⟨Nat.le_of_ble_eq_true rfl, Nat.le_of_ble_eq_true rfl⟩) hK hG hA hP hD hS [0, 3] rfl (by decide) 0 rfl rfl rfl hl.1 rfl (Nat.le_of_ble_eq_true rfl) d_M_does_88 ⟨Nat.zero_le _, Nat.zero_le _⟩ (fun r88 hu88 => ?_)
              subst hu88
              refine lv_bipush (v := nI 31) hx hb d_M_does_91 (by decide) ?_
              refine kn_le (tgt := 100) hx hb (by omega) (by omega) d_M_does_93 (by decide) (fun h93 => ?_) (fun h93 => ?_)
              · refine lv_aload_n hx hb d_M_does_100 rfl (lv_at hl 0 rfl) ?_
                refine lv_sipush (v := nI 272) hx hb d_M_does_101 (by decide) ?_
                refine lv_aload_n hx hb d_M_does_104 rfl (lv_at hl 0 rfl) ?_
                refine lv_sipush (v := nI 256) hx hb d_M_does_105 (by decide) ?_
                refine k_Vp (As := [.int (nI 256)]) (rest := [.int (nI 272), .ref mo, .int (nI 304), .ref mo]) ⟨hx, hb, hml, hown, hts⟩ (c_M_small l E mo mb mm mw mh ml len en gas ctr siz hgt frm ret on ay g hg 256 (by decide)) (k_cwV 1 hts t_857 t_859 t_32 t_71 t_860 (by decide +kernel) ⟨Nat.le_of_ble_eq_true rfl, Nat.le_of_ble_eq_true rfl⟩) hK hG hA hP hD hS [0, 3] rfl (by decide) 0 rfl rfl rfl hl.1 rfl (Nat.le_of_ble_eq_true rfl) d_M_does_108 ⟨Nat.zero_le _, Nat.zero_le _⟩ (fun r108 hu108 => ?_)
                subst hu108
                refine k_Vp (As := [.int (nI 272), .int (nI (min (gv g 256 16) 65535))]) (rest := [.int (nI 304), .ref mo]) ⟨hx, hb, hml, hown, hts⟩ (c_M_byteOf l E mo mb mm mw mh ml len en gas ctr siz hgt frm ret on ay g hg 272 (min (gv g 256 16) 65535) (by decide) (by omega)) (k_cwV 2 hts t_950 t_952 t_54 t_71 t_953 (by decide +kernel) ⟨Nat.le_of_ble_eq_true rfl, Nat.le_of_ble_eq_true rfl⟩) hK hG hA hP hD hS [0, 3] rfl (by decide) 0 rfl rfl rfl hl.1 rfl (Nat.le_of_ble_eq_true rfl) d_M_does_111 ⟨Nat.zero_le _, Nat.zero_le _⟩ (fun r111 hu111 => ?_)
                subst hu111
                have hnv : (m_byte (min (gv g 256 16) 65535) (gv g 272 16)) < 2147483648 := (Nat.lt_trans (byte_b _ _) (by decide))
                refine k_Vv (As := [.int (nI 304), .int (nI (m_byte (min (gv g 256 16) 65535) (gv g 272 16)))]) (rest := []) ⟨hx, hb, hml, hown, hts⟩ (c_M_number l E mo mb mm mw mh ml len en gas ctr siz hgt frm ret on ay g hg 304 (m_byte (min (gv g 256 16) 65535) (gv g 272 16)) (by decide) hnv) (k_cwV 2 hts t_942 t_944 t_52 t_71 t_945 (by decide +kernel) ⟨Nat.le_of_ble_eq_true rfl, Nat.le_of_ble_eq_true rfl⟩) hK hG hA hP hD hS [0, 3] rfl (by decide) 0 rfl rfl (fun _ => rfl) rfl hl.1 rfl (Nat.le_of_ble_eq_true rfl) d_M_does_114 ⟨Nat.zero_le _, Nat.zero_le _⟩ (fun u1 H locs hu1 hP hD hS => ?_)
                have hP : va_P E.1 vwCl [(mo, .inr (8, [.int (nI len), .ref mb, .int (kb on), .int (nI en), .int (nI gas), .int (nI ctr), .int (nI siz), .int (nI hgt), .int (nI frm), .int (nI ret), .ref mm, .ref mw, .ref mh, .ref ml, .int (kb ay)])), (mb, .inl (E.2.1 0, 96, .inl (nF nb))), (mm, .inl (E.2.1 0, 160, .inl (nF mem))), (mw, .inl (E.2.1 0, 370, .inl (nF (nmb g 304 (m_byte (min (gv g 256 16) 65535) (gv g 272 16))))))] H := hP
                have hD : va_D A [(mo, .inr (8, [.int (nI len), .ref mb, .int (kb on), .int (nI en), .int (nI gas), .int (nI ctr), .int (nI siz), .int (nI hgt), .int (nI frm), .int (nI ret), .ref mm, .ref mw, .ref mh, .ref ml, .int (kb ay)])), (mb, .inl (E.2.1 0, 96, .inl (nF nb))), (mm, .inl (E.2.1 0, 160, .inl (nF mem))), (mw, .inl (E.2.1 0, 370, .inl (nF (nmb g 304 (m_byte (min (gv g 256 16) 65535) (gv g 272 16))))))] := hD
                refine lv_goto (tgt := 350) hx hb d_M_does_117 (by decide) ?_
                exact hret _ ls _ _ (nmb g 304 (m_byte (min (gv g 256 16) 65535) (gv g 272 16))) d_M_does_350 (do_n hg (Nat.lt_trans hnv (by decide)) ((by rw [h77, mo_26]; first | exact byt_min h93 | exact byt_big h93 : m_byte (min (gv g 256 16) 65535) (gv g 272 16) = m_op o (gv g 256 16) (gv g 272 16) (gv g 288 16)).trans (mr_op (by omega)))) (by rw [← mm_81 (o := o) (A := gv g 256 16) (B := gv g 272 16) (by omega) (by omega)]; exact hP) hS
              · refine lv_iconst (v := nI 0) hx hb d_M_does_96 (by decide) ?_
                refine lv_goto (tgt := 114) hx hb d_M_does_97 (by decide) ?_
                have hnv : 0 < 2147483648 := (by omega)
                refine k_Vv (As := [.int (nI 304), .int (nI 0)]) (rest := []) ⟨hx, hb, hml, hown, hts⟩ (c_M_number l E mo mb mm mw mh ml len en gas ctr siz hgt frm ret on ay g hg 304 0 (by decide) hnv) (k_cwV 2 hts t_942 t_944 t_52 t_71 t_945 (by decide +kernel) ⟨Nat.le_of_ble_eq_true rfl, Nat.le_of_ble_eq_true rfl⟩) hK hG hA hP hD hS [0, 3] rfl (by decide) 0 rfl rfl (fun _ => rfl) rfl hl.1 rfl (Nat.le_of_ble_eq_true rfl) d_M_does_114 ⟨Nat.zero_le _, Nat.zero_le _⟩ (fun u1 H locs hu1 hP hD hS => ?_)
                have hP : va_P E.1 vwCl [(mo, .inr (8, [.int (nI len), .ref mb, .int (kb on), .int (nI en), .int (nI gas), .int (nI ctr), .int (nI siz), .int (nI hgt), .int (nI frm), .int (nI ret), .ref mm, .ref mw, .ref mh, .ref ml, .int (kb ay)])), (mb, .inl (E.2.1 0, 96, .inl (nF nb))), (mm, .inl (E.2.1 0, 160, .inl (nF mem))), (mw, .inl (E.2.1 0, 370, .inl (nF (nmb g 304 0))))] H := hP
                have hD : va_D A [(mo, .inr (8, [.int (nI len), .ref mb, .int (kb on), .int (nI en), .int (nI gas), .int (nI ctr), .int (nI siz), .int (nI hgt), .int (nI frm), .int (nI ret), .ref mm, .ref mw, .ref mh, .ref ml, .int (kb ay)])), (mb, .inl (E.2.1 0, 96, .inl (nF nb))), (mm, .inl (E.2.1 0, 160, .inl (nF mem))), (mw, .inl (E.2.1 0, 370, .inl (nF (nmb g 304 0))))] := hD
                refine lv_goto (tgt := 350) hx hb d_M_does_117 (by decide) ?_
                exact hret _ ls _ _ (nmb g 304 0) d_M_does_350 (do_n hg (Nat.lt_trans hnv (by decide)) ((by rw [h77, mo_26]; first | exact byt_min h93 | exact byt_big h93 : 0 = m_op o (gv g 256 16) (gv g 272 16) (gv g 288 16)).trans (mr_op (by omega)))) (by rw [← mm_81 (o := o) (A := gv g 256 16) (B := gv g 272 16) (by omega) (by omega)]; exact hP) hS
          · refine lv_aload_n hx hb d_M_does_66 rfl (lv_at hl 0 rfl) ?_
            refine lv_iload_n hx hb d_M_does_67 rfl (lv_at hl 1 rfl) ?_
            refine k_Vv (As := [.int (nI o)]) (rest := []) ⟨hx, hb, hml, hown, hts⟩ (c_M_joins l E mo mb mm mw mh ml len en gas ctr siz hgt frm ret on ay g hg o (by omega)) (k_cwV 1 hts t_946 t_948 t_53 t_71 t_949 (by decide +kernel) ⟨Nat.le_of_ble_eq_true rfl, Nat.le_of_ble_eq_true rfl⟩) hK hG hA hP hD hS [0, 3] rfl (by decide) 0 rfl rfl (fun _ => rfl) rfl hl.1 rfl (Nat.le_of_ble_eq_true rfl) d_M_does_68 ⟨Nat.zero_le _, Nat.zero_le _⟩ (fun u1 H locs hu1 hP hD hS => ?_)
            have hP : va_P E.1 vwCl [(mo, .inr (8, [.int (nI len), .ref mb, .int (kb on), .int (nI en), .int (nI gas), .int (nI ctr), .int (nI siz), .int (nI hgt), .int (nI frm), .int (nI ret), .ref mm, .ref mw, .ref mh, .ref ml, .int (kb ay)])), (mb, .inl (E.2.1 0, 96, .inl (nF nb))), (mm, .inl (E.2.1 0, 160, .inl (nF mem))), (mw, .inl (E.2.1 0, 370, .inl (nF u1)))] H := hP
            have hD : va_D A [(mo, .inr (8, [.int (nI len), .ref mb, .int (kb on), .int (nI en), .int (nI gas), .int (nI ctr), .int (nI siz), .int (nI hgt), .int (nI frm), .int (nI ret), .ref mm, .ref mw, .ref mh, .ref ml, .int (kb ay)])), (mb, .inl (E.2.1 0, 96, .inl (nF nb))), (mm, .inl (E.2.1 0, 160, .inl (nF mem))), (mw, .inl (E.2.1 0, 370, .inl (nF u1)))] := hD
            refine lv_goto (tgt := 350) hx hb d_M_does_71 (by decide) ?_
            exact hret _ ls _ _ (u1) d_M_does_350 (do_f (fun _ => (hu1.1 _).trans (mr_op (by omega))) hu1.2.1 hu1.2.2) (by rw [← mm_81 (o := o) (A := gv g 256 16) (B := gv g 272 16) (by omega) (by omega)]; exact hP) hS
      · refine lv_iload_n hx hb d_M_does_25 rfl (lv_at hl 1 rfl) ?_
        refine lv_bipush (v := nI 21) hx hb d_M_does_26 (by decide) ?_
        refine kn_gt (tgt := 54) hx hb (by omega) (by omega) d_M_does_28 (by decide) (fun h28 => ?_) (fun h28 => ?_)
        · refine lv_iload_n hx hb d_M_does_54 rfl (lv_at hl 1 rfl) ?_
          refine lv_bipush (v := nI 22) hx hb d_M_does_55 (by decide) ?_
          refine kn_lt (tgt := 74) hx hb (by omega) (by omega) d_M_does_57 (by decide) (fun h57 => ?_) (fun h57 => ?_)
          · refine lv_iload_n hx hb d_M_does_74 rfl (lv_at hl 1 rfl) ?_
            refine lv_bipush (v := nI 26) hx hb d_M_does_75 (by decide) ?_
            refine kn_ne (tgt := 120) hx hb (by omega) (by omega) d_M_does_77 (by decide) (fun h77 => ?_) (fun h77 => ?_)
            · refine lv_iload_n hx hb d_M_does_120 rfl (lv_at hl 1 rfl) ?_
              refine lv_bipush (v := nI 27) hx hb d_M_does_121 (by decide) ?_
              refine kn_ne (tgt := 161) hx hb (by omega) (by omega) d_M_does_123 (by decide) (fun h123 => ?_) (fun h123 => ?_)
              · refine lv_iload_n hx hb d_M_does_161 rfl (lv_at hl 1 rfl) ?_
                refine lv_bipush (v := nI 28) hx hb d_M_does_162 (by decide) ?_
                refine kn_ne (tgt := 201) hx hb (by omega) (by omega) d_M_does_164 (by decide) (fun h164 => ?_) (fun h164 => ?_)
                · refine lv_iload_n hx hb d_M_does_201 rfl (lv_at hl 1 rfl) ?_
                  refine lv_bipush (v := nI 29) hx hb d_M_does_202 (by decide) ?_
                  refine kn_ne (tgt := 255) hx hb (by omega) (by omega) d_M_does_204 (by decide) (fun h204 => ?_) (fun h204 => ?_)
                  · refine lv_iload_n hx hb d_M_does_255 rfl (lv_at hl 1 rfl) ?_
                    refine lv_bipush (v := nI 81) hx hb d_M_does_256 (by decide) ?_
                    refine kn_lt (tgt := 275) hx hb (by omega) (by omega) d_M_does_258 (by decide) (fun h258 => ?_) (fun h258 => ?_)
                    · refine lv_iload_n hx hb d_M_does_275 rfl (lv_at hl 1 rfl) ?_
                      refine lv_bipush (v := nI 88) hx hb d_M_does_276 (by decide) ?_
                      refine kn_ne (tgt := 295) hx hb (by omega) (by omega) d_M_does_278 (by decide) (fun h278 => ?_) (fun h278 => ?_)
                      · refine lv_iload_n hx hb d_M_does_295 rfl (lv_at hl 1 rfl) ?_
                        refine lv_bipush (v := nI 89) hx hb d_M_does_296 (by decide) ?_
                        refine kn_ne (tgt := 315) hx hb (by omega) (by omega) d_M_does_298 (by decide) (fun h298 => ?_) (fun h298 => ?_)
                        · refine lv_iload_n hx hb d_M_does_315 rfl (lv_at hl 1 rfl) ?_
                          refine lv_bipush (v := nI 90) hx hb d_M_does_316 (by decide) ?_
                          refine kn_ne (tgt := 335) hx hb (by omega) (by omega) d_M_does_318 (by decide) (fun h318 => ?_) (fun h318 => ?_)
                          · refine lv_iload_n hx hb d_M_does_335 rfl (lv_at hl 1 rfl) ?_
                            refine k_Sp (As := [.int (nI o)]) (rest := []) ⟨hx, hb, hml, hown, hts⟩ (c_M_hasNumber l E o (by omega)) (k_cwS 1 hts t_816 t_817 t_71 t_818 (by decide +kernel) ⟨Nat.le_of_ble_eq_true rfl, Nat.le_of_ble_eq_true rfl⟩) hK hG hA hP hD hS [] rfl (by decide) rfl hl.1 rfl (Nat.le_of_ble_eq_true rfl) d_M_does_336 ⟨Nat.zero_le _, Nat.zero_le _⟩ (fun r336 hu336 => ?_)
                            subst hu336
                            refine lv_if_eq (tgt := 350) hx hb d_M_does_339 (by decide) (fun h339 => ?_) (fun h339 => ?_)
                            · have hq := of_decide_eq_false (kb_0.mp h339)
                              exact hret _ ls _ _ (g) d_M_does_350 (do_0 hg (mg_0 hk (by omega) (by omega) (by omega) (by omega))) (by rw [← mm_81 (o := o) (A := gv g 256 16) (B := gv g 272 16) (by omega) (by omega)]; exact hP) hS
                            · have hq := of_decide_eq_true (kb_n0 h339)
                              refine lv_aload_n hx hb d_M_does_342 rfl (lv_at hl 0 rfl) ?_
                              refine lv_iload_n hx hb d_M_does_343 rfl (lv_at hl 1 rfl) ?_
                              refine lv_bipush (v := nI 95) hx hb d_M_does_344 (by decide) ?_
                              refine lv_isub hx hb d_M_does_346 ?_
                              refine k_top (pk_sub (by omega)) ?_
                              refine k_Vv (As := [.int (nI (o - 95))]) (rest := []) ⟨hx, hb, hml, hown, hts⟩ (c_M_reads l E mo mb mm mw mh ml len en gas ctr siz hgt frm ret on ay g hg nb bb okb (o - 95) (by omega) hc) (k_cwV 1 hts t_962 t_964 t_57 t_71 t_965 (by decide +kernel) ⟨Nat.le_of_ble_eq_true rfl, Nat.le_of_ble_eq_true rfl⟩) hK hG hA hP hD hS [0, 1, 3] rfl (by decide) 0 rfl rfl (fun _ => rfl) rfl hl.1 rfl (Nat.le_of_ble_eq_true rfl) d_M_does_347 ⟨Nat.zero_le _, Nat.zero_le _⟩ (fun u1 H locs hu1 hP hD hS => ?_)
                              have hP : va_P E.1 vwCl [(mo, .inr (8, [.int (nI len), .ref mb, .int (kb on), .int (nI en), .int (nI gas), .int (nI ctr), .int (nI siz), .int (nI hgt), .int (nI frm), .int (nI ret), .ref mm, .ref mw, .ref mh, .ref ml, .int (kb ay)])), (mb, .inl (E.2.1 0, 96, .inl (nF nb))), (mm, .inl (E.2.1 0, 160, .inl (nF mem))), (mw, .inl (E.2.1 0, 370, .inl (nF u1)))] H := hP
                              have hD : va_D A [(mo, .inr (8, [.int (nI len), .ref mb, .int (kb on), .int (nI en), .int (nI gas), .int (nI ctr), .int (nI siz), .int (nI hgt), .int (nI frm), .int (nI ret), .ref mm, .ref mw, .ref mh, .ref ml, .int (kb ay)])), (mb, .inl (E.2.1 0, 96, .inl (nF nb))), (mm, .inl (E.2.1 0, 160, .inl (nF mem))), (mw, .inl (E.2.1 0, 370, .inl (nF u1)))] := hD
                              exact hret _ ls _ _ (u1) d_M_does_350 (do_f (fun _ => hu1.1.trans (mr_num hq)) hu1.2.1 hu1.2.2) (by rw [← mm_81 (o := o) (A := gv g 256 16) (B := gv g 272 16) (by omega) (by omega)]; exact hP) hS
                          · refine lv_aload_n hx hb d_M_does_321 rfl (lv_at hl 0 rfl) ?_
                            refine lv_sipush (v := nI 304) hx hb d_M_does_322 (by decide) ?_
                            refine lv_aload_n hx hb d_M_does_325 rfl (lv_at hl 0 rfl) ?_
                            refine va_get (D := E.1) (ci := 8) (v := .int (nI gas)) (C := "WideStackModel") (T := T_M) (N := 15) hx hb hts in_M hown hK hP 0 rfl rfl 4 (by decide) (hts _ t_751) (fun _ h9 => h9) rfl d_M_does_326 ?_
                            have hnv : gas < 2147483648 := (by omega)
                            refine k_Vv (As := [.int (nI 304), .int (nI gas)]) (rest := []) ⟨hx, hb, hml, hown, hts⟩ (c_M_number l E mo mb mm mw mh ml len en gas ctr siz hgt frm ret on ay g hg 304 gas (by decide) hnv) (k_cwV 2 hts t_942 t_944 t_52 t_71 t_945 (by decide +kernel) ⟨Nat.le_of_ble_eq_true rfl, Nat.le_of_ble_eq_true rfl⟩) hK hG hA hP hD hS [0, 3] rfl (by decide) 0 rfl rfl (fun _ => rfl) rfl hl.1 rfl (Nat.le_of_ble_eq_true rfl) d_M_does_329 ⟨Nat.zero_le _, Nat.zero_le _⟩ (fun u1 H locs hu1 hP hD hS => ?_)
                            have hP : va_P E.1 vwCl [(mo, .inr (8, [.int (nI len), .ref mb, .int (kb on), .int (nI en), .int (nI gas), .int (nI ctr), .int (nI siz), .int (nI hgt), .int (nI frm), .int (nI ret), .ref mm, .ref mw, .ref mh, .ref ml, .int (kb ay)])), (mb, .inl (E.2.1 0, 96, .inl (nF nb))), (mm, .inl (E.2.1 0, 160, .inl (nF mem))), (mw, .inl (E.2.1 0, 370, .inl (nF (nmb g 304 gas))))] H := hP
                            have hD : va_D A [(mo, .inr (8, [.int (nI len), .ref mb, .int (kb on), .int (nI en), .int (nI gas), .int (nI ctr), .int (nI siz), .int (nI hgt), .int (nI frm), .int (nI ret), .ref mm, .ref mw, .ref mh, .ref ml, .int (kb ay)])), (mb, .inl (E.2.1 0, 96, .inl (nF nb))), (mm, .inl (E.2.1 0, 160, .inl (nF mem))), (mw, .inl (E.2.1 0, 370, .inl (nF (nmb g 304 gas))))] := hD
                            refine lv_goto (tgt := 350) hx hb d_M_does_332 (by decide) ?_
                            exact hret _ ls _ _ (nmb g 304 gas) d_M_does_350 (do_n hg (by omega) (mr_90 h318)) (by rw [← mm_81 (o := o) (A := gv g 256 16) (B := gv g 272 16) (by omega) (by omega)]; exact hP) hS
                        · refine lv_aload_n hx hb d_M_does_301 rfl (lv_at hl 0 rfl) ?_
                          refine lv_sipush (v := nI 304) hx hb d_M_does_302 (by decide) ?_
                          refine lv_aload_n hx hb d_M_does_305 rfl (lv_at hl 0 rfl) ?_
                          refine va_get (D := E.1) (ci := 8) (v := .int (nI siz)) (C := "WideStackModel") (T := T_M) (N := 15) hx hb hts in_M hown hK hP 0 rfl rfl 6 (by decide) (hts _ t_753) (fun _ h9 => h9) rfl d_M_does_306 ?_
                          have hnv : siz < 2147483648 := (by omega)
                          refine k_Vv (As := [.int (nI 304), .int (nI siz)]) (rest := []) ⟨hx, hb, hml, hown, hts⟩ (c_M_number l E mo mb mm mw mh ml len en gas ctr siz hgt frm ret on ay g hg 304 siz (by decide) hnv) (k_cwV 2 hts t_942 t_944 t_52 t_71 t_945 (by decide +kernel) ⟨Nat.le_of_ble_eq_true rfl, Nat.le_of_ble_eq_true rfl⟩) hK hG hA hP hD hS [0, 3] rfl (by decide) 0 rfl rfl (fun _ => rfl) rfl hl.1 rfl (Nat.le_of_ble_eq_true rfl) d_M_does_309 ⟨Nat.zero_le _, Nat.zero_le _⟩ (fun u1 H locs hu1 hP hD hS => ?_)
                          have hP : va_P E.1 vwCl [(mo, .inr (8, [.int (nI len), .ref mb, .int (kb on), .int (nI en), .int (nI gas), .int (nI ctr), .int (nI siz), .int (nI hgt), .int (nI frm), .int (nI ret), .ref mm, .ref mw, .ref mh, .ref ml, .int (kb ay)])), (mb, .inl (E.2.1 0, 96, .inl (nF nb))), (mm, .inl (E.2.1 0, 160, .inl (nF mem))), (mw, .inl (E.2.1 0, 370, .inl (nF (nmb g 304 siz))))] H := hP
                          have hD : va_D A [(mo, .inr (8, [.int (nI len), .ref mb, .int (kb on), .int (nI en), .int (nI gas), .int (nI ctr), .int (nI siz), .int (nI hgt), .int (nI frm), .int (nI ret), .ref mm, .ref mw, .ref mh, .ref ml, .int (kb ay)])), (mb, .inl (E.2.1 0, 96, .inl (nF nb))), (mm, .inl (E.2.1 0, 160, .inl (nF mem))), (mw, .inl (E.2.1 0, 370, .inl (nF (nmb g 304 siz))))] := hD
                          refine lv_goto (tgt := 350) hx hb d_M_does_312 (by decide) ?_
                          exact hret _ ls _ _ (nmb g 304 siz) d_M_does_350 (do_n hg (by omega) (mr_89 h298)) (by rw [← mm_81 (o := o) (A := gv g 256 16) (B := gv g 272 16) (by omega) (by omega)]; exact hP) hS
                      · refine lv_aload_n hx hb d_M_does_281 rfl (lv_at hl 0 rfl) ?_
                        refine lv_sipush (v := nI 304) hx hb d_M_does_282 (by decide) ?_
                        refine lv_aload_n hx hb d_M_does_285 rfl (lv_at hl 0 rfl) ?_
                        refine va_get (D := E.1) (ci := 8) (v := .int (nI ctr)) (C := "WideStackModel") (T := T_M) (N := 15) hx hb hts in_M hown hK hP 0 rfl rfl 5 (by decide) (hts _ t_752) (fun _ h9 => h9) rfl d_M_does_286 ?_
                        have hnv : ctr < 2147483648 := (by omega)
                        refine k_Vv (As := [.int (nI 304), .int (nI ctr)]) (rest := []) ⟨hx, hb, hml, hown, hts⟩ (c_M_number l E mo mb mm mw mh ml len en gas ctr siz hgt frm ret on ay g hg 304 ctr (by decide) hnv) (k_cwV 2 hts t_942 t_944 t_52 t_71 t_945 (by decide +kernel) ⟨Nat.le_of_ble_eq_true rfl, Nat.le_of_ble_eq_true rfl⟩) hK hG hA hP hD hS [0, 3] rfl (by decide) 0 rfl rfl (fun _ => rfl) rfl hl.1 rfl (Nat.le_of_ble_eq_true rfl) d_M_does_289 ⟨Nat.zero_le _, Nat.zero_le _⟩ (fun u1 H locs hu1 hP hD hS => ?_)
                        have hP : va_P E.1 vwCl [(mo, .inr (8, [.int (nI len), .ref mb, .int (kb on), .int (nI en), .int (nI gas), .int (nI ctr), .int (nI siz), .int (nI hgt), .int (nI frm), .int (nI ret), .ref mm, .ref mw, .ref mh, .ref ml, .int (kb ay)])), (mb, .inl (E.2.1 0, 96, .inl (nF nb))), (mm, .inl (E.2.1 0, 160, .inl (nF mem))), (mw, .inl (E.2.1 0, 370, .inl (nF (nmb g 304 ctr))))] H := hP
                        have hD : va_D A [(mo, .inr (8, [.int (nI len), .ref mb, .int (kb on), .int (nI en), .int (nI gas), .int (nI ctr), .int (nI siz), .int (nI hgt), .int (nI frm), .int (nI ret), .ref mm, .ref mw, .ref mh, .ref ml, .int (kb ay)])), (mb, .inl (E.2.1 0, 96, .inl (nF nb))), (mm, .inl (E.2.1 0, 160, .inl (nF mem))), (mw, .inl (E.2.1 0, 370, .inl (nF (nmb g 304 ctr))))] := hD
                        refine lv_goto (tgt := 350) hx hb d_M_does_292 (by decide) ?_
                        exact hret _ ls _ _ (nmb g 304 ctr) d_M_does_350 (do_n hg (by omega) (mr_88 h278)) (by rw [← mm_81 (o := o) (A := gv g 256 16) (B := gv g 272 16) (by omega) (by omega)]; exact hP) hS
                    · refine lv_iload_n hx hb d_M_does_261 rfl (lv_at hl 1 rfl) ?_
                      refine lv_bipush (v := nI 83) hx hb d_M_does_262 (by decide) ?_
                      refine kn_gt (tgt := 275) hx hb (by omega) (by omega) d_M_does_264 (by decide) (fun h264 => ?_) (fun h264 => ?_)
                      · refine lv_iload_n hx hb d_M_does_275 rfl (lv_at hl 1 rfl) ?_
                        refine lv_bipush (v := nI 88) hx hb d_M_does_276 (by decide) ?_
                        refine kn_ne (tgt := 295) hx hb (by omega) (by omega) d_M_does_278 (by decide) (fun h278 => ?_) (fun h278 => ?_)
                        · refine lv_iload_n hx hb d_M_does_295 rfl (lv_at hl 1 rfl) ?_
                          refine lv_bipush (v := nI 89) hx hb d_M_does_296 (by decide) ?_
                          refine kn_ne (tgt := 315) hx hb (by omega) (by omega) d_M_does_298 (by decide) (fun h298 => ?_) (fun h298 => ?_)
                          · refine lv_iload_n hx hb d_M_does_315 rfl (lv_at hl 1 rfl) ?_
                            refine lv_bipush (v := nI 90) hx hb d_M_does_316 (by decide) ?_
                            refine kn_ne (tgt := 335) hx hb (by omega) (by omega) d_M_does_318 (by decide) (fun h318 => ?_) (fun h318 => ?_)
                            · refine lv_iload_n hx hb d_M_does_335 rfl (lv_at hl 1 rfl) ?_
                              refine k_Sp (As := [.int (nI o)]) (rest := []) ⟨hx, hb, hml, hown, hts⟩ (c_M_hasNumber l E o (by omega)) (k_cwS 1 hts t_816 t_817 t_71 t_818 (by decide +kernel) ⟨Nat.le_of_ble_eq_true rfl, Nat.le_of_ble_eq_true rfl⟩) hK hG hA hP hD hS [] rfl (by decide) rfl hl.1 rfl (Nat.le_of_ble_eq_true rfl) d_M_does_336 ⟨Nat.zero_le _, Nat.zero_le _⟩ (fun r336 hu336 => ?_)
                              subst hu336
                              refine lv_if_eq (tgt := 350) hx hb d_M_does_339 (by decide) (fun h339 => ?_) (fun h339 => ?_)
                              · have hq := of_decide_eq_false (kb_0.mp h339)
                                exact hret _ ls _ _ (g) d_M_does_350 (do_0 hg (mg_0 hk (by omega) (by omega) (by omega) (by omega))) (by rw [← mm_81 (o := o) (A := gv g 256 16) (B := gv g 272 16) (by omega) (by omega)]; exact hP) hS
                              · have hq := of_decide_eq_true (kb_n0 h339)
                                refine lv_aload_n hx hb d_M_does_342 rfl (lv_at hl 0 rfl) ?_
                                refine lv_iload_n hx hb d_M_does_343 rfl (lv_at hl 1 rfl) ?_
                                refine lv_bipush (v := nI 95) hx hb d_M_does_344 (by decide) ?_
                                refine lv_isub hx hb d_M_does_346 ?_
                                refine k_top (pk_sub (by omega)) ?_
                                refine k_Vv (As := [.int (nI (o - 95))]) (rest := []) ⟨hx, hb, hml, hown, hts⟩ (c_M_reads l E mo mb mm mw mh ml len en gas ctr siz hgt frm ret on ay g hg nb bb okb (o - 95) (by omega) hc) (k_cwV 1 hts t_962 t_964 t_57 t_71 t_965 (by decide +kernel) ⟨Nat.le_of_ble_eq_true rfl, Nat.le_of_ble_eq_true rfl⟩) hK hG hA hP hD hS [0, 1, 3] rfl (by decide) 0 rfl rfl (fun _ => rfl) rfl hl.1 rfl (Nat.le_of_ble_eq_true rfl) d_M_does_347 ⟨Nat.zero_le _, Nat.zero_le _⟩ (fun u1 H locs hu1 hP hD hS => ?_)
                                have hP : va_P E.1 vwCl [(mo, .inr (8, [.int (nI len), .ref mb, .int (kb on), .int (nI en), .int (nI gas), .int (nI ctr), .int (nI siz), .int (nI hgt), .int (nI frm), .int (nI ret), .ref mm, .ref mw, .ref mh, .ref ml, .int (kb ay)])), (mb, .inl (E.2.1 0, 96, .inl (nF nb))), (mm, .inl (E.2.1 0, 160, .inl (nF mem))), (mw, .inl (E.2.1 0, 370, .inl (nF u1)))] H := hP
                                have hD : va_D A [(mo, .inr (8, [.int (nI len), .ref mb, .int (kb on), .int (nI en), .int (nI gas), .int (nI ctr), .int (nI siz), .int (nI hgt), .int (nI frm), .int (nI ret), .ref mm, .ref mw, .ref mh, .ref ml, .int (kb ay)])), (mb, .inl (E.2.1 0, 96, .inl (nF nb))), (mm, .inl (E.2.1 0, 160, .inl (nF mem))), (mw, .inl (E.2.1 0, 370, .inl (nF u1)))] := hD
                                exact hret _ ls _ _ (u1) d_M_does_350 (do_f (fun _ => hu1.1.trans (mr_num hq)) hu1.2.1 hu1.2.2) (by rw [← mm_81 (o := o) (A := gv g 256 16) (B := gv g 272 16) (by omega) (by omega)]; exact hP) hS
                            · refine lv_aload_n hx hb d_M_does_321 rfl (lv_at hl 0 rfl) ?_
                              refine lv_sipush (v := nI 304) hx hb d_M_does_322 (by decide) ?_
                              refine lv_aload_n hx hb d_M_does_325 rfl (lv_at hl 0 rfl) ?_
                              refine va_get (D := E.1) (ci := 8) (v := .int (nI gas)) (C := "WideStackModel") (T := T_M) (N := 15) hx hb hts in_M hown hK hP 0 rfl rfl 4 (by decide) (hts _ t_751) (fun _ h9 => h9) rfl d_M_does_326 ?_
                              have hnv : gas < 2147483648 := (by omega)
                              refine k_Vv (As := [.int (nI 304), .int (nI gas)]) (rest := []) ⟨hx, hb, hml, hown, hts⟩ (c_M_number l E mo mb mm mw mh ml len en gas ctr siz hgt frm ret on ay g hg 304 gas (by decide) hnv) (k_cwV 2 hts t_942 t_944 t_52 t_71 t_945 (by decide +kernel) ⟨Nat.le_of_ble_eq_true rfl, Nat.le_of_ble_eq_true rfl⟩) hK hG hA hP hD hS [0, 3] rfl (by decide) 0 rfl rfl (fun _ => rfl) rfl hl.1 rfl (Nat.le_of_ble_eq_true rfl) d_M_does_329 ⟨Nat.zero_le _, Nat.zero_le _⟩ (fun u1 H locs hu1 hP hD hS => ?_)
                              have hP : va_P E.1 vwCl [(mo, .inr (8, [.int (nI len), .ref mb, .int (kb on), .int (nI en), .int (nI gas), .int (nI ctr), .int (nI siz), .int (nI hgt), .int (nI frm), .int (nI ret), .ref mm, .ref mw, .ref mh, .ref ml, .int (kb ay)])), (mb, .inl (E.2.1 0, 96, .inl (nF nb))), (mm, .inl (E.2.1 0, 160, .inl (nF mem))), (mw, .inl (E.2.1 0, 370, .inl (nF (nmb g 304 gas))))] H := hP
                              have hD : va_D A [(mo, .inr (8, [.int (nI len), .ref mb, .int (kb on), .int (nI en), .int (nI gas), .int (nI ctr), .int (nI siz), .int (nI hgt), .int (nI frm), .int (nI ret), .ref mm, .ref mw, .ref mh, .ref ml, .int (kb ay)])), (mb, .inl (E.2.1 0, 96, .inl (nF nb))), (mm, .inl (E.2.1 0, 160, .inl (nF mem))), (mw, .inl (E.2.1 0, 370, .inl (nF (nmb g 304 gas))))] := hD
                              refine lv_goto (tgt := 350) hx hb d_M_does_332 (by decide) ?_
                              exact hret _ ls _ _ (nmb g 304 gas) d_M_does_350 (do_n hg (by omega) (mr_90 h318)) (by rw [← mm_81 (o := o) (A := gv g 256 16) (B := gv g 272 16) (by omega) (by omega)]; exact hP) hS
                          · refine lv_aload_n hx hb d_M_does_301 rfl (lv_at hl 0 rfl) ?_
                            refine lv_sipush (v := nI 304) hx hb d_M_does_302 (by decide) ?_
                            refine lv_aload_n hx hb d_M_does_305 rfl (lv_at hl 0 rfl) ?_
                            refine va_get (D := E.1) (ci := 8) (v := .int (nI siz)) (C := "WideStackModel") (T := T_M) (N := 15) hx hb hts in_M hown hK hP 0 rfl rfl 6 (by decide) (hts _ t_753) (fun _ h9 => h9) rfl d_M_does_306 ?_
                            have hnv : siz < 2147483648 := (by omega)
                            refine k_Vv (As := [.int (nI 304), .int (nI siz)]) (rest := []) ⟨hx, hb, hml, hown, hts⟩ (c_M_number l E mo mb mm mw mh ml len en gas ctr siz hgt frm ret on ay g hg 304 siz (by decide) hnv) (k_cwV 2 hts t_942 t_944 t_52 t_71 t_945 (by decide +kernel) ⟨Nat.le_of_ble_eq_true rfl, Nat.le_of_ble_eq_true rfl⟩) hK hG hA hP hD hS [0, 3] rfl (by decide) 0 rfl rfl (fun _ => rfl) rfl hl.1 rfl (Nat.le_of_ble_eq_true rfl) d_M_does_309 ⟨Nat.zero_le _, Nat.zero_le _⟩ (fun u1 H locs hu1 hP hD hS => ?_)
                            have hP : va_P E.1 vwCl [(mo, .inr (8, [.int (nI len), .ref mb, .int (kb on), .int (nI en), .int (nI gas), .int (nI ctr), .int (nI siz), .int (nI hgt), .int (nI frm), .int (nI ret), .ref mm, .ref mw, .ref mh, .ref ml, .int (kb ay)])), (mb, .inl (E.2.1 0, 96, .inl (nF nb))), (mm, .inl (E.2.1 0, 160, .inl (nF mem))), (mw, .inl (E.2.1 0, 370, .inl (nF (nmb g 304 siz))))] H := hP
                            have hD : va_D A [(mo, .inr (8, [.int (nI len), .ref mb, .int (kb on), .int (nI en), .int (nI gas), .int (nI ctr), .int (nI siz), .int (nI hgt), .int (nI frm), .int (nI ret), .ref mm, .ref mw, .ref mh, .ref ml, .int (kb ay)])), (mb, .inl (E.2.1 0, 96, .inl (nF nb))), (mm, .inl (E.2.1 0, 160, .inl (nF mem))), (mw, .inl (E.2.1 0, 370, .inl (nF (nmb g 304 siz))))] := hD
                            refine lv_goto (tgt := 350) hx hb d_M_does_312 (by decide) ?_
                            exact hret _ ls _ _ (nmb g 304 siz) d_M_does_350 (do_n hg (by omega) (mr_89 h298)) (by rw [← mm_81 (o := o) (A := gv g 256 16) (B := gv g 272 16) (by omega) (by omega)]; exact hP) hS
                        · refine lv_aload_n hx hb d_M_does_281 rfl (lv_at hl 0 rfl) ?_
                          refine lv_sipush (v := nI 304) hx hb d_M_does_282 (by decide) ?_
                          refine lv_aload_n hx hb d_M_does_285 rfl (lv_at hl 0 rfl) ?_
                          refine va_get (D := E.1) (ci := 8) (v := .int (nI ctr)) (C := "WideStackModel") (T := T_M) (N := 15) hx hb hts in_M hown hK hP 0 rfl rfl 5 (by decide) (hts _ t_752) (fun _ h9 => h9) rfl d_M_does_286 ?_
                          have hnv : ctr < 2147483648 := (by omega)
                          refine k_Vv (As := [.int (nI 304), .int (nI ctr)]) (rest := []) ⟨hx, hb, hml, hown, hts⟩ (c_M_number l E mo mb mm mw mh ml len en gas ctr siz hgt frm ret on ay g hg 304 ctr (by decide) hnv) (k_cwV 2 hts t_942 t_944 t_52 t_71 t_945 (by decide +kernel) ⟨Nat.le_of_ble_eq_true rfl, Nat.le_of_ble_eq_true rfl⟩) hK hG hA hP hD hS [0, 3] rfl (by decide) 0 rfl rfl (fun _ => rfl) rfl hl.1 rfl (Nat.le_of_ble_eq_true rfl) d_M_does_289 ⟨Nat.zero_le _, Nat.zero_le _⟩ (fun u1 H locs hu1 hP hD hS => ?_)
                          have hP : va_P E.1 vwCl [(mo, .inr (8, [.int (nI len), .ref mb, .int (kb on), .int (nI en), .int (nI gas), .int (nI ctr), .int (nI siz), .int (nI hgt), .int (nI frm), .int (nI ret), .ref mm, .ref mw, .ref mh, .ref ml, .int (kb ay)])), (mb, .inl (E.2.1 0, 96, .inl (nF nb))), (mm, .inl (E.2.1 0, 160, .inl (nF mem))), (mw, .inl (E.2.1 0, 370, .inl (nF (nmb g 304 ctr))))] H := hP
                          have hD : va_D A [(mo, .inr (8, [.int (nI len), .ref mb, .int (kb on), .int (nI en), .int (nI gas), .int (nI ctr), .int (nI siz), .int (nI hgt), .int (nI frm), .int (nI ret), .ref mm, .ref mw, .ref mh, .ref ml, .int (kb ay)])), (mb, .inl (E.2.1 0, 96, .inl (nF nb))), (mm, .inl (E.2.1 0, 160, .inl (nF mem))), (mw, .inl (E.2.1 0, 370, .inl (nF (nmb g 304 ctr))))] := hD
                          refine lv_goto (tgt := 350) hx hb d_M_does_292 (by decide) ?_
                          exact hret _ ls _ _ (nmb g 304 ctr) d_M_does_350 (do_n hg (by omega) (mr_88 h278)) (by rw [← mm_81 (o := o) (A := gv g 256 16) (B := gv g 272 16) (by omega) (by omega)]; exact hP) hS
                      · refine lv_aload_n hx hb d_M_does_267 rfl (lv_at hl 0 rfl) ?_
                        refine lv_iload_n hx hb d_M_does_268 rfl (lv_at hl 1 rfl) ?_
                        refine k_Vv (As := [.int (nI o)]) (rest := []) ⟨hx, hb, hml, hown, hts⟩ (c_M_remembers l E mo mb mm mw mh ml len en gas ctr siz hgt frm ret on ay g hg mem hm o (by omega) hu0) (k_cwV 1 hts t_958 t_960 t_56 t_71 t_961 (by decide +kernel) ⟨Nat.le_of_ble_eq_true rfl, Nat.le_of_ble_eq_true rfl⟩) hK hG hA hP hD hS [0, 2, 3] rfl (by decide) 0 rfl rfl (fun _ => rfl) rfl hl.1 rfl (Nat.le_of_ble_eq_true rfl) d_M_does_269 ⟨Nat.zero_le _, Nat.zero_le _⟩ (fun u1 H locs hu1 hP hD hS => ?_)
                        have hP : va_P E.1 vwCl [(mo, .inr (8, [.int (nI len), .ref mb, .int (kb on), .int (nI en), .int (nI gas), .int (nI ctr), .int (nI siz), .int (nI hgt), .int (nI frm), .int (nI ret), .ref mm, .ref mw, .ref mh, .ref ml, .int (kb ay)])), (mb, .inl (E.2.1 0, 96, .inl (nF nb))), (mm, .inl (E.2.1 0, 160, .inl (nF (m_mem o (gv g 256 16) (gv g 272 16) mem)))), (mw, .inl (E.2.1 0, 370, .inl (nF u1)))] H := hP
                        have hD : va_D A [(mo, .inr (8, [.int (nI len), .ref mb, .int (kb on), .int (nI en), .int (nI gas), .int (nI ctr), .int (nI siz), .int (nI hgt), .int (nI frm), .int (nI ret), .ref mm, .ref mw, .ref mh, .ref ml, .int (kb ay)])), (mb, .inl (E.2.1 0, 96, .inl (nF nb))), (mm, .inl (E.2.1 0, 160, .inl (nF (m_mem o (gv g 256 16) (gv g 272 16) mem)))), (mw, .inl (E.2.1 0, 370, .inl (nF u1)))] := hD
                        refine lv_goto (tgt := 350) hx hb d_M_does_272 (by decide) ?_
                        exact hret _ ls _ _ (u1) d_M_does_350 (do_f (fun q => by by_cases q1 : o = 81; exact (hu1.1 q1).trans (mr_81 q1); exact absurd q (fun q => mg_83 (by omega) q)) hu1.2.1 hu1.2.2) hP hS
                  · refine lv_aload_n hx hb d_M_does_207 rfl (lv_at hl 0 rfl) ?_
                    refine lv_aload_n hx hb d_M_does_208 rfl (lv_at hl 0 rfl) ?_
                    refine lv_sipush (v := nI 256) hx hb d_M_does_209 (by decide) ?_
                    refine k_Vp (As := [.int (nI 256)]) (rest := [.ref mo]) ⟨hx, hb, hml, hown, hts⟩ (c_M_small l E mo mb mm mw mh ml len en gas ctr siz hgt frm ret on ay g hg 256 (by decide)) (k_cwV 1 hts t_857 t_859 t_32 t_71 t_860 (by decide +kernel) ⟨Nat.le_of_ble_eq_true rfl, Nat.le_of_ble_eq_true rfl⟩) hK hG hA hP hD hS [0, 3] rfl (by decide) 0 rfl rfl rfl hl.1 rfl (Nat.le_of_ble_eq_true rfl) d_M_does_212 ⟨Nat.zero_le _, Nat.zero_le _⟩ (fun r212 hu212 => ?_)
                    subst hu212
                    refine lv_sipush (v := nI 255) hx hb d_M_does_215 (by decide) ?_
                    refine kn_le (tgt := 227) hx hb (by omega) (by omega) d_M_does_218 (by decide) (fun h218 => ?_) (fun h218 => ?_)
                    · refine lv_aload_n hx hb d_M_does_227 rfl (lv_at hl 0 rfl) ?_
                      refine lv_sipush (v := nI 256) hx hb d_M_does_228 (by decide) ?_
                      refine k_Vp (As := [.int (nI 256)]) (rest := [.ref mo]) ⟨hx, hb, hml, hown, hts⟩ (c_M_small l E mo mb mm mw mh ml len en gas ctr siz hgt frm ret on ay g hg 256 (by decide)) (k_cwV 1 hts t_857 t_859 t_32 t_71 t_860 (by decide +kernel) ⟨Nat.le_of_ble_eq_true rfl, Nat.le_of_ble_eq_true rfl⟩) hK hG hA hP hD hS [0, 3] rfl (by decide) 0 rfl rfl rfl hl.1 rfl (Nat.le_of_ble_eq_true rfl) d_M_does_231 ⟨Nat.zero_le _, Nat.zero_le _⟩ (fun r231 hu231 => ?_)
                      subst hu231
                      refine lv_aload_n hx hb d_M_does_234 rfl (lv_at hl 0 rfl) ?_
                      refine lv_sipush (v := nI 272) hx hb d_M_does_235 (by decide) ?_
                      refine k_Vp (As := [.int (nI 272)]) (rest := [.int (nI (min (gv g 256 16) 65535)), .ref mo]) ⟨hx, hb, hml, hown, hts⟩ (c_M_isNegative l E mo mb mm mw mh ml len en gas ctr siz hgt frm ret on ay g hg 272 (by decide)) (k_cwV 1 hts t_922 t_924 t_47 t_71 t_925 (by decide +kernel) ⟨Nat.le_of_ble_eq_true rfl, Nat.le_of_ble_eq_true rfl⟩) hK hG hA hP hD hS [0, 3] rfl (by decide) 0 rfl rfl rfl hl.1 rfl (Nat.le_of_ble_eq_true rfl) d_M_does_238 ⟨Nat.zero_le _, Nat.zero_le _⟩ (fun r238 hu238 => ?_)
                      subst hu238
                      refine lv_if_eq (tgt := 248) hx hb d_M_does_241 (by decide) (fun h241 => ?_) (fun h241 => ?_)
                      · refine lv_iconst (v := nI 0) hx hb d_M_does_248 (by decide) ?_
                        refine k_Vv (As := [.int (nI (min (gv g 256 16) 65535)), .int (nI 0)]) (rest := []) ⟨hx, hb, hml, hown, hts⟩ (c_M_shiftDown l E mo mb mm mw mh ml len en gas ctr siz hgt frm ret on ay g hg (min (gv g 256 16) 65535) 0 (by omega) (by decide)) (k_cwV 2 hts t_954 t_956 t_55 t_71 t_957 (by decide +kernel) ⟨Nat.le_of_ble_eq_true rfl, Nat.le_of_ble_eq_true rfl⟩) hK hG hA hP hD hS [0, 3] rfl (by decide) 0 rfl rfl (fun _ => rfl) rfl hl.1 rfl (Nat.le_of_ble_eq_true rfl) d_M_does_249 ⟨Nat.zero_le _, Nat.zero_le _⟩ (fun u1 H locs hu1 hP hD hS => ?_)
                        have hP : va_P E.1 vwCl [(mo, .inr (8, [.int (nI len), .ref mb, .int (kb on), .int (nI en), .int (nI gas), .int (nI ctr), .int (nI siz), .int (nI hgt), .int (nI frm), .int (nI ret), .ref mm, .ref mw, .ref mh, .ref ml, .int (kb ay)])), (mb, .inl (E.2.1 0, 96, .inl (nF nb))), (mm, .inl (E.2.1 0, 160, .inl (nF mem))), (mw, .inl (E.2.1 0, 370, .inl (nF u1)))] H := hP
                        have hD : va_D A [(mo, .inr (8, [.int (nI len), .ref mb, .int (kb on), .int (nI en), .int (nI gas), .int (nI ctr), .int (nI siz), .int (nI hgt), .int (nI frm), .int (nI ret), .ref mm, .ref mw, .ref mh, .ref ml, .int (kb ay)])), (mb, .inl (E.2.1 0, 96, .inl (nF nb))), (mm, .inl (E.2.1 0, 160, .inl (nF mem))), (mw, .inl (E.2.1 0, 370, .inl (nF u1)))] := hD
                        refine lv_goto (tgt := 350) hx hb d_M_does_252 (by decide) ?_
                        exact hret _ ls _ _ (u1) d_M_does_350 (do_f (fun _ => (by rw [h204, mo_29]; exact sh_sar0 (gv_lt16 hg 272) (kb_0.mp h241) hu1 (by first | exact Or.inl (min_s h218) | exact Or.inr (min_b h218)) : gv u1 304 16 = m_op o (gv g 256 16) (gv g 272 16) (gv g 288 16)).trans (mr_op (by omega))) hu1.1 hu1.2.1) (by rw [← mm_81 (o := o) (A := gv g 256 16) (B := gv g 272 16) (by omega) (by omega)]; exact hP) hS
                      · refine lv_iconst (v := nI 1) hx hb d_M_does_244 (by decide) ?_
                        refine lv_goto (tgt := 249) hx hb d_M_does_245 (by decide) ?_
                        refine k_Vv (As := [.int (nI (min (gv g 256 16) 65535)), .int (nI 1)]) (rest := []) ⟨hx, hb, hml, hown, hts⟩ (c_M_shiftDown l E mo mb mm mw mh ml len en gas ctr siz hgt frm ret on ay g hg (min (gv g 256 16) 65535) 1 (by omega) (by decide)) (k_cwV 2 hts t_954 t_956 t_55 t_71 t_957 (by decide +kernel) ⟨Nat.le_of_ble_eq_true rfl, Nat.le_of_ble_eq_true rfl⟩) hK hG hA hP hD hS [0, 3] rfl (by decide) 0 rfl rfl (fun _ => rfl) rfl hl.1 rfl (Nat.le_of_ble_eq_true rfl) d_M_does_249 ⟨Nat.zero_le _, Nat.zero_le _⟩ (fun u1 H locs hu1 hP hD hS => ?_)
                        have hP : va_P E.1 vwCl [(mo, .inr (8, [.int (nI len), .ref mb, .int (kb on), .int (nI en), .int (nI gas), .int (nI ctr), .int (nI siz), .int (nI hgt), .int (nI frm), .int (nI ret), .ref mm, .ref mw, .ref mh, .ref ml, .int (kb ay)])), (mb, .inl (E.2.1 0, 96, .inl (nF nb))), (mm, .inl (E.2.1 0, 160, .inl (nF mem))), (mw, .inl (E.2.1 0, 370, .inl (nF u1)))] H := hP
                        have hD : va_D A [(mo, .inr (8, [.int (nI len), .ref mb, .int (kb on), .int (nI en), .int (nI gas), .int (nI ctr), .int (nI siz), .int (nI hgt), .int (nI frm), .int (nI ret), .ref mm, .ref mw, .ref mh, .ref ml, .int (kb ay)])), (mb, .inl (E.2.1 0, 96, .inl (nF nb))), (mm, .inl (E.2.1 0, 160, .inl (nF mem))), (mw, .inl (E.2.1 0, 370, .inl (nF u1)))] := hD
                        refine lv_goto (tgt := 350) hx hb d_M_does_252 (by decide) ?_
                        exact hret _ ls _ _ (u1) d_M_does_350 (do_f (fun _ => (by rw [h204, mo_29]; exact sh_sar1 (gv_lt16 hg 272) (kb_n0 h241) hu1 (by first | exact Or.inl (min_s h218) | exact Or.inr (min_b h218)) : gv u1 304 16 = m_op o (gv g 256 16) (gv g 272 16) (gv g 288 16)).trans (mr_op (by omega))) hu1.1 hu1.2.1) (by rw [← mm_81 (o := o) (A := gv g 256 16) (B := gv g 272 16) (by omega) (by omega)]; exact hP) hS
                    · refine lv_sipush (v := nI 256) hx hb d_M_does_221 (by decide) ?_
                      refine lv_goto (tgt := 234) hx hb d_M_does_224 (by decide) ?_
                      refine lv_aload_n hx hb d_M_does_234 rfl (lv_at hl 0 rfl) ?_
                      refine lv_sipush (v := nI 272) hx hb d_M_does_235 (by decide) ?_
                      refine k_Vp (As := [.int (nI 272)]) (rest := [.int (nI 256), .ref mo]) ⟨hx, hb, hml, hown, hts⟩ (c_M_isNegative l E mo mb mm mw mh ml len en gas ctr siz hgt frm ret on ay g hg 272 (by decide)) (k_cwV 1 hts t_922 t_924 t_47 t_71 t_925 (by decide +kernel) ⟨Nat.le_of_ble_eq_true rfl, Nat.le_of_ble_eq_true rfl⟩) hK hG hA hP hD hS [0, 3] rfl (by decide) 0 rfl rfl rfl hl.1 rfl (Nat.le_of_ble_eq_true rfl) d_M_does_238 ⟨Nat.zero_le _, Nat.zero_le _⟩ (fun r238 hu238 => ?_)
                      subst hu238
                      refine lv_if_eq (tgt := 248) hx hb d_M_does_241 (by decide) (fun h241 => ?_) (fun h241 => ?_)
                      · refine lv_iconst (v := nI 0) hx hb d_M_does_248 (by decide) ?_
                        refine k_Vv (As := [.int (nI 256), .int (nI 0)]) (rest := []) ⟨hx, hb, hml, hown, hts⟩ (c_M_shiftDown l E mo mb mm mw mh ml len en gas ctr siz hgt frm ret on ay g hg 256 0 (by omega) (by decide)) (k_cwV 2 hts t_954 t_956 t_55 t_71 t_957 (by decide +kernel) ⟨Nat.le_of_ble_eq_true rfl, Nat.le_of_ble_eq_true rfl⟩) hK hG hA hP hD hS [0, 3] rfl (by decide) 0 rfl rfl (fun _ => rfl) rfl hl.1 rfl (Nat.le_of_ble_eq_true rfl) d_M_does_249 ⟨Nat.zero_le _, Nat.zero_le _⟩ (fun u1 H locs hu1 hP hD hS => ?_)
                        have hP : va_P E.1 vwCl [(mo, .inr (8, [.int (nI len), .ref mb, .int (kb on), .int (nI en), .int (nI gas), .int (nI ctr), .int (nI siz), .int (nI hgt), .int (nI frm), .int (nI ret), .ref mm, .ref mw, .ref mh, .ref ml, .int (kb ay)])), (mb, .inl (E.2.1 0, 96, .inl (nF nb))), (mm, .inl (E.2.1 0, 160, .inl (nF mem))), (mw, .inl (E.2.1 0, 370, .inl (nF u1)))] H := hP
                        have hD : va_D A [(mo, .inr (8, [.int (nI len), .ref mb, .int (kb on), .int (nI en), .int (nI gas), .int (nI ctr), .int (nI siz), .int (nI hgt), .int (nI frm), .int (nI ret), .ref mm, .ref mw, .ref mh, .ref ml, .int (kb ay)])), (mb, .inl (E.2.1 0, 96, .inl (nF nb))), (mm, .inl (E.2.1 0, 160, .inl (nF mem))), (mw, .inl (E.2.1 0, 370, .inl (nF u1)))] := hD
                        refine lv_goto (tgt := 350) hx hb d_M_does_252 (by decide) ?_
                        exact hret _ ls _ _ (u1) d_M_does_350 (do_f (fun _ => (by rw [h204, mo_29]; exact sh_sar0 (gv_lt16 hg 272) (kb_0.mp h241) hu1 (by first | exact Or.inl (min_s h218) | exact Or.inr (min_b h218)) : gv u1 304 16 = m_op o (gv g 256 16) (gv g 272 16) (gv g 288 16)).trans (mr_op (by omega))) hu1.1 hu1.2.1) (by rw [← mm_81 (o := o) (A := gv g 256 16) (B := gv g 272 16) (by omega) (by omega)]; exact hP) hS
                      · refine lv_iconst (v := nI 1) hx hb d_M_does_244 (by decide) ?_
                        refine lv_goto (tgt := 249) hx hb d_M_does_245 (by decide) ?_
                        refine k_Vv (As := [.int (nI 256), .int (nI 1)]) (rest := []) ⟨hx, hb, hml, hown, hts⟩ (c_M_shiftDown l E mo mb mm mw mh ml len en gas ctr siz hgt frm ret on ay g hg 256 1 (by omega) (by decide)) (k_cwV 2 hts t_954 t_956 t_55 t_71 t_957 (by decide +kernel) ⟨Nat.le_of_ble_eq_true rfl, Nat.le_of_ble_eq_true rfl⟩) hK hG hA hP hD hS [0, 3] rfl (by decide) 0 rfl rfl (fun _ => rfl) rfl hl.1 rfl (Nat.le_of_ble_eq_true rfl) d_M_does_249 ⟨Nat.zero_le _, Nat.zero_le _⟩ (fun u1 H locs hu1 hP hD hS => ?_)
                        have hP : va_P E.1 vwCl [(mo, .inr (8, [.int (nI len), .ref mb, .int (kb on), .int (nI en), .int (nI gas), .int (nI ctr), .int (nI siz), .int (nI hgt), .int (nI frm), .int (nI ret), .ref mm, .ref mw, .ref mh, .ref ml, .int (kb ay)])), (mb, .inl (E.2.1 0, 96, .inl (nF nb))), (mm, .inl (E.2.1 0, 160, .inl (nF mem))), (mw, .inl (E.2.1 0, 370, .inl (nF u1)))] H := hP
                        have hD : va_D A [(mo, .inr (8, [.int (nI len), .ref mb, .int (kb on), .int (nI en), .int (nI gas), .int (nI ctr), .int (nI siz), .int (nI hgt), .int (nI frm), .int (nI ret), .ref mm, .ref mw, .ref mh, .ref ml, .int (kb ay)])), (mb, .inl (E.2.1 0, 96, .inl (nF nb))), (mm, .inl (E.2.1 0, 160, .inl (nF mem))), (mw, .inl (E.2.1 0, 370, .inl (nF u1)))] := hD
                        refine lv_goto (tgt := 350) hx hb d_M_does_252 (by decide) ?_
                        exact hret _ ls _ _ (u1) d_M_does_350 (do_f (fun _ => (by rw [h204, mo_29]; exact sh_sar1 (gv_lt16 hg 272) (kb_n0 h241) hu1 (by first | exact Or.inl (min_s h218) | exact Or.inr (min_b h218)) : gv u1 304 16 = m_op o (gv g 256 16) (gv g 272 16) (gv g 288 16)).trans (mr_op (by omega))) hu1.1 hu1.2.1) (by rw [← mm_81 (o := o) (A := gv g 256 16) (B := gv g 272 16) (by omega) (by omega)]; exact hP) hS
                · refine lv_aload_n hx hb d_M_does_167 rfl (lv_at hl 0 rfl) ?_
                  refine lv_aload_n hx hb d_M_does_168 rfl (lv_at hl 0 rfl) ?_
                  refine lv_sipush (v := nI 256) hx hb d_M_does_169 (by decide) ?_
                  refine k_Vp (As := [.int (nI 256)]) (rest := [.ref mo]) ⟨hx, hb, hml, hown, hts⟩ (c_M_small l E mo mb mm mw mh ml len en gas ctr siz hgt frm ret on ay g hg 256 (by decide)) (k_cwV 1 hts t_857 t_859 t_32 t_71 t_860 (by decide +kernel) ⟨Nat.le_of_ble_eq_true rfl, Nat.le_of_ble_eq_true rfl⟩) hK hG hA hP hD hS [0, 3] rfl (by decide) 0 rfl rfl rfl hl.1 rfl (Nat.le_of_ble_eq_true rfl) d_M_does_172 ⟨Nat.zero_le _, Nat.zero_le _⟩ (fun r172 hu172 => ?_)
                  subst hu172
                  refine lv_sipush (v := nI 255) hx hb d_M_does_175 (by decide) ?_
                  refine kn_le (tgt := 187) hx hb (by omega) (by omega) d_M_does_178 (by decide) (fun h178 => ?_) (fun h178 => ?_)
                  · refine lv_aload_n hx hb d_M_does_187 rfl (lv_at hl 0 rfl) ?_
                    refine lv_sipush (v := nI 256) hx hb d_M_does_188 (by decide) ?_
                    refine k_Vp (As := [.int (nI 256)]) (rest := [.ref mo]) ⟨hx, hb, hml, hown, hts⟩ (c_M_small l E mo mb mm mw mh ml len en gas ctr siz hgt frm ret on ay g hg 256 (by decide)) (k_cwV 1 hts t_857 t_859 t_32 t_71 t_860 (by decide +kernel) ⟨Nat.le_of_ble_eq_true rfl, Nat.le_of_ble_eq_true rfl⟩) hK hG hA hP hD hS [0, 3] rfl (by decide) 0 rfl rfl rfl hl.1 rfl (Nat.le_of_ble_eq_true rfl) d_M_does_191 ⟨Nat.zero_le _, Nat.zero_le _⟩ (fun r191 hu191 => ?_)
                    subst hu191
                    refine lv_iconst (v := nI 0) hx hb d_M_does_194 (by decide) ?_
                    refine k_Vv (As := [.int (nI (min (gv g 256 16) 65535)), .int (nI 0)]) (rest := []) ⟨hx, hb, hml, hown, hts⟩ (c_M_shiftDown l E mo mb mm mw mh ml len en gas ctr siz hgt frm ret on ay g hg (min (gv g 256 16) 65535) 0 (by omega) (by decide)) (k_cwV 2 hts t_954 t_956 t_55 t_71 t_957 (by decide +kernel) ⟨Nat.le_of_ble_eq_true rfl, Nat.le_of_ble_eq_true rfl⟩) hK hG hA hP hD hS [0, 3] rfl (by decide) 0 rfl rfl (fun _ => rfl) rfl hl.1 rfl (Nat.le_of_ble_eq_true rfl) d_M_does_195 ⟨Nat.zero_le _, Nat.zero_le _⟩ (fun u1 H locs hu1 hP hD hS => ?_)
                    have hP : va_P E.1 vwCl [(mo, .inr (8, [.int (nI len), .ref mb, .int (kb on), .int (nI en), .int (nI gas), .int (nI ctr), .int (nI siz), .int (nI hgt), .int (nI frm), .int (nI ret), .ref mm, .ref mw, .ref mh, .ref ml, .int (kb ay)])), (mb, .inl (E.2.1 0, 96, .inl (nF nb))), (mm, .inl (E.2.1 0, 160, .inl (nF mem))), (mw, .inl (E.2.1 0, 370, .inl (nF u1)))] H := hP
                    have hD : va_D A [(mo, .inr (8, [.int (nI len), .ref mb, .int (kb on), .int (nI en), .int (nI gas), .int (nI ctr), .int (nI siz), .int (nI hgt), .int (nI frm), .int (nI ret), .ref mm, .ref mw, .ref mh, .ref ml, .int (kb ay)])), (mb, .inl (E.2.1 0, 96, .inl (nF nb))), (mm, .inl (E.2.1 0, 160, .inl (nF mem))), (mw, .inl (E.2.1 0, 370, .inl (nF u1)))] := hD
                    refine lv_goto (tgt := 350) hx hb d_M_does_198 (by decide) ?_
                    exact hret _ ls _ _ (u1) d_M_does_350 (do_f (fun _ => (by rw [h164, mo_28]; exact sh_shr (gv_lt16 hg 272) hu1 (by first | exact Or.inl (min_s h178) | exact Or.inr (min_b h178)) : gv u1 304 16 = m_op o (gv g 256 16) (gv g 272 16) (gv g 288 16)).trans (mr_op (by omega))) hu1.1 hu1.2.1) (by rw [← mm_81 (o := o) (A := gv g 256 16) (B := gv g 272 16) (by omega) (by omega)]; exact hP) hS
                  · refine lv_sipush (v := nI 256) hx hb d_M_does_181 (by decide) ?_
                    refine lv_goto (tgt := 194) hx hb d_M_does_184 (by decide) ?_
                    refine lv_iconst (v := nI 0) hx hb d_M_does_194 (by decide) ?_
                    refine k_Vv (As := [.int (nI 256), .int (nI 0)]) (rest := []) ⟨hx, hb, hml, hown, hts⟩ (c_M_shiftDown l E mo mb mm mw mh ml len en gas ctr siz hgt frm ret on ay g hg 256 0 (by omega) (by decide)) (k_cwV 2 hts t_954 t_956 t_55 t_71 t_957 (by decide +kernel) ⟨Nat.le_of_ble_eq_true rfl, Nat.le_of_ble_eq_true rfl⟩) hK hG hA hP hD hS [0, 3] rfl (by decide) 0 rfl rfl (fun _ => rfl) rfl hl.1 rfl (Nat.le_of_ble_eq_true rfl) d_M_does_195 ⟨Nat.zero_le _, Nat.zero_le _⟩ (fun u1 H locs hu1 hP hD hS => ?_)
                    have hP : va_P E.1 vwCl [(mo, .inr (8, [.int (nI len), .ref mb, .int (kb on), .int (nI en), .int (nI gas), .int (nI ctr), .int (nI siz), .int (nI hgt), .int (nI frm), .int (nI ret), .ref mm, .ref mw, .ref mh, .ref ml, .int (kb ay)])), (mb, .inl (E.2.1 0, 96, .inl (nF nb))), (mm, .inl (E.2.1 0, 160, .inl (nF mem))), (mw, .inl (E.2.1 0, 370, .inl (nF u1)))] H := hP
                    have hD : va_D A [(mo, .inr (8, [.int (nI len), .ref mb, .int (kb on), .int (nI en), .int (nI gas), .int (nI ctr), .int (nI siz), .int (nI hgt), .int (nI frm), .int (nI ret), .ref mm, .ref mw, .ref mh, .ref ml, .int (kb ay)])), (mb, .inl (E.2.1 0, 96, .inl (nF nb))), (mm, .inl (E.2.1 0, 160, .inl (nF mem))), (mw, .inl (E.2.1 0, 370, .inl (nF u1)))] := hD
                    refine lv_goto (tgt := 350) hx hb d_M_does_198 (by decide) ?_
                    exact hret _ ls _ _ (u1) d_M_does_350 (do_f (fun _ => (by rw [h164, mo_28]; exact sh_shr (gv_lt16 hg 272) hu1 (by first | exact Or.inl (min_s h178) | exact Or.inr (min_b h178)) : gv u1 304 16 = m_op o (gv g 256 16) (gv g 272 16) (gv g 288 16)).trans (mr_op (by omega))) hu1.1 hu1.2.1) (by rw [← mm_81 (o := o) (A := gv g 256 16) (B := gv g 272 16) (by omega) (by omega)]; exact hP) hS
              · refine lv_aload_n hx hb d_M_does_126 rfl (lv_at hl 0 rfl) ?_
                refine lv_aload_n hx hb d_M_does_127 rfl (lv_at hl 0 rfl) ?_
                refine lv_sipush (v := nI 256) hx hb d_M_does_128 (by decide) ?_
                refine k_Vp (As := [.int (nI 256)]) (rest := [.ref mo]) ⟨hx, hb, hml, hown, hts⟩ (c_M_small l E mo mb mm mw mh ml len en gas ctr siz hgt frm ret on ay g hg 256 (by decide)) (k_cwV 1 hts t_857 t_859 t_32 t_71 t_860 (by decide +kernel) ⟨Nat.le_of_ble_eq_true rfl, Nat.le_of_ble_eq_true rfl⟩) hK hG hA hP hD hS [0, 3] rfl (by decide) 0 rfl rfl rfl hl.1 rfl (Nat.le_of_ble_eq_true rfl) d_M_does_131 ⟨Nat.zero_le _, Nat.zero_le _⟩ (fun r131 hu131 => ?_)
                subst hu131
                refine lv_sipush (v := nI 255) hx hb d_M_does_134 (by decide) ?_
                refine kn_le (tgt := 146) hx hb (by omega) (by omega) d_M_does_137 (by decide) (fun h137 => ?_) (fun h137 => ?_)
                · refine lv_aload_n hx hb d_M_does_146 rfl (lv_at hl 0 rfl) ?_
                  refine lv_sipush (v := nI 256) hx hb d_M_does_147 (by decide) ?_
                  refine k_Vp (As := [.int (nI 256)]) (rest := [.ref mo]) ⟨hx, hb, hml, hown, hts⟩ (c_M_small l E mo mb mm mw mh ml len en gas ctr siz hgt frm ret on ay g hg 256 (by decide)) (k_cwV 1 hts t_857 t_859 t_32 t_71 t_860 (by decide +kernel) ⟨Nat.le_of_ble_eq_true rfl, Nat.le_of_ble_eq_true rfl⟩) hK hG hA hP hD hS [0, 3] rfl (by decide) 0 rfl rfl rfl hl.1 rfl (Nat.le_of_ble_eq_true rfl) d_M_does_150 ⟨Nat.zero_le _, Nat.zero_le _⟩ (fun r150 hu150 => ?_)
                  subst hu150
                  refine lv_ineg hx hb d_M_does_153 ?_
                  refine lv_iconst (v := nI 0) hx hb d_M_does_154 (by decide) ?_
                  refine k_Vv (As := [.int (-(nI (min (gv g 256 16) 65535))), .int (nI 0)]) (rest := []) ⟨hx, hb, hml, hown, hts⟩ (c_M_shiftUp l E mo mb mm mw mh ml len en gas ctr siz hgt frm ret on ay g hg (min (gv g 256 16) 65535) 0 (by omega) (by decide)) (k_cwV 2 hts t_954 t_956 t_55 t_71 t_957 (by decide +kernel) ⟨Nat.le_of_ble_eq_true rfl, Nat.le_of_ble_eq_true rfl⟩) hK hG hA hP hD hS [0, 3] rfl (by decide) 0 rfl rfl (fun _ => rfl) rfl hl.1 rfl (Nat.le_of_ble_eq_true rfl) d_M_does_155 ⟨Nat.zero_le _, Nat.zero_le _⟩ (fun u1 H locs hu1 hP hD hS => ?_)
                  have hP : va_P E.1 vwCl [(mo, .inr (8, [.int (nI len), .ref mb, .int (kb on), .int (nI en), .int (nI gas), .int (nI ctr), .int (nI siz), .int (nI hgt), .int (nI frm), .int (nI ret), .ref mm, .ref mw, .ref mh, .ref ml, .int (kb ay)])), (mb, .inl (E.2.1 0, 96, .inl (nF nb))), (mm, .inl (E.2.1 0, 160, .inl (nF mem))), (mw, .inl (E.2.1 0, 370, .inl (nF u1)))] H := hP
                  have hD : va_D A [(mo, .inr (8, [.int (nI len), .ref mb, .int (kb on), .int (nI en), .int (nI gas), .int (nI ctr), .int (nI siz), .int (nI hgt), .int (nI frm), .int (nI ret), .ref mm, .ref mw, .ref mh, .ref ml, .int (kb ay)])), (mb, .inl (E.2.1 0, 96, .inl (nF nb))), (mm, .inl (E.2.1 0, 160, .inl (nF mem))), (mw, .inl (E.2.1 0, 370, .inl (nF u1)))] := hD
                  refine lv_goto (tgt := 350) hx hb d_M_does_158 (by decide) ?_
                  exact hret _ ls _ _ (u1) d_M_does_350 (do_f (fun _ => (by rw [h123, mo_27]; exact sh_shl hu1 (by first | exact Or.inl (min_s h137) | exact Or.inr (min_b h137)) : gv u1 304 16 = m_op o (gv g 256 16) (gv g 272 16) (gv g 288 16)).trans (mr_op (by omega))) hu1.1 hu1.2.1) (by rw [← mm_81 (o := o) (A := gv g 256 16) (B := gv g 272 16) (by omega) (by omega)]; exact hP) hS
                · refine lv_sipush (v := -256) hx hb d_M_does_140 (by decide) ?_
                  refine k_top (y := -(nI 256)) (by decide) ?_
                  refine lv_goto (tgt := 154) hx hb d_M_does_143 (by decide) ?_
                  refine lv_iconst (v := nI 0) hx hb d_M_does_154 (by decide) ?_
                  refine k_Vv (As := [.int (-(nI 256)), .int (nI 0)]) (rest := []) ⟨hx, hb, hml, hown, hts⟩ (c_M_shiftUp l E mo mb mm mw mh ml len en gas ctr siz hgt frm ret on ay g hg 256 0 (by omega) (by decide)) (k_cwV 2 hts t_954 t_956 t_55 t_71 t_957 (by decide +kernel) ⟨Nat.le_of_ble_eq_true rfl, Nat.le_of_ble_eq_true rfl⟩) hK hG hA hP hD hS [0, 3] rfl (by decide) 0 rfl rfl (fun _ => rfl) rfl hl.1 rfl (Nat.le_of_ble_eq_true rfl) d_M_does_155 ⟨Nat.zero_le _, Nat.zero_le _⟩ (fun u1 H locs hu1 hP hD hS => ?_)
                  have hP : va_P E.1 vwCl [(mo, .inr (8, [.int (nI len), .ref mb, .int (kb on), .int (nI en), .int (nI gas), .int (nI ctr), .int (nI siz), .int (nI hgt), .int (nI frm), .int (nI ret), .ref mm, .ref mw, .ref mh, .ref ml, .int (kb ay)])), (mb, .inl (E.2.1 0, 96, .inl (nF nb))), (mm, .inl (E.2.1 0, 160, .inl (nF mem))), (mw, .inl (E.2.1 0, 370, .inl (nF u1)))] H := hP
                  have hD : va_D A [(mo, .inr (8, [.int (nI len), .ref mb, .int (kb on), .int (nI en), .int (nI gas), .int (nI ctr), .int (nI siz), .int (nI hgt), .int (nI frm), .int (nI ret), .ref mm, .ref mw, .ref mh, .ref ml, .int (kb ay)])), (mb, .inl (E.2.1 0, 96, .inl (nF nb))), (mm, .inl (E.2.1 0, 160, .inl (nF mem))), (mw, .inl (E.2.1 0, 370, .inl (nF u1)))] := hD
                  refine lv_goto (tgt := 350) hx hb d_M_does_158 (by decide) ?_
                  exact hret _ ls _ _ (u1) d_M_does_350 (do_f (fun _ => (by rw [h123, mo_27]; exact sh_shl hu1 (by first | exact Or.inl (min_s h137) | exact Or.inr (min_b h137)) : gv u1 304 16 = m_op o (gv g 256 16) (gv g 272 16) (gv g 288 16)).trans (mr_op (by omega))) hu1.1 hu1.2.1) (by rw [← mm_81 (o := o) (A := gv g 256 16) (B := gv g 272 16) (by omega) (by omega)]; exact hP) hS
            · refine lv_aload_n hx hb d_M_does_80 rfl (lv_at hl 0 rfl) ?_
              refine lv_sipush (v := nI 304) hx hb d_M_does_81 (by decide) ?_
              refine lv_aload_n hx hb d_M_does_84 rfl (lv_at hl 0 rfl) ?_
              refine lv_sipush (v := nI 256) hx hb d_M_does_85 (by decide) ?_
              refine k_Vp (As := [.int (nI 256)]) (rest := [.int (nI 304), .ref mo]) ⟨hx, hb, hml, hown, hts⟩ (c_M_small l E mo mb mm mw mh ml len en gas ctr siz hgt frm ret on ay g hg 256 (by decide)) (k_cwV 1 hts t_857 t_859 t_32 t_71 t_860 (by decide +kernel) ⟨Nat.le_of_ble_eq_true rfl, Nat.le_of_ble_eq_true rfl⟩) hK hG hA hP hD hS [0, 3] rfl (by decide) 0 rfl rfl rfl hl.1 rfl (Nat.le_of_ble_eq_true rfl) d_M_does_88 ⟨Nat.zero_le _, Nat.zero_le _⟩ (fun r88 hu88 => ?_)
              subst hu88
              refine lv_bipush (v := nI 31) hx hb d_M_does_91 (by decide) ?_
              refine kn_le (tgt := 100) hx hb (by omega) (by omega) d_M_does_93 (by decide) (fun h93 => ?_) (fun h93 => ?_)
              · refine lv_aload_n hx hb d_M_does_100 rfl (lv_at hl 0 rfl) ?_
                refine lv_sipush (v := nI 272) hx hb d_M_does_101 (by decide) ?_
                refine lv_aload_n hx hb d_M_does_104 rfl (lv_at hl 0 rfl) ?_
                refine lv_sipush (v := nI 256) hx hb d_M_does_105 (by decide) ?_
                refine k_Vp (As := [.int (nI 256)]) (rest := [.int (nI 272), .ref mo, .int (nI 304), .ref mo]) ⟨hx, hb, hml, hown, hts⟩ (c_M_small l E mo mb mm mw mh ml len en gas ctr siz hgt frm ret on ay g hg 256 (by decide)) (k_cwV 1 hts t_857 t_859 t_32 t_71 t_860 (by decide +kernel) ⟨Nat.le_of_ble_eq_true rfl, Nat.le_of_ble_eq_true rfl⟩) hK hG hA hP hD hS [0, 3] rfl (by decide) 0 rfl rfl rfl hl.1 rfl (Nat.le_of_ble_eq_true rfl) d_M_does_108 ⟨Nat.zero_le _, Nat.zero_le _⟩ (fun r108 hu108 => ?_)
                subst hu108
                refine k_Vp (As := [.int (nI 272), .int (nI (min (gv g 256 16) 65535))]) (rest := [.int (nI 304), .ref mo]) ⟨hx, hb, hml, hown, hts⟩ (c_M_byteOf l E mo mb mm mw mh ml len en gas ctr siz hgt frm ret on ay g hg 272 (min (gv g 256 16) 65535) (by decide) (by omega)) (k_cwV 2 hts t_950 t_952 t_54 t_71 t_953 (by decide +kernel) ⟨Nat.le_of_ble_eq_true rfl, Nat.le_of_ble_eq_true rfl⟩) hK hG hA hP hD hS [0, 3] rfl (by decide) 0 rfl rfl rfl hl.1 rfl (Nat.le_of_ble_eq_true rfl) d_M_does_111 ⟨Nat.zero_le _, Nat.zero_le _⟩ (fun r111 hu111 => ?_)
                subst hu111
                have hnv : (m_byte (min (gv g 256 16) 65535) (gv g 272 16)) < 2147483648 := (Nat.lt_trans (byte_b _ _) (by decide))
                refine k_Vv (As := [.int (nI 304), .int (nI (m_byte (min (gv g 256 16) 65535) (gv g 272 16)))]) (rest := []) ⟨hx, hb, hml, hown, hts⟩ (c_M_number l E mo mb mm mw mh ml len en gas ctr siz hgt frm ret on ay g hg 304 (m_byte (min (gv g 256 16) 65535) (gv g 272 16)) (by decide) hnv) (k_cwV 2 hts t_942 t_944 t_52 t_71 t_945 (by decide +kernel) ⟨Nat.le_of_ble_eq_true rfl, Nat.le_of_ble_eq_true rfl⟩) hK hG hA hP hD hS [0, 3] rfl (by decide) 0 rfl rfl (fun _ => rfl) rfl hl.1 rfl (Nat.le_of_ble_eq_true rfl) d_M_does_114 ⟨Nat.zero_le _, Nat.zero_le _⟩ (fun u1 H locs hu1 hP hD hS => ?_)
                have hP : va_P E.1 vwCl [(mo, .inr (8, [.int (nI len), .ref mb, .int (kb on), .int (nI en), .int (nI gas), .int (nI ctr), .int (nI siz), .int (nI hgt), .int (nI frm), .int (nI ret), .ref mm, .ref mw, .ref mh, .ref ml, .int (kb ay)])), (mb, .inl (E.2.1 0, 96, .inl (nF nb))), (mm, .inl (E.2.1 0, 160, .inl (nF mem))), (mw, .inl (E.2.1 0, 370, .inl (nF (nmb g 304 (m_byte (min (gv g 256 16) 65535) (gv g 272 16))))))] H := hP
                have hD : va_D A [(mo, .inr (8, [.int (nI len), .ref mb, .int (kb on), .int (nI en), .int (nI gas), .int (nI ctr), .int (nI siz), .int (nI hgt), .int (nI frm), .int (nI ret), .ref mm, .ref mw, .ref mh, .ref ml, .int (kb ay)])), (mb, .inl (E.2.1 0, 96, .inl (nF nb))), (mm, .inl (E.2.1 0, 160, .inl (nF mem))), (mw, .inl (E.2.1 0, 370, .inl (nF (nmb g 304 (m_byte (min (gv g 256 16) 65535) (gv g 272 16))))))] := hD
                refine lv_goto (tgt := 350) hx hb d_M_does_117 (by decide) ?_
                exact hret _ ls _ _ (nmb g 304 (m_byte (min (gv g 256 16) 65535) (gv g 272 16))) d_M_does_350 (do_n hg (Nat.lt_trans hnv (by decide)) ((by rw [h77, mo_26]; first | exact byt_min h93 | exact byt_big h93 : m_byte (min (gv g 256 16) 65535) (gv g 272 16) = m_op o (gv g 256 16) (gv g 272 16) (gv g 288 16)).trans (mr_op (by omega)))) (by rw [← mm_81 (o := o) (A := gv g 256 16) (B := gv g 272 16) (by omega) (by omega)]; exact hP) hS
              · refine lv_iconst (v := nI 0) hx hb d_M_does_96 (by decide) ?_
                refine lv_goto (tgt := 114) hx hb d_M_does_97 (by decide) ?_
                have hnv : 0 < 2147483648 := (by omega)
                refine k_Vv (As := [.int (nI 304), .int (nI 0)]) (rest := []) ⟨hx, hb, hml, hown, hts⟩ (c_M_number l E mo mb mm mw mh ml len en gas ctr siz hgt frm ret on ay g hg 304 0 (by decide) hnv) (k_cwV 2 hts t_942 t_944 t_52 t_71 t_945 (by decide +kernel) ⟨Nat.le_of_ble_eq_true rfl, Nat.le_of_ble_eq_true rfl⟩) hK hG hA hP hD hS [0, 3] rfl (by decide) 0 rfl rfl (fun _ => rfl) rfl hl.1 rfl (Nat.le_of_ble_eq_true rfl) d_M_does_114 ⟨Nat.zero_le _, Nat.zero_le _⟩ (fun u1 H locs hu1 hP hD hS => ?_)
                have hP : va_P E.1 vwCl [(mo, .inr (8, [.int (nI len), .ref mb, .int (kb on), .int (nI en), .int (nI gas), .int (nI ctr), .int (nI siz), .int (nI hgt), .int (nI frm), .int (nI ret), .ref mm, .ref mw, .ref mh, .ref ml, .int (kb ay)])), (mb, .inl (E.2.1 0, 96, .inl (nF nb))), (mm, .inl (E.2.1 0, 160, .inl (nF mem))), (mw, .inl (E.2.1 0, 370, .inl (nF (nmb g 304 0))))] H := hP
                have hD : va_D A [(mo, .inr (8, [.int (nI len), .ref mb, .int (kb on), .int (nI en), .int (nI gas), .int (nI ctr), .int (nI siz), .int (nI hgt), .int (nI frm), .int (nI ret), .ref mm, .ref mw, .ref mh, .ref ml, .int (kb ay)])), (mb, .inl (E.2.1 0, 96, .inl (nF nb))), (mm, .inl (E.2.1 0, 160, .inl (nF mem))), (mw, .inl (E.2.1 0, 370, .inl (nF (nmb g 304 0))))] := hD
                refine lv_goto (tgt := 350) hx hb d_M_does_117 (by decide) ?_
                exact hret _ ls _ _ (nmb g 304 0) d_M_does_350 (do_n hg (Nat.lt_trans hnv (by decide)) ((by rw [h77, mo_26]; first | exact byt_min h93 | exact byt_big h93 : 0 = m_op o (gv g 256 16) (gv g 272 16) (gv g 288 16)).trans (mr_op (by omega)))) (by rw [← mm_81 (o := o) (A := gv g 256 16) (B := gv g 272 16) (by omega) (by omega)]; exact hP) hS
          · refine lv_iload_n hx hb d_M_does_60 rfl (lv_at hl 1 rfl) ?_
            refine lv_bipush (v := nI 25) hx hb d_M_does_61 (by decide) ?_
            refine kn_gt (tgt := 74) hx hb (by omega) (by omega) d_M_does_63 (by decide) (fun h63 => ?_) (fun h63 => ?_)
            · refine lv_iload_n hx hb d_M_does_74 rfl (lv_at hl 1 rfl) ?_
              refine lv_bipush (v := nI 26) hx hb d_M_does_75 (by decide) ?_
              refine kn_ne (tgt := 120) hx hb (by omega) (by omega) d_M_does_77 (by decide) (fun h77 => ?_) (fun h77 => ?_)
              · refine lv_iload_n hx hb d_M_does_120 rfl (lv_at hl 1 rfl) ?_
                refine lv_bipush (v := nI 27) hx hb d_M_does_121 (by decide) ?_
                refine kn_ne (tgt := 161) hx hb (by omega) (by omega) d_M_does_123 (by decide) (fun h123 => ?_) (fun h123 => ?_)
                · refine lv_iload_n hx hb d_M_does_161 rfl (lv_at hl 1 rfl) ?_
                  refine lv_bipush (v := nI 28) hx hb d_M_does_162 (by decide) ?_
                  refine kn_ne (tgt := 201) hx hb (by omega) (by omega) d_M_does_164 (by decide) (fun h164 => ?_) (fun h164 => ?_)
                  · refine lv_iload_n hx hb d_M_does_201 rfl (lv_at hl 1 rfl) ?_
                    refine lv_bipush (v := nI 29) hx hb d_M_does_202 (by decide) ?_
                    refine kn_ne (tgt := 255) hx hb (by omega) (by omega) d_M_does_204 (by decide) (fun h204 => ?_) (fun h204 => ?_)
                    · refine lv_iload_n hx hb d_M_does_255 rfl (lv_at hl 1 rfl) ?_
                      refine lv_bipush (v := nI 81) hx hb d_M_does_256 (by decide) ?_
                      refine kn_lt (tgt := 275) hx hb (by omega) (by omega) d_M_does_258 (by decide) (fun h258 => ?_) (fun h258 => ?_)
                      · refine lv_iload_n hx hb d_M_does_275 rfl (lv_at hl 1 rfl) ?_
                        refine lv_bipush (v := nI 88) hx hb d_M_does_276 (by decide) ?_
                        refine kn_ne (tgt := 295) hx hb (by omega) (by omega) d_M_does_278 (by decide) (fun h278 => ?_) (fun h278 => ?_)
                        · refine lv_iload_n hx hb d_M_does_295 rfl (lv_at hl 1 rfl) ?_
                          refine lv_bipush (v := nI 89) hx hb d_M_does_296 (by decide) ?_
                          refine kn_ne (tgt := 315) hx hb (by omega) (by omega) d_M_does_298 (by decide) (fun h298 => ?_) (fun h298 => ?_)
                          · refine lv_iload_n hx hb d_M_does_315 rfl (lv_at hl 1 rfl) ?_
                            refine lv_bipush (v := nI 90) hx hb d_M_does_316 (by decide) ?_
                            refine kn_ne (tgt := 335) hx hb (by omega) (by omega) d_M_does_318 (by decide) (fun h318 => ?_) (fun h318 => ?_)
                            · refine lv_iload_n hx hb d_M_does_335 rfl (lv_at hl 1 rfl) ?_
                              refine k_Sp (As := [.int (nI o)]) (rest := []) ⟨hx, hb, hml, hown, hts⟩ (c_M_hasNumber l E o (by omega)) (k_cwS 1 hts t_816 t_817 t_71 t_818 (by decide +kernel) ⟨Nat.le_of_ble_eq_true rfl, Nat.le_of_ble_eq_true rfl⟩) hK hG hA hP hD hS [] rfl (by decide) rfl hl.1 rfl (Nat.le_of_ble_eq_true rfl) d_M_does_336 ⟨Nat.zero_le _, Nat.zero_le _⟩ (fun r336 hu336 => ?_)
                              subst hu336
                              refine lv_if_eq (tgt := 350) hx hb d_M_does_339 (by decide) (fun h339 => ?_) (fun h339 => ?_)
                              · have hq := of_decide_eq_false (kb_0.mp h339)
                                exact hret _ ls _ _ (g) d_M_does_350 (do_0 hg (mg_0 hk (by omega) (by omega) (by omega) (by omega))) (by rw [← mm_81 (o := o) (A := gv g 256 16) (B := gv g 272 16) (by omega) (by omega)]; exact hP) hS
                              · have hq := of_decide_eq_true (kb_n0 h339)
                                refine lv_aload_n hx hb d_M_does_342 rfl (lv_at hl 0 rfl) ?_
                                refine lv_iload_n hx hb d_M_does_343 rfl (lv_at hl 1 rfl) ?_
                                refine lv_bipush (v := nI 95) hx hb d_M_does_344 (by decide) ?_
                                refine lv_isub hx hb d_M_does_346 ?_
                                refine k_top (pk_sub (by omega)) ?_
                                refine k_Vv (As := [.int (nI (o - 95))]) (rest := []) ⟨hx, hb, hml, hown, hts⟩ (c_M_reads l E mo mb mm mw mh ml len en gas ctr siz hgt frm ret on ay g hg nb bb okb (o - 95) (by omega) hc) (k_cwV 1 hts t_962 t_964 t_57 t_71 t_965 (by decide +kernel) ⟨Nat.le_of_ble_eq_true rfl, Nat.le_of_ble_eq_true rfl⟩) hK hG hA hP hD hS [0, 1, 3] rfl (by decide) 0 rfl rfl (fun _ => rfl) rfl hl.1 rfl (Nat.le_of_ble_eq_true rfl) d_M_does_347 ⟨Nat.zero_le _, Nat.zero_le _⟩ (fun u1 H locs hu1 hP hD hS => ?_)
                                have hP : va_P E.1 vwCl [(mo, .inr (8, [.int (nI len), .ref mb, .int (kb on), .int (nI en), .int (nI gas), .int (nI ctr), .int (nI siz), .int (nI hgt), .int (nI frm), .int (nI ret), .ref mm, .ref mw, .ref mh, .ref ml, .int (kb ay)])), (mb, .inl (E.2.1 0, 96, .inl (nF nb))), (mm, .inl (E.2.1 0, 160, .inl (nF mem))), (mw, .inl (E.2.1 0, 370, .inl (nF u1)))] H := hP
                                have hD : va_D A [(mo, .inr (8, [.int (nI len), .ref mb, .int (kb on), .int (nI en), .int (nI gas), .int (nI ctr), .int (nI siz), .int (nI hgt), .int (nI frm), .int (nI ret), .ref mm, .ref mw, .ref mh, .ref ml, .int (kb ay)])), (mb, .inl (E.2.1 0, 96, .inl (nF nb))), (mm, .inl (E.2.1 0, 160, .inl (nF mem))), (mw, .inl (E.2.1 0, 370, .inl (nF u1)))] := hD
                                exact hret _ ls _ _ (u1) d_M_does_350 (do_f (fun _ => hu1.1.trans (mr_num hq)) hu1.2.1 hu1.2.2) (by rw [← mm_81 (o := o) (A := gv g 256 16) (B := gv g 272 16) (by omega) (by omega)]; exact hP) hS
                            · refine lv_aload_n hx hb d_M_does_321 rfl (lv_at hl 0 rfl) ?_
                              refine lv_sipush (v := nI 304) hx hb d_M_does_322 (by decide) ?_
                              refine lv_aload_n hx hb d_M_does_325 rfl (lv_at hl 0 rfl) ?_
                              refine va_get (D := E.1) (ci := 8) (v := .int (nI gas)) (C := "WideStackModel") (T := T_M) (N := 15) hx hb hts in_M hown hK hP 0 rfl rfl 4 (by decide) (hts _ t_751) (fun _ h9 => h9) rfl d_M_does_326 ?_
                              have hnv : gas < 2147483648 := (by omega)
                              refine k_Vv (As := [.int (nI 304), .int (nI gas)]) (rest := []) ⟨hx, hb, hml, hown, hts⟩ (c_M_number l E mo mb mm mw mh ml len en gas ctr siz hgt frm ret on ay g hg 304 gas (by decide) hnv) (k_cwV 2 hts t_942 t_944 t_52 t_71 t_945 (by decide +kernel) ⟨Nat.le_of_ble_eq_true rfl, Nat.le_of_ble_eq_true rfl⟩) hK hG hA hP hD hS [0, 3] rfl (by decide) 0 rfl rfl (fun _ => rfl) rfl hl.1 rfl (Nat.le_of_ble_eq_true rfl) d_M_does_329 ⟨Nat.zero_le _, Nat.zero_le _⟩ (fun u1 H locs hu1 hP hD hS => ?_)
                              have hP : va_P E.1 vwCl [(mo, .inr (8, [.int (nI len), .ref mb, .int (kb on), .int (nI en), .int (nI gas), .int (nI ctr), .int (nI siz), .int (nI hgt), .int (nI frm), .int (nI ret), .ref mm, .ref mw, .ref mh, .ref ml, .int (kb ay)])), (mb, .inl (E.2.1 0, 96, .inl (nF nb))), (mm, .inl (E.2.1 0, 160, .inl (nF mem))), (mw, .inl (E.2.1 0, 370, .inl (nF (nmb g 304 gas))))] H := hP
                              have hD : va_D A [(mo, .inr (8, [.int (nI len), .ref mb, .int (kb on), .int (nI en), .int (nI gas), .int (nI ctr), .int (nI siz), .int (nI hgt), .int (nI frm), .int (nI ret), .ref mm, .ref mw, .ref mh, .ref ml, .int (kb ay)])), (mb, .inl (E.2.1 0, 96, .inl (nF nb))), (mm, .inl (E.2.1 0, 160, .inl (nF mem))), (mw, .inl (E.2.1 0, 370, .inl (nF (nmb g 304 gas))))] := hD
                              refine lv_goto (tgt := 350) hx hb d_M_does_332 (by decide) ?_
                              exact hret _ ls _ _ (nmb g 304 gas) d_M_does_350 (do_n hg (by omega) (mr_90 h318)) (by rw [← mm_81 (o := o) (A := gv g 256 16) (B := gv g 272 16) (by omega) (by omega)]; exact hP) hS
                          · refine lv_aload_n hx hb d_M_does_301 rfl (lv_at hl 0 rfl) ?_
                            refine lv_sipush (v := nI 304) hx hb d_M_does_302 (by decide) ?_
                            refine lv_aload_n hx hb d_M_does_305 rfl (lv_at hl 0 rfl) ?_
                            refine va_get (D := E.1) (ci := 8) (v := .int (nI siz)) (C := "WideStackModel") (T := T_M) (N := 15) hx hb hts in_M hown hK hP 0 rfl rfl 6 (by decide) (hts _ t_753) (fun _ h9 => h9) rfl d_M_does_306 ?_
                            have hnv : siz < 2147483648 := (by omega)
                            refine k_Vv (As := [.int (nI 304), .int (nI siz)]) (rest := []) ⟨hx, hb, hml, hown, hts⟩ (c_M_number l E mo mb mm mw mh ml len en gas ctr siz hgt frm ret on ay g hg 304 siz (by decide) hnv) (k_cwV 2 hts t_942 t_944 t_52 t_71 t_945 (by decide +kernel) ⟨Nat.le_of_ble_eq_true rfl, Nat.le_of_ble_eq_true rfl⟩) hK hG hA hP hD hS [0, 3] rfl (by decide) 0 rfl rfl (fun _ => rfl) rfl hl.1 rfl (Nat.le_of_ble_eq_true rfl) d_M_does_309 ⟨Nat.zero_le _, Nat.zero_le _⟩ (fun u1 H locs hu1 hP hD hS => ?_)
                            have hP : va_P E.1 vwCl [(mo, .inr (8, [.int (nI len), .ref mb, .int (kb on), .int (nI en), .int (nI gas), .int (nI ctr), .int (nI siz), .int (nI hgt), .int (nI frm), .int (nI ret), .ref mm, .ref mw, .ref mh, .ref ml, .int (kb ay)])), (mb, .inl (E.2.1 0, 96, .inl (nF nb))), (mm, .inl (E.2.1 0, 160, .inl (nF mem))), (mw, .inl (E.2.1 0, 370, .inl (nF (nmb g 304 siz))))] H := hP
                            have hD : va_D A [(mo, .inr (8, [.int (nI len), .ref mb, .int (kb on), .int (nI en), .int (nI gas), .int (nI ctr), .int (nI siz), .int (nI hgt), .int (nI frm), .int (nI ret), .ref mm, .ref mw, .ref mh, .ref ml, .int (kb ay)])), (mb, .inl (E.2.1 0, 96, .inl (nF nb))), (mm, .inl (E.2.1 0, 160, .inl (nF mem))), (mw, .inl (E.2.1 0, 370, .inl (nF (nmb g 304 siz))))] := hD
                            refine lv_goto (tgt := 350) hx hb d_M_does_312 (by decide) ?_
                            exact hret _ ls _ _ (nmb g 304 siz) d_M_does_350 (do_n hg (by omega) (mr_89 h298)) (by rw [← mm_81 (o := o) (A := gv g 256 16) (B := gv g 272 16) (by omega) (by omega)]; exact hP) hS
                        · refine lv_aload_n hx hb d_M_does_281 rfl (lv_at hl 0 rfl) ?_
                          refine lv_sipush (v := nI 304) hx hb d_M_does_282 (by decide) ?_
                          refine lv_aload_n hx hb d_M_does_285 rfl (lv_at hl 0 rfl) ?_
                          refine va_get (D := E.1) (ci := 8) (v := .int (nI ctr)) (C := "WideStackModel") (T := T_M) (N := 15) hx hb hts in_M hown hK hP 0 rfl rfl 5 (by decide) (hts _ t_752) (fun _ h9 => h9) rfl d_M_does_286 ?_
                          have hnv : ctr < 2147483648 := (by omega)
                          refine k_Vv (As := [.int (nI 304), .int (nI ctr)]) (rest := []) ⟨hx, hb, hml, hown, hts⟩ (c_M_number l E mo mb mm mw mh ml len en gas ctr siz hgt frm ret on ay g hg 304 ctr (by decide) hnv) (k_cwV 2 hts t_942 t_944 t_52 t_71 t_945 (by decide +kernel) ⟨Nat.le_of_ble_eq_true rfl, Nat.le_of_ble_eq_true rfl⟩) hK hG hA hP hD hS [0, 3] rfl (by decide) 0 rfl rfl (fun _ => rfl) rfl hl.1 rfl (Nat.le_of_ble_eq_true rfl) d_M_does_289 ⟨Nat.zero_le _, Nat.zero_le _⟩ (fun u1 H locs hu1 hP hD hS => ?_)
                          have hP : va_P E.1 vwCl [(mo, .inr (8, [.int (nI len), .ref mb, .int (kb on), .int (nI en), .int (nI gas), .int (nI ctr), .int (nI siz), .int (nI hgt), .int (nI frm), .int (nI ret), .ref mm, .ref mw, .ref mh, .ref ml, .int (kb ay)])), (mb, .inl (E.2.1 0, 96, .inl (nF nb))), (mm, .inl (E.2.1 0, 160, .inl (nF mem))), (mw, .inl (E.2.1 0, 370, .inl (nF (nmb g 304 ctr))))] H := hP
                          have hD : va_D A [(mo, .inr (8, [.int (nI len), .ref mb, .int (kb on), .int (nI en), .int (nI gas), .int (nI ctr), .int (nI siz), .int (nI hgt), .int (nI frm), .int (nI ret), .ref mm, .ref mw, .ref mh, .ref ml, .int (kb ay)])), (mb, .inl (E.2.1 0, 96, .inl (nF nb))), (mm, .inl (E.2.1 0, 160, .inl (nF mem))), (mw, .inl (E.2.1 0, 370, .inl (nF (nmb g 304 ctr))))] := hD
                          refine lv_goto (tgt := 350) hx hb d_M_does_292 (by decide) ?_
                          exact hret _ ls _ _ (nmb g 304 ctr) d_M_does_350 (do_n hg (by omega) (mr_88 h278)) (by rw [← mm_81 (o := o) (A := gv g 256 16) (B := gv g 272 16) (by omega) (by omega)]; exact hP) hS
                      · refine lv_iload_n hx hb d_M_does_261 rfl (lv_at hl 1 rfl) ?_
                        refine lv_bipush (v := nI 83) hx hb d_M_does_262 (by decide) ?_
                        refine kn_gt (tgt := 275) hx hb (by omega) (by omega) d_M_does_264 (by decide) (fun h264 => ?_) (fun h264 => ?_)
                        · refine lv_iload_n hx hb d_M_does_275 rfl (lv_at hl 1 rfl) ?_
                          refine lv_bipush (v := nI 88) hx hb d_M_does_276 (by decide) ?_
                          refine kn_ne (tgt := 295) hx hb (by omega) (by omega) d_M_does_278 (by decide) (fun h278 => ?_) (fun h278 => ?_)
                          · refine lv_iload_n hx hb d_M_does_295 rfl (lv_at hl 1 rfl) ?_
                            refine lv_bipush (v := nI 89) hx hb d_M_does_296 (by decide) ?_
                            refine kn_ne (tgt := 315) hx hb (by omega) (by omega) d_M_does_298 (by decide) (fun h298 => ?_) (fun h298 => ?_)
                            · refine lv_iload_n hx hb d_M_does_315 rfl (lv_at hl 1 rfl) ?_
                              refine lv_bipush (v := nI 90) hx hb d_M_does_316 (by decide) ?_
                              refine kn_ne (tgt := 335) hx hb (by omega) (by omega) d_M_does_318 (by decide) (fun h318 => ?_) (fun h318 => ?_)
                              · refine lv_iload_n hx hb d_M_does_335 rfl (lv_at hl 1 rfl) ?_
                                refine k_Sp (As := [.int (nI o)]) (rest := []) ⟨hx, hb, hml, hown, hts⟩ (c_M_hasNumber l E o (by omega)) (k_cwS 1 hts t_816 t_817 t_71 t_818 (by decide +kernel) ⟨Nat.le_of_ble_eq_true rfl, Nat.le_of_ble_eq_true rfl⟩) hK hG hA hP hD hS [] rfl (by decide) rfl hl.1 rfl (Nat.le_of_ble_eq_true rfl) d_M_does_336 ⟨Nat.zero_le _, Nat.zero_le _⟩ (fun r336 hu336 => ?_)
                                subst hu336
                                refine lv_if_eq (tgt := 350) hx hb d_M_does_339 (by decide) (fun h339 => ?_) (fun h339 => ?_)
                                · have hq := of_decide_eq_false (kb_0.mp h339)
                                  exact hret _ ls _ _ (g) d_M_does_350 (do_0 hg (mg_0 hk (by omega) (by omega) (by omega) (by omega))) (by rw [← mm_81 (o := o) (A := gv g 256 16) (B := gv g 272 16) (by omega) (by omega)]; exact hP) hS
                                · have hq := of_decide_eq_true (kb_n0 h339)
                                  refine lv_aload_n hx hb d_M_does_342 rfl (lv_at hl 0 rfl) ?_
                                  refine lv_iload_n hx hb d_M_does_343 rfl (lv_at hl 1 rfl) ?_
                                  refine lv_bipush (v := nI 95) hx hb d_M_does_344 (by decide) ?_
                                  refine lv_isub hx hb d_M_does_346 ?_
                                  refine k_top (pk_sub (by omega)) ?_
                                  refine k_Vv (As := [.int (nI (o - 95))]) (rest := []) ⟨hx, hb, hml, hown, hts⟩ (c_M_reads l E mo mb mm mw mh ml len en gas ctr siz hgt frm ret on ay g hg nb bb okb (o - 95) (by omega) hc) (k_cwV 1 hts t_962 t_964 t_57 t_71 t_965 (by decide +kernel) ⟨Nat.le_of_ble_eq_true rfl, Nat.le_of_ble_eq_true rfl⟩) hK hG hA hP hD hS [0, 1, 3] rfl (by decide) 0 rfl rfl (fun _ => rfl) rfl hl.1 rfl (Nat.le_of_ble_eq_true rfl) d_M_does_347 ⟨Nat.zero_le _, Nat.zero_le _⟩ (fun u1 H locs hu1 hP hD hS => ?_)
                                  have hP : va_P E.1 vwCl [(mo, .inr (8, [.int (nI len), .ref mb, .int (kb on), .int (nI en), .int (nI gas), .int (nI ctr), .int (nI siz), .int (nI hgt), .int (nI frm), .int (nI ret), .ref mm, .ref mw, .ref mh, .ref ml, .int (kb ay)])), (mb, .inl (E.2.1 0, 96, .inl (nF nb))), (mm, .inl (E.2.1 0, 160, .inl (nF mem))), (mw, .inl (E.2.1 0, 370, .inl (nF u1)))] H := hP
                                  have hD : va_D A [(mo, .inr (8, [.int (nI len), .ref mb, .int (kb on), .int (nI en), .int (nI gas), .int (nI ctr), .int (nI siz), .int (nI hgt), .int (nI frm), .int (nI ret), .ref mm, .ref mw, .ref mh, .ref ml, .int (kb ay)])), (mb, .inl (E.2.1 0, 96, .inl (nF nb))), (mm, .inl (E.2.1 0, 160, .inl (nF mem))), (mw, .inl (E.2.1 0, 370, .inl (nF u1)))] := hD
                                  exact hret _ ls _ _ (u1) d_M_does_350 (do_f (fun _ => hu1.1.trans (mr_num hq)) hu1.2.1 hu1.2.2) (by rw [← mm_81 (o := o) (A := gv g 256 16) (B := gv g 272 16) (by omega) (by omega)]; exact hP) hS
                              · refine lv_aload_n hx hb d_M_does_321 rfl (lv_at hl 0 rfl) ?_
                                refine lv_sipush (v := nI 304) hx hb d_M_does_322 (by decide) ?_
                                refine lv_aload_n hx hb d_M_does_325 rfl (lv_at hl 0 rfl) ?_
                                refine va_get (D := E.1) (ci := 8) (v := .int (nI gas)) (C := "WideStackModel") (T := T_M) (N := 15) hx hb hts in_M hown hK hP 0 rfl rfl 4 (by decide) (hts _ t_751) (fun _ h9 => h9) rfl d_M_does_326 ?_
                                have hnv : gas < 2147483648 := (by omega)
                                refine k_Vv (As := [.int (nI 304), .int (nI gas)]) (rest := []) ⟨hx, hb, hml, hown, hts⟩ (c_M_number l E mo mb mm mw mh ml len en gas ctr siz hgt frm ret on ay g hg 304 gas (by decide) hnv) (k_cwV 2 hts t_942 t_944 t_52 t_71 t_945 (by decide +kernel) ⟨Nat.le_of_ble_eq_true rfl, Nat.le_of_ble_eq_true rfl⟩) hK hG hA hP hD hS [0, 3] rfl (by decide) 0 rfl rfl (fun _ => rfl) rfl hl.1 rfl (Nat.le_of_ble_eq_true rfl) d_M_does_329 ⟨Nat.zero_le _, Nat.zero_le _⟩ (fun u1 H locs hu1 hP hD hS => ?_)
                                have hP : va_P E.1 vwCl [(mo, .inr (8, [.int (nI len), .ref mb, .int (kb on), .int (nI en), .int (nI gas), .int (nI ctr), .int (nI siz), .int (nI hgt), .int (nI frm), .int (nI ret), .ref mm, .ref mw, .ref mh, .ref ml, .int (kb ay)])), (mb, .inl (E.2.1 0, 96, .inl (nF nb))), (mm, .inl (E.2.1 0, 160, .inl (nF mem))), (mw, .inl (E.2.1 0, 370, .inl (nF (nmb g 304 gas))))] H := hP
                                have hD : va_D A [(mo, .inr (8, [.int (nI len), .ref mb, .int (kb on), .int (nI en), .int (nI gas), .int (nI ctr), .int (nI siz), .int (nI hgt), .int (nI frm), .int (nI ret), .ref mm, .ref mw, .ref mh, .ref ml, .int (kb ay)])), (mb, .inl (E.2.1 0, 96, .inl (nF nb))), (mm, .inl (E.2.1 0, 160, .inl (nF mem))), (mw, .inl (E.2.1 0, 370, .inl (nF (nmb g 304 gas))))] := hD
                                refine lv_goto (tgt := 350) hx hb d_M_does_332 (by decide) ?_
                                exact hret _ ls _ _ (nmb g 304 gas) d_M_does_350 (do_n hg (by omega) (mr_90 h318)) (by rw [← mm_81 (o := o) (A := gv g 256 16) (B := gv g 272 16) (by omega) (by omega)]; exact hP) hS
                            · refine lv_aload_n hx hb d_M_does_301 rfl (lv_at hl 0 rfl) ?_
                              refine lv_sipush (v := nI 304) hx hb d_M_does_302 (by decide) ?_
                              refine lv_aload_n hx hb d_M_does_305 rfl (lv_at hl 0 rfl) ?_
                              refine va_get (D := E.1) (ci := 8) (v := .int (nI siz)) (C := "WideStackModel") (T := T_M) (N := 15) hx hb hts in_M hown hK hP 0 rfl rfl 6 (by decide) (hts _ t_753) (fun _ h9 => h9) rfl d_M_does_306 ?_
                              have hnv : siz < 2147483648 := (by omega)
                              refine k_Vv (As := [.int (nI 304), .int (nI siz)]) (rest := []) ⟨hx, hb, hml, hown, hts⟩ (c_M_number l E mo mb mm mw mh ml len en gas ctr siz hgt frm ret on ay g hg 304 siz (by decide) hnv) (k_cwV 2 hts t_942 t_944 t_52 t_71 t_945 (by decide +kernel) ⟨Nat.le_of_ble_eq_true rfl, Nat.le_of_ble_eq_true rfl⟩) hK hG hA hP hD hS [0, 3] rfl (by decide) 0 rfl rfl (fun _ => rfl) rfl hl.1 rfl (Nat.le_of_ble_eq_true rfl) d_M_does_309 ⟨Nat.zero_le _, Nat.zero_le _⟩ (fun u1 H locs hu1 hP hD hS => ?_)
                              have hP : va_P E.1 vwCl [(mo, .inr (8, [.int (nI len), .ref mb, .int (kb on), .int (nI en), .int (nI gas), .int (nI ctr), .int (nI siz), .int (nI hgt), .int (nI frm), .int (nI ret), .ref mm, .ref mw, .ref mh, .ref ml, .int (kb ay)])), (mb, .inl (E.2.1 0, 96, .inl (nF nb))), (mm, .inl (E.2.1 0, 160, .inl (nF mem))), (mw, .inl (E.2.1 0, 370, .inl (nF (nmb g 304 siz))))] H := hP
                              have hD : va_D A [(mo, .inr (8, [.int (nI len), .ref mb, .int (kb on), .int (nI en), .int (nI gas), .int (nI ctr), .int (nI siz), .int (nI hgt), .int (nI frm), .int (nI ret), .ref mm, .ref mw, .ref mh, .ref ml, .int (kb ay)])), (mb, .inl (E.2.1 0, 96, .inl (nF nb))), (mm, .inl (E.2.1 0, 160, .inl (nF mem))), (mw, .inl (E.2.1 0, 370, .inl (nF (nmb g 304 siz))))] := hD
                              refine lv_goto (tgt := 350) hx hb d_M_does_312 (by decide) ?_
                              exact hret _ ls _ _ (nmb g 304 siz) d_M_does_350 (do_n hg (by omega) (mr_89 h298)) (by rw [← mm_81 (o := o) (A := gv g 256 16) (B := gv g 272 16) (by omega) (by omega)]; exact hP) hS
                          · refine lv_aload_n hx hb d_M_does_281 rfl (lv_at hl 0 rfl) ?_
                            refine lv_sipush (v := nI 304) hx hb d_M_does_282 (by decide) ?_
                            refine lv_aload_n hx hb d_M_does_285 rfl (lv_at hl 0 rfl) ?_
                            refine va_get (D := E.1) (ci := 8) (v := .int (nI ctr)) (C := "WideStackModel") (T := T_M) (N := 15) hx hb hts in_M hown hK hP 0 rfl rfl 5 (by decide) (hts _ t_752) (fun _ h9 => h9) rfl d_M_does_286 ?_
                            have hnv : ctr < 2147483648 := (by omega)
                            refine k_Vv (As := [.int (nI 304), .int (nI ctr)]) (rest := []) ⟨hx, hb, hml, hown, hts⟩ (c_M_number l E mo mb mm mw mh ml len en gas ctr siz hgt frm ret on ay g hg 304 ctr (by decide) hnv) (k_cwV 2 hts t_942 t_944 t_52 t_71 t_945 (by decide +kernel) ⟨Nat.le_of_ble_eq_true rfl, Nat.le_of_ble_eq_true rfl⟩) hK hG hA hP hD hS [0, 3] rfl (by decide) 0 rfl rfl (fun _ => rfl) rfl hl.1 rfl (Nat.le_of_ble_eq_true rfl) d_M_does_289 ⟨Nat.zero_le _, Nat.zero_le _⟩ (fun u1 H locs hu1 hP hD hS => ?_)
                            have hP : va_P E.1 vwCl [(mo, .inr (8, [.int (nI len), .ref mb, .int (kb on), .int (nI en), .int (nI gas), .int (nI ctr), .int (nI siz), .int (nI hgt), .int (nI frm), .int (nI ret), .ref mm, .ref mw, .ref mh, .ref ml, .int (kb ay)])), (mb, .inl (E.2.1 0, 96, .inl (nF nb))), (mm, .inl (E.2.1 0, 160, .inl (nF mem))), (mw, .inl (E.2.1 0, 370, .inl (nF (nmb g 304 ctr))))] H := hP
                            have hD : va_D A [(mo, .inr (8, [.int (nI len), .ref mb, .int (kb on), .int (nI en), .int (nI gas), .int (nI ctr), .int (nI siz), .int (nI hgt), .int (nI frm), .int (nI ret), .ref mm, .ref mw, .ref mh, .ref ml, .int (kb ay)])), (mb, .inl (E.2.1 0, 96, .inl (nF nb))), (mm, .inl (E.2.1 0, 160, .inl (nF mem))), (mw, .inl (E.2.1 0, 370, .inl (nF (nmb g 304 ctr))))] := hD
                            refine lv_goto (tgt := 350) hx hb d_M_does_292 (by decide) ?_
                            exact hret _ ls _ _ (nmb g 304 ctr) d_M_does_350 (do_n hg (by omega) (mr_88 h278)) (by rw [← mm_81 (o := o) (A := gv g 256 16) (B := gv g 272 16) (by omega) (by omega)]; exact hP) hS
                        · refine lv_aload_n hx hb d_M_does_267 rfl (lv_at hl 0 rfl) ?_
                          refine lv_iload_n hx hb d_M_does_268 rfl (lv_at hl 1 rfl) ?_
                          refine k_Vv (As := [.int (nI o)]) (rest := []) ⟨hx, hb, hml, hown, hts⟩ (c_M_remembers l E mo mb mm mw mh ml len en gas ctr siz hgt frm ret on ay g hg mem hm o (by omega) hu0) (k_cwV 1 hts t_958 t_960 t_56 t_71 t_961 (by decide +kernel) ⟨Nat.le_of_ble_eq_true rfl, Nat.le_of_ble_eq_true rfl⟩) hK hG hA hP hD hS [0, 2, 3] rfl (by decide) 0 rfl rfl (fun _ => rfl) rfl hl.1 rfl (Nat.le_of_ble_eq_true rfl) d_M_does_269 ⟨Nat.zero_le _, Nat.zero_le _⟩ (fun u1 H locs hu1 hP hD hS => ?_)
                          have hP : va_P E.1 vwCl [(mo, .inr (8, [.int (nI len), .ref mb, .int (kb on), .int (nI en), .int (nI gas), .int (nI ctr), .int (nI siz), .int (nI hgt), .int (nI frm), .int (nI ret), .ref mm, .ref mw, .ref mh, .ref ml, .int (kb ay)])), (mb, .inl (E.2.1 0, 96, .inl (nF nb))), (mm, .inl (E.2.1 0, 160, .inl (nF (m_mem o (gv g 256 16) (gv g 272 16) mem)))), (mw, .inl (E.2.1 0, 370, .inl (nF u1)))] H := hP
                          have hD : va_D A [(mo, .inr (8, [.int (nI len), .ref mb, .int (kb on), .int (nI en), .int (nI gas), .int (nI ctr), .int (nI siz), .int (nI hgt), .int (nI frm), .int (nI ret), .ref mm, .ref mw, .ref mh, .ref ml, .int (kb ay)])), (mb, .inl (E.2.1 0, 96, .inl (nF nb))), (mm, .inl (E.2.1 0, 160, .inl (nF (m_mem o (gv g 256 16) (gv g 272 16) mem)))), (mw, .inl (E.2.1 0, 370, .inl (nF u1)))] := hD
                          refine lv_goto (tgt := 350) hx hb d_M_does_272 (by decide) ?_
                          exact hret _ ls _ _ (u1) d_M_does_350 (do_f (fun q => by by_cases q1 : o = 81; exact (hu1.1 q1).trans (mr_81 q1); exact absurd q (fun q => mg_83 (by omega) q)) hu1.2.1 hu1.2.2) hP hS
                    · refine lv_aload_n hx hb d_M_does_207 rfl (lv_at hl 0 rfl) ?_
                      refine lv_aload_n hx hb d_M_does_208 rfl (lv_at hl 0 rfl) ?_
                      refine lv_sipush (v := nI 256) hx hb d_M_does_209 (by decide) ?_
                      refine k_Vp (As := [.int (nI 256)]) (rest := [.ref mo]) ⟨hx, hb, hml, hown, hts⟩ (c_M_small l E mo mb mm mw mh ml len en gas ctr siz hgt frm ret on ay g hg 256 (by decide)) (k_cwV 1 hts t_857 t_859 t_32 t_71 t_860 (by decide +kernel) ⟨Nat.le_of_ble_eq_true rfl, Nat.le_of_ble_eq_true rfl⟩) hK hG hA hP hD hS [0, 3] rfl (by decide) 0 rfl rfl rfl hl.1 rfl (Nat.le_of_ble_eq_true rfl) d_M_does_212 ⟨Nat.zero_le _, Nat.zero_le _⟩ (fun r212 hu212 => ?_)
                      subst hu212
                      refine lv_sipush (v := nI 255) hx hb d_M_does_215 (by decide) ?_
                      refine kn_le (tgt := 227) hx hb (by omega) (by omega) d_M_does_218 (by decide) (fun h218 => ?_) (fun h218 => ?_)
                      · refine lv_aload_n hx hb d_M_does_227 rfl (lv_at hl 0 rfl) ?_
                        refine lv_sipush (v := nI 256) hx hb d_M_does_228 (by decide) ?_
                        refine k_Vp (As := [.int (nI 256)]) (rest := [.ref mo]) ⟨hx, hb, hml, hown, hts⟩ (c_M_small l E mo mb mm mw mh ml len en gas ctr siz hgt frm ret on ay g hg 256 (by decide)) (k_cwV 1 hts t_857 t_859 t_32 t_71 t_860 (by decide +kernel) ⟨Nat.le_of_ble_eq_true rfl, Nat.le_of_ble_eq_true rfl⟩) hK hG hA hP hD hS [0, 3] rfl (by decide) 0 rfl rfl rfl hl.1 rfl (Nat.le_of_ble_eq_true rfl) d_M_does_231 ⟨Nat.zero_le _, Nat.zero_le _⟩ (fun r231 hu231 => ?_)
                        subst hu231
                        refine lv_aload_n hx hb d_M_does_234 rfl (lv_at hl 0 rfl) ?_
                        refine lv_sipush (v := nI 272) hx hb d_M_does_235 (by decide) ?_
                        refine k_Vp (As := [.int (nI 272)]) (rest := [.int (nI (min (gv g 256 16) 65535)), .ref mo]) ⟨hx, hb, hml, hown, hts⟩ (c_M_isNegative l E mo mb mm mw mh ml len en gas ctr siz hgt frm ret on ay g hg 272 (by decide)) (k_cwV 1 hts t_922 t_924 t_47 t_71 t_925 (by decide +kernel) ⟨Nat.le_of_ble_eq_true rfl, Nat.le_of_ble_eq_true rfl⟩) hK hG hA hP hD hS [0, 3] rfl (by decide) 0 rfl rfl rfl hl.1 rfl (Nat.le_of_ble_eq_true rfl) d_M_does_238 ⟨Nat.zero_le _, Nat.zero_le _⟩ (fun r238 hu238 => ?_)
                        subst hu238
                        refine lv_if_eq (tgt := 248) hx hb d_M_does_241 (by decide) (fun h241 => ?_) (fun h241 => ?_)
                        · refine lv_iconst (v := nI 0) hx hb d_M_does_248 (by decide) ?_
                          refine k_Vv (As := [.int (nI (min (gv g 256 16) 65535)), .int (nI 0)]) (rest := []) ⟨hx, hb, hml, hown, hts⟩ (c_M_shiftDown l E mo mb mm mw mh ml len en gas ctr siz hgt frm ret on ay g hg (min (gv g 256 16) 65535) 0 (by omega) (by decide)) (k_cwV 2 hts t_954 t_956 t_55 t_71 t_957 (by decide +kernel) ⟨Nat.le_of_ble_eq_true rfl, Nat.le_of_ble_eq_true rfl⟩) hK hG hA hP hD hS [0, 3] rfl (by decide) 0 rfl rfl (fun _ => rfl) rfl hl.1 rfl (Nat.le_of_ble_eq_true rfl) d_M_does_249 ⟨Nat.zero_le _, Nat.zero_le _⟩ (fun u1 H locs hu1 hP hD hS => ?_)
                          have hP : va_P E.1 vwCl [(mo, .inr (8, [.int (nI len), .ref mb, .int (kb on), .int (nI en), .int (nI gas), .int (nI ctr), .int (nI siz), .int (nI hgt), .int (nI frm), .int (nI ret), .ref mm, .ref mw, .ref mh, .ref ml, .int (kb ay)])), (mb, .inl (E.2.1 0, 96, .inl (nF nb))), (mm, .inl (E.2.1 0, 160, .inl (nF mem))), (mw, .inl (E.2.1 0, 370, .inl (nF u1)))] H := hP
                          have hD : va_D A [(mo, .inr (8, [.int (nI len), .ref mb, .int (kb on), .int (nI en), .int (nI gas), .int (nI ctr), .int (nI siz), .int (nI hgt), .int (nI frm), .int (nI ret), .ref mm, .ref mw, .ref mh, .ref ml, .int (kb ay)])), (mb, .inl (E.2.1 0, 96, .inl (nF nb))), (mm, .inl (E.2.1 0, 160, .inl (nF mem))), (mw, .inl (E.2.1 0, 370, .inl (nF u1)))] := hD
                          refine lv_goto (tgt := 350) hx hb d_M_does_252 (by decide) ?_
                          exact hret _ ls _ _ (u1) d_M_does_350 (do_f (fun _ => (by rw [h204, mo_29]; exact sh_sar0 (gv_lt16 hg 272) (kb_0.mp h241) hu1 (by first | exact Or.inl (min_s h218) | exact Or.inr (min_b h218)) : gv u1 304 16 = m_op o (gv g 256 16) (gv g 272 16) (gv g 288 16)).trans (mr_op (by omega))) hu1.1 hu1.2.1) (by rw [← mm_81 (o := o) (A := gv g 256 16) (B := gv g 272 16) (by omega) (by omega)]; exact hP) hS
                        · refine lv_iconst (v := nI 1) hx hb d_M_does_244 (by decide) ?_
                          refine lv_goto (tgt := 249) hx hb d_M_does_245 (by decide) ?_
                          refine k_Vv (As := [.int (nI (min (gv g 256 16) 65535)), .int (nI 1)]) (rest := []) ⟨hx, hb, hml, hown, hts⟩ (c_M_shiftDown l E mo mb mm mw mh ml len en gas ctr siz hgt frm ret on ay g hg (min (gv g 256 16) 65535) 1 (by omega) (by decide)) (k_cwV 2 hts t_954 t_956 t_55 t_71 t_957 (by decide +kernel) ⟨Nat.le_of_ble_eq_true rfl, Nat.le_of_ble_eq_true rfl⟩) hK hG hA hP hD hS [0, 3] rfl (by decide) 0 rfl rfl (fun _ => rfl) rfl hl.1 rfl (Nat.le_of_ble_eq_true rfl) d_M_does_249 ⟨Nat.zero_le _, Nat.zero_le _⟩ (fun u1 H locs hu1 hP hD hS => ?_)
                          have hP : va_P E.1 vwCl [(mo, .inr (8, [.int (nI len), .ref mb, .int (kb on), .int (nI en), .int (nI gas), .int (nI ctr), .int (nI siz), .int (nI hgt), .int (nI frm), .int (nI ret), .ref mm, .ref mw, .ref mh, .ref ml, .int (kb ay)])), (mb, .inl (E.2.1 0, 96, .inl (nF nb))), (mm, .inl (E.2.1 0, 160, .inl (nF mem))), (mw, .inl (E.2.1 0, 370, .inl (nF u1)))] H := hP
                          have hD : va_D A [(mo, .inr (8, [.int (nI len), .ref mb, .int (kb on), .int (nI en), .int (nI gas), .int (nI ctr), .int (nI siz), .int (nI hgt), .int (nI frm), .int (nI ret), .ref mm, .ref mw, .ref mh, .ref ml, .int (kb ay)])), (mb, .inl (E.2.1 0, 96, .inl (nF nb))), (mm, .inl (E.2.1 0, 160, .inl (nF mem))), (mw, .inl (E.2.1 0, 370, .inl (nF u1)))] := hD
                          refine lv_goto (tgt := 350) hx hb d_M_does_252 (by decide) ?_
                          exact hret _ ls _ _ (u1) d_M_does_350 (do_f (fun _ => (by rw [h204, mo_29]; exact sh_sar1 (gv_lt16 hg 272) (kb_n0 h241) hu1 (by first | exact Or.inl (min_s h218) | exact Or.inr (min_b h218)) : gv u1 304 16 = m_op o (gv g 256 16) (gv g 272 16) (gv g 288 16)).trans (mr_op (by omega))) hu1.1 hu1.2.1) (by rw [← mm_81 (o := o) (A := gv g 256 16) (B := gv g 272 16) (by omega) (by omega)]; exact hP) hS
                      · refine lv_sipush (v := nI 256) hx hb d_M_does_221 (by decide) ?_
                        refine lv_goto (tgt := 234) hx hb d_M_does_224 (by decide) ?_
                        refine lv_aload_n hx hb d_M_does_234 rfl (lv_at hl 0 rfl) ?_
                        refine lv_sipush (v := nI 272) hx hb d_M_does_235 (by decide) ?_
                        refine k_Vp (As := [.int (nI 272)]) (rest := [.int (nI 256), .ref mo]) ⟨hx, hb, hml, hown, hts⟩ (c_M_isNegative l E mo mb mm mw mh ml len en gas ctr siz hgt frm ret on ay g hg 272 (by decide)) (k_cwV 1 hts t_922 t_924 t_47 t_71 t_925 (by decide +kernel) ⟨Nat.le_of_ble_eq_true rfl, Nat.le_of_ble_eq_true rfl⟩) hK hG hA hP hD hS [0, 3] rfl (by decide) 0 rfl rfl rfl hl.1 rfl (Nat.le_of_ble_eq_true rfl) d_M_does_238 ⟨Nat.zero_le _, Nat.zero_le _⟩ (fun r238 hu238 => ?_)
                        subst hu238
                        refine lv_if_eq (tgt := 248) hx hb d_M_does_241 (by decide) (fun h241 => ?_) (fun h241 => ?_)
                        · refine lv_iconst (v := nI 0) hx hb d_M_does_248 (by decide) ?_
                          refine k_Vv (As := [.int (nI 256), .int (nI 0)]) (rest := []) ⟨hx, hb, hml, hown, hts⟩ (c_M_shiftDown l E mo mb mm mw mh ml len en gas ctr siz hgt frm ret on ay g hg 256 0 (by omega) (by decide)) (k_cwV 2 hts t_954 t_956 t_55 t_71 t_957 (by decide +kernel) ⟨Nat.le_of_ble_eq_true rfl, Nat.le_of_ble_eq_true rfl⟩) hK hG hA hP hD hS [0, 3] rfl (by decide) 0 rfl rfl (fun _ => rfl) rfl hl.1 rfl (Nat.le_of_ble_eq_true rfl) d_M_does_249 ⟨Nat.zero_le _, Nat.zero_le _⟩ (fun u1 H locs hu1 hP hD hS => ?_)
                          have hP : va_P E.1 vwCl [(mo, .inr (8, [.int (nI len), .ref mb, .int (kb on), .int (nI en), .int (nI gas), .int (nI ctr), .int (nI siz), .int (nI hgt), .int (nI frm), .int (nI ret), .ref mm, .ref mw, .ref mh, .ref ml, .int (kb ay)])), (mb, .inl (E.2.1 0, 96, .inl (nF nb))), (mm, .inl (E.2.1 0, 160, .inl (nF mem))), (mw, .inl (E.2.1 0, 370, .inl (nF u1)))] H := hP
                          have hD : va_D A [(mo, .inr (8, [.int (nI len), .ref mb, .int (kb on), .int (nI en), .int (nI gas), .int (nI ctr), .int (nI siz), .int (nI hgt), .int (nI frm), .int (nI ret), .ref mm, .ref mw, .ref mh, .ref ml, .int (kb ay)])), (mb, .inl (E.2.1 0, 96, .inl (nF nb))), (mm, .inl (E.2.1 0, 160, .inl (nF mem))), (mw, .inl (E.2.1 0, 370, .inl (nF u1)))] := hD
                          refine lv_goto (tgt := 350) hx hb d_M_does_252 (by decide) ?_
                          exact hret _ ls _ _ (u1) d_M_does_350 (do_f (fun _ => (by rw [h204, mo_29]; exact sh_sar0 (gv_lt16 hg 272) (kb_0.mp h241) hu1 (by first | exact Or.inl (min_s h218) | exact Or.inr (min_b h218)) : gv u1 304 16 = m_op o (gv g 256 16) (gv g 272 16) (gv g 288 16)).trans (mr_op (by omega))) hu1.1 hu1.2.1) (by rw [← mm_81 (o := o) (A := gv g 256 16) (B := gv g 272 16) (by omega) (by omega)]; exact hP) hS
                        · refine lv_iconst (v := nI 1) hx hb d_M_does_244 (by decide) ?_
                          refine lv_goto (tgt := 249) hx hb d_M_does_245 (by decide) ?_
                          refine k_Vv (As := [.int (nI 256), .int (nI 1)]) (rest := []) ⟨hx, hb, hml, hown, hts⟩ (c_M_shiftDown l E mo mb mm mw mh ml len en gas ctr siz hgt frm ret on ay g hg 256 1 (by omega) (by decide)) (k_cwV 2 hts t_954 t_956 t_55 t_71 t_957 (by decide +kernel) ⟨Nat.le_of_ble_eq_true rfl, Nat.le_of_ble_eq_true rfl⟩) hK hG hA hP hD hS [0, 3] rfl (by decide) 0 rfl rfl (fun _ => rfl) rfl hl.1 rfl (Nat.le_of_ble_eq_true rfl) d_M_does_249 ⟨Nat.zero_le _, Nat.zero_le _⟩ (fun u1 H locs hu1 hP hD hS => ?_)
                          have hP : va_P E.1 vwCl [(mo, .inr (8, [.int (nI len), .ref mb, .int (kb on), .int (nI en), .int (nI gas), .int (nI ctr), .int (nI siz), .int (nI hgt), .int (nI frm), .int (nI ret), .ref mm, .ref mw, .ref mh, .ref ml, .int (kb ay)])), (mb, .inl (E.2.1 0, 96, .inl (nF nb))), (mm, .inl (E.2.1 0, 160, .inl (nF mem))), (mw, .inl (E.2.1 0, 370, .inl (nF u1)))] H := hP
                          have hD : va_D A [(mo, .inr (8, [.int (nI len), .ref mb, .int (kb on), .int (nI en), .int (nI gas), .int (nI ctr), .int (nI siz), .int (nI hgt), .int (nI frm), .int (nI ret), .ref mm, .ref mw, .ref mh, .ref ml, .int (kb ay)])), (mb, .inl (E.2.1 0, 96, .inl (nF nb))), (mm, .inl (E.2.1 0, 160, .inl (nF mem))), (mw, .inl (E.2.1 0, 370, .inl (nF u1)))] := hD
                          refine lv_goto (tgt := 350) hx hb d_M_does_252 (by decide) ?_
                          exact hret _ ls _ _ (u1) d_M_does_350 (do_f (fun _ => (by rw [h204, mo_29]; exact sh_sar1 (gv_lt16 hg 272) (kb_n0 h241) hu1 (by first | exact Or.inl (min_s h218) | exact Or.inr (min_b h218)) : gv u1 304 16 = m_op o (gv g 256 16) (gv g 272 16) (gv g 288 16)).trans (mr_op (by omega))) hu1.1 hu1.2.1) (by rw [← mm_81 (o := o) (A := gv g 256 16) (B := gv g 272 16) (by omega) (by omega)]; exact hP) hS
                  · refine lv_aload_n hx hb d_M_does_167 rfl (lv_at hl 0 rfl) ?_
                    refine lv_aload_n hx hb d_M_does_168 rfl (lv_at hl 0 rfl) ?_
                    refine lv_sipush (v := nI 256) hx hb d_M_does_169 (by decide) ?_
                    refine k_Vp (As := [.int (nI 256)]) (rest := [.ref mo]) ⟨hx, hb, hml, hown, hts⟩ (c_M_small l E mo mb mm mw mh ml len en gas ctr siz hgt frm ret on ay g hg 256 (by decide)) (k_cwV 1 hts t_857 t_859 t_32 t_71 t_860 (by decide +kernel) ⟨Nat.le_of_ble_eq_true rfl, Nat.le_of_ble_eq_true rfl⟩) hK hG hA hP hD hS [0, 3] rfl (by decide) 0 rfl rfl rfl hl.1 rfl (Nat.le_of_ble_eq_true rfl) d_M_does_172 ⟨Nat.zero_le _, Nat.zero_le _⟩ (fun r172 hu172 => ?_)
                    subst hu172
                    refine lv_sipush (v := nI 255) hx hb d_M_does_175 (by decide) ?_
                    refine kn_le (tgt := 187) hx hb (by omega) (by omega) d_M_does_178 (by decide) (fun h178 => ?_) (fun h178 => ?_)
                    · refine lv_aload_n hx hb d_M_does_187 rfl (lv_at hl 0 rfl) ?_
                      refine lv_sipush (v := nI 256) hx hb d_M_does_188 (by decide) ?_
                      refine k_Vp (As := [.int (nI 256)]) (rest := [.ref mo]) ⟨hx, hb, hml, hown, hts⟩ (c_M_small l E mo mb mm mw mh ml len en gas ctr siz hgt frm ret on ay g hg 256 (by decide)) (k_cwV 1 hts t_857 t_859 t_32 t_71 t_860 (by decide +kernel) ⟨Nat.le_of_ble_eq_true rfl, Nat.le_of_ble_eq_true rfl⟩) hK hG hA hP hD hS [0, 3] rfl (by decide) 0 rfl rfl rfl hl.1 rfl (Nat.le_of_ble_eq_true rfl) d_M_does_191 ⟨Nat.zero_le _, Nat.zero_le _⟩ (fun r191 hu191 => ?_)
                      subst hu191
                      refine lv_iconst (v := nI 0) hx hb d_M_does_194 (by decide) ?_
                      refine k_Vv (As := [.int (nI (min (gv g 256 16) 65535)), .int (nI 0)]) (rest := []) ⟨hx, hb, hml, hown, hts⟩ (c_M_shiftDown l E mo mb mm mw mh ml len en gas ctr siz hgt frm ret on ay g hg (min (gv g 256 16) 65535) 0 (by omega) (by decide)) (k_cwV 2 hts t_954 t_956 t_55 t_71 t_957 (by decide +kernel) ⟨Nat.le_of_ble_eq_true rfl, Nat.le_of_ble_eq_true rfl⟩) hK hG hA hP hD hS [0, 3] rfl (by decide) 0 rfl rfl (fun _ => rfl) rfl hl.1 rfl (Nat.le_of_ble_eq_true rfl) d_M_does_195 ⟨Nat.zero_le _, Nat.zero_le _⟩ (fun u1 H locs hu1 hP hD hS => ?_)
                      have hP : va_P E.1 vwCl [(mo, .inr (8, [.int (nI len), .ref mb, .int (kb on), .int (nI en), .int (nI gas), .int (nI ctr), .int (nI siz), .int (nI hgt), .int (nI frm), .int (nI ret), .ref mm, .ref mw, .ref mh, .ref ml, .int (kb ay)])), (mb, .inl (E.2.1 0, 96, .inl (nF nb))), (mm, .inl (E.2.1 0, 160, .inl (nF mem))), (mw, .inl (E.2.1 0, 370, .inl (nF u1)))] H := hP
                      have hD : va_D A [(mo, .inr (8, [.int (nI len), .ref mb, .int (kb on), .int (nI en), .int (nI gas), .int (nI ctr), .int (nI siz), .int (nI hgt), .int (nI frm), .int (nI ret), .ref mm, .ref mw, .ref mh, .ref ml, .int (kb ay)])), (mb, .inl (E.2.1 0, 96, .inl (nF nb))), (mm, .inl (E.2.1 0, 160, .inl (nF mem))), (mw, .inl (E.2.1 0, 370, .inl (nF u1)))] := hD
                      refine lv_goto (tgt := 350) hx hb d_M_does_198 (by decide) ?_
                      exact hret _ ls _ _ (u1) d_M_does_350 (do_f (fun _ => (by rw [h164, mo_28]; exact sh_shr (gv_lt16 hg 272) hu1 (by first | exact Or.inl (min_s h178) | exact Or.inr (min_b h178)) : gv u1 304 16 = m_op o (gv g 256 16) (gv g 272 16) (gv g 288 16)).trans (mr_op (by omega))) hu1.1 hu1.2.1) (by rw [← mm_81 (o := o) (A := gv g 256 16) (B := gv g 272 16) (by omega) (by omega)]; exact hP) hS
                    · refine lv_sipush (v := nI 256) hx hb d_M_does_181 (by decide) ?_
                      refine lv_goto (tgt := 194) hx hb d_M_does_184 (by decide) ?_
                      refine lv_iconst (v := nI 0) hx hb d_M_does_194 (by decide) ?_
                      refine k_Vv (As := [.int (nI 256), .int (nI 0)]) (rest := []) ⟨hx, hb, hml, hown, hts⟩ (c_M_shiftDown l E mo mb mm mw mh ml len en gas ctr siz hgt frm ret on ay g hg 256 0 (by omega) (by decide)) (k_cwV 2 hts t_954 t_956 t_55 t_71 t_957 (by decide +kernel) ⟨Nat.le_of_ble_eq_true rfl, Nat.le_of_ble_eq_true rfl⟩) hK hG hA hP hD hS [0, 3] rfl (by decide) 0 rfl rfl (fun _ => rfl) rfl hl.1 rfl (Nat.le_of_ble_eq_true rfl) d_M_does_195 ⟨Nat.zero_le _, Nat.zero_le _⟩ (fun u1 H locs hu1 hP hD hS => ?_)
                      have hP : va_P E.1 vwCl [(mo, .inr (8, [.int (nI len), .ref mb, .int (kb on), .int (nI en), .int (nI gas), .int (nI ctr), .int (nI siz), .int (nI hgt), .int (nI frm), .int (nI ret), .ref mm, .ref mw, .ref mh, .ref ml, .int (kb ay)])), (mb, .inl (E.2.1 0, 96, .inl (nF nb))), (mm, .inl (E.2.1 0, 160, .inl (nF mem))), (mw, .inl (E.2.1 0, 370, .inl (nF u1)))] H := hP
                      have hD : va_D A [(mo, .inr (8, [.int (nI len), .ref mb, .int (kb on), .int (nI en), .int (nI gas), .int (nI ctr), .int (nI siz), .int (nI hgt), .int (nI frm), .int (nI ret), .ref mm, .ref mw, .ref mh, .ref ml, .int (kb ay)])), (mb, .inl (E.2.1 0, 96, .inl (nF nb))), (mm, .inl (E.2.1 0, 160, .inl (nF mem))), (mw, .inl (E.2.1 0, 370, .inl (nF u1)))] := hD
                      refine lv_goto (tgt := 350) hx hb d_M_does_198 (by decide) ?_
                      exact hret _ ls _ _ (u1) d_M_does_350 (do_f (fun _ => (by rw [h164, mo_28]; exact sh_shr (gv_lt16 hg 272) hu1 (by first | exact Or.inl (min_s h178) | exact Or.inr (min_b h178)) : gv u1 304 16 = m_op o (gv g 256 16) (gv g 272 16) (gv g 288 16)).trans (mr_op (by omega))) hu1.1 hu1.2.1) (by rw [← mm_81 (o := o) (A := gv g 256 16) (B := gv g 272 16) (by omega) (by omega)]; exact hP) hS
                · refine lv_aload_n hx hb d_M_does_126 rfl (lv_at hl 0 rfl) ?_
                  refine lv_aload_n hx hb d_M_does_127 rfl (lv_at hl 0 rfl) ?_
                  refine lv_sipush (v := nI 256) hx hb d_M_does_128 (by decide) ?_
                  refine k_Vp (As := [.int (nI 256)]) (rest := [.ref mo]) ⟨hx, hb, hml, hown, hts⟩ (c_M_small l E mo mb mm mw mh ml len en gas ctr siz hgt frm ret on ay g hg 256 (by decide)) (k_cwV 1 hts t_857 t_859 t_32 t_71 t_860 (by decide +kernel) ⟨Nat.le_of_ble_eq_true rfl, Nat.le_of_ble_eq_true rfl⟩) hK hG hA hP hD hS [0, 3] rfl (by decide) 0 rfl rfl rfl hl.1 rfl (Nat.le_of_ble_eq_true rfl) d_M_does_131 ⟨Nat.zero_le _, Nat.zero_le _⟩ (fun r131 hu131 => ?_)
                  subst hu131
                  refine lv_sipush (v := nI 255) hx hb d_M_does_134 (by decide) ?_
                  refine kn_le (tgt := 146) hx hb (by omega) (by omega) d_M_does_137 (by decide) (fun h137 => ?_) (fun h137 => ?_)
                  · refine lv_aload_n hx hb d_M_does_146 rfl (lv_at hl 0 rfl) ?_
                    refine lv_sipush (v := nI 256) hx hb d_M_does_147 (by decide) ?_
                    refine k_Vp (As := [.int (nI 256)]) (rest := [.ref mo]) ⟨hx, hb, hml, hown, hts⟩ (c_M_small l E mo mb mm mw mh ml len en gas ctr siz hgt frm ret on ay g hg 256 (by decide)) (k_cwV 1 hts t_857 t_859 t_32 t_71 t_860 (by decide +kernel) ⟨Nat.le_of_ble_eq_true rfl, Nat.le_of_ble_eq_true rfl⟩) hK hG hA hP hD hS [0, 3] rfl (by decide) 0 rfl rfl rfl hl.1 rfl (Nat.le_of_ble_eq_true rfl) d_M_does_150 ⟨Nat.zero_le _, Nat.zero_le _⟩ (fun r150 hu150 => ?_)
                    subst hu150
                    refine lv_ineg hx hb d_M_does_153 ?_
                    refine lv_iconst (v := nI 0) hx hb d_M_does_154 (by decide) ?_
                    refine k_Vv (As := [.int (-(nI (min (gv g 256 16) 65535))), .int (nI 0)]) (rest := []) ⟨hx, hb, hml, hown, hts⟩ (c_M_shiftUp l E mo mb mm mw mh ml len en gas ctr siz hgt frm ret on ay g hg (min (gv g 256 16) 65535) 0 (by omega) (by decide)) (k_cwV 2 hts t_954 t_956 t_55 t_71 t_957 (by decide +kernel) ⟨Nat.le_of_ble_eq_true rfl, Nat.le_of_ble_eq_true rfl⟩) hK hG hA hP hD hS [0, 3] rfl (by decide) 0 rfl rfl (fun _ => rfl) rfl hl.1 rfl (Nat.le_of_ble_eq_true rfl) d_M_does_155 ⟨Nat.zero_le _, Nat.zero_le _⟩ (fun u1 H locs hu1 hP hD hS => ?_)
                    have hP : va_P E.1 vwCl [(mo, .inr (8, [.int (nI len), .ref mb, .int (kb on), .int (nI en), .int (nI gas), .int (nI ctr), .int (nI siz), .int (nI hgt), .int (nI frm), .int (nI ret), .ref mm, .ref mw, .ref mh, .ref ml, .int (kb ay)])), (mb, .inl (E.2.1 0, 96, .inl (nF nb))), (mm, .inl (E.2.1 0, 160, .inl (nF mem))), (mw, .inl (E.2.1 0, 370, .inl (nF u1)))] H := hP
                    have hD : va_D A [(mo, .inr (8, [.int (nI len), .ref mb, .int (kb on), .int (nI en), .int (nI gas), .int (nI ctr), .int (nI siz), .int (nI hgt), .int (nI frm), .int (nI ret), .ref mm, .ref mw, .ref mh, .ref ml, .int (kb ay)])), (mb, .inl (E.2.1 0, 96, .inl (nF nb))), (mm, .inl (E.2.1 0, 160, .inl (nF mem))), (mw, .inl (E.2.1 0, 370, .inl (nF u1)))] := hD
                    refine lv_goto (tgt := 350) hx hb d_M_does_158 (by decide) ?_
                    exact hret _ ls _ _ (u1) d_M_does_350 (do_f (fun _ => (by rw [h123, mo_27]; exact sh_shl hu1 (by first | exact Or.inl (min_s h137) | exact Or.inr (min_b h137)) : gv u1 304 16 = m_op o (gv g 256 16) (gv g 272 16) (gv g 288 16)).trans (mr_op (by omega))) hu1.1 hu1.2.1) (by rw [← mm_81 (o := o) (A := gv g 256 16) (B := gv g 272 16) (by omega) (by omega)]; exact hP) hS
                  · refine lv_sipush (v := -256) hx hb d_M_does_140 (by decide) ?_
                    refine k_top (y := -(nI 256)) (by decide) ?_
                    refine lv_goto (tgt := 154) hx hb d_M_does_143 (by decide) ?_
                    refine lv_iconst (v := nI 0) hx hb d_M_does_154 (by decide) ?_
                    refine k_Vv (As := [.int (-(nI 256)), .int (nI 0)]) (rest := []) ⟨hx, hb, hml, hown, hts⟩ (c_M_shiftUp l E mo mb mm mw mh ml len en gas ctr siz hgt frm ret on ay g hg 256 0 (by omega) (by decide)) (k_cwV 2 hts t_954 t_956 t_55 t_71 t_957 (by decide +kernel) ⟨Nat.le_of_ble_eq_true rfl, Nat.le_of_ble_eq_true rfl⟩) hK hG hA hP hD hS [0, 3] rfl (by decide) 0 rfl rfl (fun _ => rfl) rfl hl.1 rfl (Nat.le_of_ble_eq_true rfl) d_M_does_155 ⟨Nat.zero_le _, Nat.zero_le _⟩ (fun u1 H locs hu1 hP hD hS => ?_)
                    have hP : va_P E.1 vwCl [(mo, .inr (8, [.int (nI len), .ref mb, .int (kb on), .int (nI en), .int (nI gas), .int (nI ctr), .int (nI siz), .int (nI hgt), .int (nI frm), .int (nI ret), .ref mm, .ref mw, .ref mh, .ref ml, .int (kb ay)])), (mb, .inl (E.2.1 0, 96, .inl (nF nb))), (mm, .inl (E.2.1 0, 160, .inl (nF mem))), (mw, .inl (E.2.1 0, 370, .inl (nF u1)))] H := hP
                    have hD : va_D A [(mo, .inr (8, [.int (nI len), .ref mb, .int (kb on), .int (nI en), .int (nI gas), .int (nI ctr), .int (nI siz), .int (nI hgt), .int (nI frm), .int (nI ret), .ref mm, .ref mw, .ref mh, .ref ml, .int (kb ay)])), (mb, .inl (E.2.1 0, 96, .inl (nF nb))), (mm, .inl (E.2.1 0, 160, .inl (nF mem))), (mw, .inl (E.2.1 0, 370, .inl (nF u1)))] := hD
                    refine lv_goto (tgt := 350) hx hb d_M_does_158 (by decide) ?_
                    exact hret _ ls _ _ (u1) d_M_does_350 (do_f (fun _ => (by rw [h123, mo_27]; exact sh_shl hu1 (by first | exact Or.inl (min_s h137) | exact Or.inr (min_b h137)) : gv u1 304 16 = m_op o (gv g 256 16) (gv g 272 16) (gv g 288 16)).trans (mr_op (by omega))) hu1.1 hu1.2.1) (by rw [← mm_81 (o := o) (A := gv g 256 16) (B := gv g 272 16) (by omega) (by omega)]; exact hP) hS
              · refine lv_aload_n hx hb d_M_does_80 rfl (lv_at hl 0 rfl) ?_
                refine lv_sipush (v := nI 304) hx hb d_M_does_81 (by decide) ?_
                refine lv_aload_n hx hb d_M_does_84 rfl (lv_at hl 0 rfl) ?_
                refine lv_sipush (v := nI 256) hx hb d_M_does_85 (by decide) ?_
                refine k_Vp (As := [.int (nI 256)]) (rest := [.int (nI 304), .ref mo]) ⟨hx, hb, hml, hown, hts⟩ (c_M_small l E mo mb mm mw mh ml len en gas ctr siz hgt frm ret on ay g hg 256 (by decide)) (k_cwV 1 hts t_857 t_859 t_32 t_71 t_860 (by decide +kernel) ⟨Nat.le_of_ble_eq_true rfl, Nat.le_of_ble_eq_true rfl⟩) hK hG hA hP hD hS [0, 3] rfl (by decide) 0 rfl rfl rfl hl.1 rfl (Nat.le_of_ble_eq_true rfl) d_M_does_88 ⟨Nat.zero_le _, Nat.zero_le _⟩ (fun r88 hu88 => ?_)
                subst hu88
                refine lv_bipush (v := nI 31) hx hb d_M_does_91 (by decide) ?_
                refine kn_le (tgt := 100) hx hb (by omega) (by omega) d_M_does_93 (by decide) (fun h93 => ?_) (fun h93 => ?_)
                · refine lv_aload_n hx hb d_M_does_100 rfl (lv_at hl 0 rfl) ?_
                  refine lv_sipush (v := nI 272) hx hb d_M_does_101 (by decide) ?_
                  refine lv_aload_n hx hb d_M_does_104 rfl (lv_at hl 0 rfl) ?_
                  refine lv_sipush (v := nI 256) hx hb d_M_does_105 (by decide) ?_
                  refine k_Vp (As := [.int (nI 256)]) (rest := [.int (nI 272), .ref mo, .int (nI 304), .ref mo]) ⟨hx, hb, hml, hown, hts⟩ (c_M_small l E mo mb mm mw mh ml len en gas ctr siz hgt frm ret on ay g hg 256 (by decide)) (k_cwV 1 hts t_857 t_859 t_32 t_71 t_860 (by decide +kernel) ⟨Nat.le_of_ble_eq_true rfl, Nat.le_of_ble_eq_true rfl⟩) hK hG hA hP hD hS [0, 3] rfl (by decide) 0 rfl rfl rfl hl.1 rfl (Nat.le_of_ble_eq_true rfl) d_M_does_108 ⟨Nat.zero_le _, Nat.zero_le _⟩ (fun r108 hu108 => ?_)
                  subst hu108
                  refine k_Vp (As := [.int (nI 272), .int (nI (min (gv g 256 16) 65535))]) (rest := [.int (nI 304), .ref mo]) ⟨hx, hb, hml, hown, hts⟩ (c_M_byteOf l E mo mb mm mw mh ml len en gas ctr siz hgt frm ret on ay g hg 272 (min (gv g 256 16) 65535) (by decide) (by omega)) (k_cwV 2 hts t_950 t_952 t_54 t_71 t_953 (by decide +kernel) ⟨Nat.le_of_ble_eq_true rfl, Nat.le_of_ble_eq_true rfl⟩) hK hG hA hP hD hS [0, 3] rfl (by decide) 0 rfl rfl rfl hl.1 rfl (Nat.le_of_ble_eq_true rfl) d_M_does_111 ⟨Nat.zero_le _, Nat.zero_le _⟩ (fun r111 hu111 => ?_)
                  subst hu111
                  have hnv : (m_byte (min (gv g 256 16) 65535) (gv g 272 16)) < 2147483648 := (Nat.lt_trans (byte_b _ _) (by decide))
                  refine k_Vv (As := [.int (nI 304), .int (nI (m_byte (min (gv g 256 16) 65535) (gv g 272 16)))]) (rest := []) ⟨hx, hb, hml, hown, hts⟩ (c_M_number l E mo mb mm mw mh ml len en gas ctr siz hgt frm ret on ay g hg 304 (m_byte (min (gv g 256 16) 65535) (gv g 272 16)) (by decide) hnv) (k_cwV 2 hts t_942 t_944 t_52 t_71 t_945 (by decide +kernel) ⟨Nat.le_of_ble_eq_true rfl, Nat.le_of_ble_eq_true rfl⟩) hK hG hA hP hD hS [0, 3] rfl (by decide) 0 rfl rfl (fun _ => rfl) rfl hl.1 rfl (Nat.le_of_ble_eq_true rfl) d_M_does_114 ⟨Nat.zero_le _, Nat.zero_le _⟩ (fun u1 H locs hu1 hP hD hS => ?_)
                  have hP : va_P E.1 vwCl [(mo, .inr (8, [.int (nI len), .ref mb, .int (kb on), .int (nI en), .int (nI gas), .int (nI ctr), .int (nI siz), .int (nI hgt), .int (nI frm), .int (nI ret), .ref mm, .ref mw, .ref mh, .ref ml, .int (kb ay)])), (mb, .inl (E.2.1 0, 96, .inl (nF nb))), (mm, .inl (E.2.1 0, 160, .inl (nF mem))), (mw, .inl (E.2.1 0, 370, .inl (nF (nmb g 304 (m_byte (min (gv g 256 16) 65535) (gv g 272 16))))))] H := hP
                  have hD : va_D A [(mo, .inr (8, [.int (nI len), .ref mb, .int (kb on), .int (nI en), .int (nI gas), .int (nI ctr), .int (nI siz), .int (nI hgt), .int (nI frm), .int (nI ret), .ref mm, .ref mw, .ref mh, .ref ml, .int (kb ay)])), (mb, .inl (E.2.1 0, 96, .inl (nF nb))), (mm, .inl (E.2.1 0, 160, .inl (nF mem))), (mw, .inl (E.2.1 0, 370, .inl (nF (nmb g 304 (m_byte (min (gv g 256 16) 65535) (gv g 272 16))))))] := hD
                  refine lv_goto (tgt := 350) hx hb d_M_does_117 (by decide) ?_
                  exact hret _ ls _ _ (nmb g 304 (m_byte (min (gv g 256 16) 65535) (gv g 272 16))) d_M_does_350 (do_n hg (Nat.lt_trans hnv (by decide)) ((by rw [h77, mo_26]; first | exact byt_min h93 | exact byt_big h93 : m_byte (min (gv g 256 16) 65535) (gv g 272 16) = m_op o (gv g 256 16) (gv g 272 16) (gv g 288 16)).trans (mr_op (by omega)))) (by rw [← mm_81 (o := o) (A := gv g 256 16) (B := gv g 272 16) (by omega) (by omega)]; exact hP) hS
                · refine lv_iconst (v := nI 0) hx hb d_M_does_96 (by decide) ?_
                  refine lv_goto (tgt := 114) hx hb d_M_does_97 (by decide) ?_
                  have hnv : 0 < 2147483648 := (by omega)
                  refine k_Vv (As := [.int (nI 304), .int (nI 0)]) (rest := []) ⟨hx, hb, hml, hown, hts⟩ (c_M_number l E mo mb mm mw mh ml len en gas ctr siz hgt frm ret on ay g hg 304 0 (by decide) hnv) (k_cwV 2 hts t_942 t_944 t_52 t_71 t_945 (by decide +kernel) ⟨Nat.le_of_ble_eq_true rfl, Nat.le_of_ble_eq_true rfl⟩) hK hG hA hP hD hS [0, 3] rfl (by decide) 0 rfl rfl (fun _ => rfl) rfl hl.1 rfl (Nat.le_of_ble_eq_true rfl) d_M_does_114 ⟨Nat.zero_le _, Nat.zero_le _⟩ (fun u1 H locs hu1 hP hD hS => ?_)
                  have hP : va_P E.1 vwCl [(mo, .inr (8, [.int (nI len), .ref mb, .int (kb on), .int (nI en), .int (nI gas), .int (nI ctr), .int (nI siz), .int (nI hgt), .int (nI frm), .int (nI ret), .ref mm, .ref mw, .ref mh, .ref ml, .int (kb ay)])), (mb, .inl (E.2.1 0, 96, .inl (nF nb))), (mm, .inl (E.2.1 0, 160, .inl (nF mem))), (mw, .inl (E.2.1 0, 370, .inl (nF (nmb g 304 0))))] H := hP
                  have hD : va_D A [(mo, .inr (8, [.int (nI len), .ref mb, .int (kb on), .int (nI en), .int (nI gas), .int (nI ctr), .int (nI siz), .int (nI hgt), .int (nI frm), .int (nI ret), .ref mm, .ref mw, .ref mh, .ref ml, .int (kb ay)])), (mb, .inl (E.2.1 0, 96, .inl (nF nb))), (mm, .inl (E.2.1 0, 160, .inl (nF mem))), (mw, .inl (E.2.1 0, 370, .inl (nF (nmb g 304 0))))] := hD
                  refine lv_goto (tgt := 350) hx hb d_M_does_117 (by decide) ?_
                  exact hret _ ls _ _ (nmb g 304 0) d_M_does_350 (do_n hg (Nat.lt_trans hnv (by decide)) ((by rw [h77, mo_26]; first | exact byt_min h93 | exact byt_big h93 : 0 = m_op o (gv g 256 16) (gv g 272 16) (gv g 288 16)).trans (mr_op (by omega)))) (by rw [← mm_81 (o := o) (A := gv g 256 16) (B := gv g 272 16) (by omega) (by omega)]; exact hP) hS
            · refine lv_aload_n hx hb d_M_does_66 rfl (lv_at hl 0 rfl) ?_
              refine lv_iload_n hx hb d_M_does_67 rfl (lv_at hl 1 rfl) ?_
              refine k_Vv (As := [.int (nI o)]) (rest := []) ⟨hx, hb, hml, hown, hts⟩ (c_M_joins l E mo mb mm mw mh ml len en gas ctr siz hgt frm ret on ay g hg o (by omega)) (k_cwV 1 hts t_946 t_948 t_53 t_71 t_949 (by decide +kernel) ⟨Nat.le_of_ble_eq_true rfl, Nat.le_of_ble_eq_true rfl⟩) hK hG hA hP hD hS [0, 3] rfl (by decide) 0 rfl rfl (fun _ => rfl) rfl hl.1 rfl (Nat.le_of_ble_eq_true rfl) d_M_does_68 ⟨Nat.zero_le _, Nat.zero_le _⟩ (fun u1 H locs hu1 hP hD hS => ?_)
              have hP : va_P E.1 vwCl [(mo, .inr (8, [.int (nI len), .ref mb, .int (kb on), .int (nI en), .int (nI gas), .int (nI ctr), .int (nI siz), .int (nI hgt), .int (nI frm), .int (nI ret), .ref mm, .ref mw, .ref mh, .ref ml, .int (kb ay)])), (mb, .inl (E.2.1 0, 96, .inl (nF nb))), (mm, .inl (E.2.1 0, 160, .inl (nF mem))), (mw, .inl (E.2.1 0, 370, .inl (nF u1)))] H := hP
              have hD : va_D A [(mo, .inr (8, [.int (nI len), .ref mb, .int (kb on), .int (nI en), .int (nI gas), .int (nI ctr), .int (nI siz), .int (nI hgt), .int (nI frm), .int (nI ret), .ref mm, .ref mw, .ref mh, .ref ml, .int (kb ay)])), (mb, .inl (E.2.1 0, 96, .inl (nF nb))), (mm, .inl (E.2.1 0, 160, .inl (nF mem))), (mw, .inl (E.2.1 0, 370, .inl (nF u1)))] := hD
              refine lv_goto (tgt := 350) hx hb d_M_does_71 (by decide) ?_
              exact hret _ ls _ _ (u1) d_M_does_350 (do_f (fun _ => (hu1.1 _).trans (mr_op (by omega))) hu1.2.1 hu1.2.2) (by rw [← mm_81 (o := o) (A := gv g 256 16) (B := gv g 272 16) (by omega) (by omega)]; exact hP) hS
        · refine lv_aload_n hx hb d_M_does_31 rfl (lv_at hl 0 rfl) ?_
          refine lv_sipush (v := nI 304) hx hb d_M_does_32 (by decide) ?_
          refine lv_aload_n hx hb d_M_does_35 rfl (lv_at hl 0 rfl) ?_
          refine lv_iload_n hx hb d_M_does_36 rfl (lv_at hl 1 rfl) ?_
          refine k_Vp (As := [.int (nI o)]) (rest := [.int (nI 304), .ref mo]) ⟨hx, hb, hml, hown, hts⟩ (c_M_holds l E mo mb mm mw mh ml len en gas ctr siz hgt frm ret on ay g hg o (by omega)) (k_cwV 1 hts t_930 t_932 t_49 t_71 t_933 (by decide +kernel) ⟨Nat.le_of_ble_eq_true rfl, Nat.le_of_ble_eq_true rfl⟩) hK hG hA hP hD hS [0, 3] rfl (by decide) 0 rfl rfl rfl hl.1 rfl (Nat.le_of_ble_eq_true rfl) d_M_does_37 ⟨Nat.zero_le _, Nat.zero_le _⟩ (fun r37 hu37 => ?_)
          subst hu37
          refine lv_if_eq (tgt := 47) hx hb d_M_does_40 (by decide) (fun h40 => ?_) (fun h40 => ?_)
          · refine lv_iconst (v := nI 0) hx hb d_M_does_47 (by decide) ?_
            have hnv : 0 < 2147483648 := (by omega)
            refine k_Vv (As := [.int (nI 304), .int (nI 0)]) (rest := []) ⟨hx, hb, hml, hown, hts⟩ (c_M_number l E mo mb mm mw mh ml len en gas ctr siz hgt frm ret on ay g hg 304 0 (by decide) hnv) (k_cwV 2 hts t_942 t_944 t_52 t_71 t_945 (by decide +kernel) ⟨Nat.le_of_ble_eq_true rfl, Nat.le_of_ble_eq_true rfl⟩) hK hG hA hP hD hS [0, 3] rfl (by decide) 0 rfl rfl (fun _ => rfl) rfl hl.1 rfl (Nat.le_of_ble_eq_true rfl) d_M_does_48 ⟨Nat.zero_le _, Nat.zero_le _⟩ (fun u1 H locs hu1 hP hD hS => ?_)
            have hP : va_P E.1 vwCl [(mo, .inr (8, [.int (nI len), .ref mb, .int (kb on), .int (nI en), .int (nI gas), .int (nI ctr), .int (nI siz), .int (nI hgt), .int (nI frm), .int (nI ret), .ref mm, .ref mw, .ref mh, .ref ml, .int (kb ay)])), (mb, .inl (E.2.1 0, 96, .inl (nF nb))), (mm, .inl (E.2.1 0, 160, .inl (nF mem))), (mw, .inl (E.2.1 0, 370, .inl (nF (nmb g 304 0))))] H := hP
            have hD : va_D A [(mo, .inr (8, [.int (nI len), .ref mb, .int (kb on), .int (nI en), .int (nI gas), .int (nI ctr), .int (nI siz), .int (nI hgt), .int (nI frm), .int (nI ret), .ref mm, .ref mw, .ref mh, .ref ml, .int (kb ay)])), (mb, .inl (E.2.1 0, 96, .inl (nF nb))), (mm, .inl (E.2.1 0, 160, .inl (nF mem))), (mw, .inl (E.2.1 0, 370, .inl (nF (nmb g 304 0))))] := hD
            refine lv_goto (tgt := 350) hx hb d_M_does_51 (by decide) ?_
            exact hret _ ls _ _ (nmb g 304 0) d_M_does_350 (do_n hg (by decide) ((by rw [hold_op (by omega) (by omega)]; first | (rw [kb_n0 h40]; rfl) | (rw [kb_0.mp h40]; rfl) : 0 = m_op o (gv g 256 16) (gv g 272 16) (gv g 288 16)).trans (mr_op (by omega)))) (by rw [← mm_81 (o := o) (A := gv g 256 16) (B := gv g 272 16) (by omega) (by omega)]; exact hP) hS
          · refine lv_iconst (v := nI 1) hx hb d_M_does_43 (by decide) ?_
            refine lv_goto (tgt := 48) hx hb d_M_does_44 (by decide) ?_
            have hnv : 1 < 2147483648 := (by omega)
            refine k_Vv (As := [.int (nI 304), .int (nI 1)]) (rest := []) ⟨hx, hb, hml, hown, hts⟩ (c_M_number l E mo mb mm mw mh ml len en gas ctr siz hgt frm ret on ay g hg 304 1 (by decide) hnv) (k_cwV 2 hts t_942 t_944 t_52 t_71 t_945 (by decide +kernel) ⟨Nat.le_of_ble_eq_true rfl, Nat.le_of_ble_eq_true rfl⟩) hK hG hA hP hD hS [0, 3] rfl (by decide) 0 rfl rfl (fun _ => rfl) rfl hl.1 rfl (Nat.le_of_ble_eq_true rfl) d_M_does_48 ⟨Nat.zero_le _, Nat.zero_le _⟩ (fun u1 H locs hu1 hP hD hS => ?_)
            have hP : va_P E.1 vwCl [(mo, .inr (8, [.int (nI len), .ref mb, .int (kb on), .int (nI en), .int (nI gas), .int (nI ctr), .int (nI siz), .int (nI hgt), .int (nI frm), .int (nI ret), .ref mm, .ref mw, .ref mh, .ref ml, .int (kb ay)])), (mb, .inl (E.2.1 0, 96, .inl (nF nb))), (mm, .inl (E.2.1 0, 160, .inl (nF mem))), (mw, .inl (E.2.1 0, 370, .inl (nF (nmb g 304 1))))] H := hP
            have hD : va_D A [(mo, .inr (8, [.int (nI len), .ref mb, .int (kb on), .int (nI en), .int (nI gas), .int (nI ctr), .int (nI siz), .int (nI hgt), .int (nI frm), .int (nI ret), .ref mm, .ref mw, .ref mh, .ref ml, .int (kb ay)])), (mb, .inl (E.2.1 0, 96, .inl (nF nb))), (mm, .inl (E.2.1 0, 160, .inl (nF mem))), (mw, .inl (E.2.1 0, 370, .inl (nF (nmb g 304 1))))] := hD
            refine lv_goto (tgt := 350) hx hb d_M_does_51 (by decide) ?_
            exact hret _ ls _ _ (nmb g 304 1) d_M_does_350 (do_n hg (by decide) ((by rw [hold_op (by omega) (by omega)]; first | (rw [kb_n0 h40]; rfl) | (rw [kb_0.mp h40]; rfl) : 1 = m_op o (gv g 256 16) (gv g 272 16) (gv g 288 16)).trans (mr_op (by omega)))) (by rw [← mm_81 (o := o) (A := gv g 256 16) (B := gv g 272 16) (by omega) (by omega)]; exact hP) hS
    · refine lv_aload_n hx hb d_M_does_11 rfl (lv_at hl 0 rfl) ?_
      refine lv_iload_n hx hb d_M_does_12 rfl (lv_at hl 1 rfl) ?_
      refine k_Vv (As := [.int (nI o)]) (rest := []) ⟨hx, hb, hml, hown, hts⟩ (c_M_reckons l E mo mb mm mw mh ml len en gas ctr siz hgt frm ret on ay g hg o (by omega)) (k_cwV 1 hts t_881 t_883 t_37 t_71 t_884 (by decide +kernel) ⟨Nat.le_of_ble_eq_true rfl, Nat.le_of_ble_eq_true rfl⟩) hK hG hA hP hD hS [0, 3] rfl (by decide) 0 rfl rfl (fun _ => rfl) rfl hl.1 rfl (Nat.le_of_ble_eq_true rfl) d_M_does_13 ⟨Nat.zero_le _, Nat.zero_le _⟩ (fun u1 H locs hu1 hP hD hS => ?_)
      have hP : va_P E.1 vwCl [(mo, .inr (8, [.int (nI len), .ref mb, .int (kb on), .int (nI en), .int (nI gas), .int (nI ctr), .int (nI siz), .int (nI hgt), .int (nI frm), .int (nI ret), .ref mm, .ref mw, .ref mh, .ref ml, .int (kb ay)])), (mb, .inl (E.2.1 0, 96, .inl (nF nb))), (mm, .inl (E.2.1 0, 160, .inl (nF mem))), (mw, .inl (E.2.1 0, 370, .inl (nF u1)))] H := hP
      have hD : va_D A [(mo, .inr (8, [.int (nI len), .ref mb, .int (kb on), .int (nI en), .int (nI gas), .int (nI ctr), .int (nI siz), .int (nI hgt), .int (nI frm), .int (nI ret), .ref mm, .ref mw, .ref mh, .ref ml, .int (kb ay)])), (mb, .inl (E.2.1 0, 96, .inl (nF nb))), (mm, .inl (E.2.1 0, 160, .inl (nF mem))), (mw, .inl (E.2.1 0, 370, .inl (nF u1)))] := hD
      refine lv_goto (tgt := 350) hx hb d_M_does_16 (by decide) ?_
      exact hret _ ls _ _ (u1) d_M_does_350 (do_q (by omega) hu1 (mr_op (by omega))) (by rw [← mm_81 (o := o) (A := gv g 256 16) (B := gv g 272 16) (by omega) (by omega)]; exact hP) hS

