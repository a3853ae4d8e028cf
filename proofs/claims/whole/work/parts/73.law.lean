set_option maxRecDepth 20000 in
set_option maxHeartbeats 4000000 in
theorem law_method {p : Program} {l : Launch} {e : Env} {s : State} {m : MethodId} {b : Nat} {below : List Frame} {meth : Method} {c : Code} {G : Gm} {cells slots : Nat} {M N : Mem} {L : Nat} {xs : Nat → Int32} {i : Nat} (C : CxL p s m b meth c G L xs) (hL : L ≤ 3584) (hi : i + 7 ≤ L) (hcs : cells ≤ room_1.cells ∧ slots ≤ room_1.slots) (hB : CB M N) (kk : ∀ M' N', CB M' N' → VL p l e s m b below meth c G cells slots M' N' 558 [(3, .int (nI i)), (2, .ref (ad G 40 0)), (1, .ref (ad G 0 0)), (0, .ref b)] []) : VL p l e s m b below meth c G cells slots M N 92 [(3, .int (nI i)), (2, .ref (ad G 40 0)), (1, .ref (ad G 0 0)), (0, .ref b)] [] := by
  have hPI := hB.1.1
  have hRI := hB.1.2.1
  have hn6 := hPI.1
  have hr6 := hRI.1
  refine VL_aload_n C dL_law_92 rfl rfl ?_
  refine VL_callX C [] (ct_X10_method hPI) cv_X10_method lk_L_13 in_0 rfl rfl ⟨Nat.le_of_ble_eq_true rfl, Nat.le_of_ble_eq_true rfl⟩ hcs rfl rfl (Nat.le_of_ble_eq_true rfl) dL_law_93 (fun r1 M1 h1 => ?_)
  obtain ⟨y1, rfl⟩ : ∃ y1 : Int32, r1 = some (.int y1) := by
    rcases h1 with ⟨_, h, _⟩ | ⟨_, h, _⟩ <;> exact ⟨_, h.symm⟩
  refine VL_aload_n C dL_law_96 rfl rfl ?_
  refine VL_callM C [] (ct_X11_method hr6) cv_X11_method lk_L_17 in_40 rfl rfl ⟨Nat.le_of_ble_eq_true rfl, Nat.le_of_ble_eq_true rfl⟩ hcs rfl rfl (Nat.le_of_ble_eq_true rfl) dL_law_97 (fun r2 N1 h2 => ?_)
  obtain ⟨rfl, hB1⟩ := cpl_method hB h1 h2
  refine VL_icmpE (tgt := 558) C dL_law_100 (by decide) ?_
  exact kk _ _ hB1
set_option maxRecDepth 20000 in
set_option maxHeartbeats 4000000 in
theorem law_instruction {p : Program} {l : Launch} {e : Env} {s : State} {m : MethodId} {b : Nat} {below : List Frame} {meth : Method} {c : Code} {G : Gm} {cells slots : Nat} {M N : Mem} {L : Nat} {xs : Nat → Int32} {i : Nat} (C : CxL p s m b meth c G L xs) (hL : L ≤ 3584) (hi : i + 7 ≤ L) (hcs : cells ≤ room_1.cells ∧ slots ≤ room_1.slots) (hB : CB M N) (kk : ∀ M' N', CB M' N' → VL p l e s m b below meth c G cells slots M' N' 558 [(3, .int (nI i)), (2, .ref (ad G 40 0)), (1, .ref (ad G 0 0)), (0, .ref b)] []) : VL p l e s m b below meth c G cells slots M N 105 [(3, .int (nI i)), (2, .ref (ad G 40 0)), (1, .ref (ad G 0 0)), (0, .ref b)] [] := by
  have hPI := hB.1.1
  have hRI := hB.1.2.1
  have hn6 := hPI.1
  have hr6 := hRI.1
  refine VL_aload_n C dL_law_105 rfl rfl ?_
  refine VL_aload_n C dL_law_106 rfl rfl ?_
  refine VL_iload_n C dL_law_107 rfl rfl ?_
  refine VL_iconst C (nI 1) dL_law_108 (by decide) ?_
  refine VL_iaddN C dL_law_109 ?_
  refine VL_iald C (by omega) hL dL_law_110 ?_
  refine VL_aload_n C dL_law_111 rfl rfl ?_
  refine VL_iload_n C dL_law_112 rfl rfl ?_
  refine VL_iconst C (nI 2) dL_law_113 (by decide) ?_
  refine VL_iaddN C dL_law_114 ?_
  refine VL_iald C (by omega) hL dL_law_115 ?_
  refine VL_aload_n C dL_law_116 rfl rfl ?_
  refine VL_iload_n C dL_law_117 rfl rfl ?_
  refine VL_iconst C (nI 3) dL_law_118 (by decide) ?_
  refine VL_iaddN C dL_law_119 ?_
  refine VL_iald C (by omega) hL dL_law_120 ?_
  refine VL_aload_n C dL_law_121 rfl rfl ?_
  refine VL_iload_n C dL_law_122 rfl rfl ?_
  refine VL_iconst C (nI 4) dL_law_123 (by decide) ?_
  refine VL_iaddN C dL_law_124 ?_
  refine VL_iald C (by omega) hL dL_law_125 ?_
  refine VL_aload_n C dL_law_126 rfl rfl ?_
  refine VL_iload_n C dL_law_127 rfl rfl ?_
  refine VL_iconst C (nI 5) dL_law_128 (by decide) ?_
  refine VL_iaddN C dL_law_129 ?_
  refine VL_iald C (by omega) hL dL_law_130 ?_
  refine VL_i2l C dL_law_131 ?_
  refine VL_bipush C (nI 32) dL_law_132 (by decide) ?_
  refine VL_lshl C dL_law_134 ?_
  refine VL_aload_n C dL_law_135 rfl rfl ?_
  refine VL_iload_n C dL_law_136 rfl rfl ?_
  refine VL_bipush C (nI 6) dL_law_137 (by decide) ?_
  refine VL_iaddN C dL_law_139 ?_
  refine VL_iald C (by omega) hL dL_law_140 ?_
  refine VL_i2l C dL_law_141 ?_
  refine VL_ldc2 C wl_k18 dL_law_142 ?_
  refine VL_land C dL_law_145 ?_
  refine VL_lor C dL_law_146 ?_
  refine VL_callX C [_, _, _, _, _] (ct_X10_instruction hPI) cv_X10_instruction lk_L_20 in_0 rfl rfl ⟨Nat.le_of_ble_eq_true rfl, Nat.le_of_ble_eq_true rfl⟩ hcs rfl rfl (Nat.le_of_ble_eq_true rfl) dL_law_147 (fun r1 M1 h1 => ?_)
  obtain ⟨y1, rfl⟩ : ∃ y1 : Int32, r1 = some (.int y1) := by
    rcases h1 with ⟨_, _, _, _, _, _, _, _, _, _, _, _, _, ⟨_, h, _⟩ | ⟨_, h, _⟩⟩ | ⟨_, h, _⟩ <;> exact ⟨_, h.symm⟩
  refine VL_aload_n C dL_law_150 rfl rfl ?_
  refine VL_aload_n C dL_law_151 rfl rfl ?_
  refine VL_iload_n C dL_law_152 rfl rfl ?_
  refine VL_iconst C (nI 1) dL_law_153 (by decide) ?_
  refine VL_iaddN C dL_law_154 ?_
  refine VL_iald C (by omega) hL dL_law_155 ?_
  refine VL_aload_n C dL_law_156 rfl rfl ?_
  refine VL_iload_n C dL_law_157 rfl rfl ?_
  refine VL_iconst C (nI 2) dL_law_158 (by decide) ?_
  refine VL_iaddN C dL_law_159 ?_
  refine VL_iald C (by omega) hL dL_law_160 ?_
  refine VL_aload_n C dL_law_161 rfl rfl ?_
  refine VL_iload_n C dL_law_162 rfl rfl ?_
  refine VL_iconst C (nI 3) dL_law_163 (by decide) ?_
  refine VL_iaddN C dL_law_164 ?_
  refine VL_iald C (by omega) hL dL_law_165 ?_
  refine VL_aload_n C dL_law_166 rfl rfl ?_
  refine VL_iload_n C dL_law_167 rfl rfl ?_
  refine VL_iconst C (nI 4) dL_law_168 (by decide) ?_
  refine VL_iaddN C dL_law_169 ?_
  refine VL_iald C (by omega) hL dL_law_170 ?_
  refine VL_aload_n C dL_law_171 rfl rfl ?_
  refine VL_iload_n C dL_law_172 rfl rfl ?_
  refine VL_iconst C (nI 5) dL_law_173 (by decide) ?_
  refine VL_iaddN C dL_law_174 ?_
  refine VL_iald C (by omega) hL dL_law_175 ?_
  refine VL_i2l C dL_law_176 ?_
  refine VL_bipush C (nI 32) dL_law_177 (by decide) ?_
  refine VL_lshl C dL_law_179 ?_
  refine VL_aload_n C dL_law_180 rfl rfl ?_
  refine VL_iload_n C dL_law_181 rfl rfl ?_
  refine VL_bipush C (nI 6) dL_law_182 (by decide) ?_
  refine VL_iaddN C dL_law_184 ?_
  refine VL_iald C (by omega) hL dL_law_185 ?_
  refine VL_i2l C dL_law_186 ?_
  refine VL_ldc2 C wl_k18 dL_law_187 ?_
  refine VL_land C dL_law_190 ?_
  refine VL_lor C dL_law_191 ?_
  refine VL_callM C [_, _, _, _, _] (ct_X11_instruction hRI) cv_X11_instruction lk_L_24 in_40 rfl rfl ⟨Nat.le_of_ble_eq_true rfl, Nat.le_of_ble_eq_true rfl⟩ hcs rfl rfl (Nat.le_of_ble_eq_true rfl) dL_law_192 (fun r2 N1 h2 => ?_)
  obtain ⟨rfl, hB1⟩ := cpl_instruction hB h1 h2
  refine VL_icmpE (tgt := 558) C dL_law_195 (by decide) ?_
  exact kk _ _ hB1
set_option maxRecDepth 20000 in
set_option maxHeartbeats 4000000 in
theorem law_handler {p : Program} {l : Launch} {e : Env} {s : State} {m : MethodId} {b : Nat} {below : List Frame} {meth : Method} {c : Code} {G : Gm} {cells slots : Nat} {M N : Mem} {L : Nat} {xs : Nat → Int32} {i : Nat} (C : CxL p s m b meth c G L xs) (hL : L ≤ 3584) (hi : i + 7 ≤ L) (hcs : cells ≤ room_1.cells ∧ slots ≤ room_1.slots) (hB : CB M N) (kk : ∀ M' N', CB M' N' → VL p l e s m b below meth c G cells slots M' N' 558 [(3, .int (nI i)), (2, .ref (ad G 40 0)), (1, .ref (ad G 0 0)), (0, .ref b)] []) : VL p l e s m b below meth c G cells slots M N 200 [(3, .int (nI i)), (2, .ref (ad G 40 0)), (1, .ref (ad G 0 0)), (0, .ref b)] [] := by
  have hPI := hB.1.1
  have hRI := hB.1.2.1
  have hn6 := hPI.1
  have hr6 := hRI.1
  refine VL_aload_n C dL_law_200 rfl rfl ?_
  refine VL_aload_n C dL_law_201 rfl rfl ?_
  refine VL_iload_n C dL_law_202 rfl rfl ?_
  refine VL_iconst C (nI 1) dL_law_203 (by decide) ?_
  refine VL_iaddN C dL_law_204 ?_
  refine VL_iald C (by omega) hL dL_law_205 ?_
  refine VL_aload_n C dL_law_206 rfl rfl ?_
  refine VL_iload_n C dL_law_207 rfl rfl ?_
  refine VL_iconst C (nI 2) dL_law_208 (by decide) ?_
  refine VL_iaddN C dL_law_209 ?_
  refine VL_iald C (by omega) hL dL_law_210 ?_
  refine VL_aload_n C dL_law_211 rfl rfl ?_
  refine VL_iload_n C dL_law_212 rfl rfl ?_
  refine VL_iconst C (nI 3) dL_law_213 (by decide) ?_
  refine VL_iaddN C dL_law_214 ?_
  refine VL_iald C (by omega) hL dL_law_215 ?_
  refine VL_aload_n C dL_law_216 rfl rfl ?_
  refine VL_iload_n C dL_law_217 rfl rfl ?_
  refine VL_iconst C (nI 4) dL_law_218 (by decide) ?_
  refine VL_iaddN C dL_law_219 ?_
  refine VL_iald C (by omega) hL dL_law_220 ?_
  refine VL_aload_n C dL_law_221 rfl rfl ?_
  refine VL_iload_n C dL_law_222 rfl rfl ?_
  refine VL_iconst C (nI 5) dL_law_223 (by decide) ?_
  refine VL_iaddN C dL_law_224 ?_
  refine VL_iald C (by omega) hL dL_law_225 ?_
  refine VL_callX C [_, _, _, _, _] (ct_X10_handler hPI) cv_X10_handler lk_L_25 in_0 rfl rfl ⟨Nat.le_of_ble_eq_true rfl, Nat.le_of_ble_eq_true rfl⟩ hcs rfl rfl (Nat.le_of_ble_eq_true rfl) dL_law_226 (fun r1 M1 h1 => ?_)
  obtain ⟨y1, rfl⟩ : ∃ y1 : Int32, r1 = some (.int y1) := by
    rcases h1 with ⟨_, _, _, _, _, _, _, _, _, _, _, _, _, ⟨_, h, _⟩ | ⟨_, h, _⟩⟩ | ⟨_, h, _⟩ <;> exact ⟨_, h.symm⟩
  refine VL_aload_n C dL_law_229 rfl rfl ?_
  refine VL_aload_n C dL_law_230 rfl rfl ?_
  refine VL_iload_n C dL_law_231 rfl rfl ?_
  refine VL_iconst C (nI 1) dL_law_232 (by decide) ?_
  refine VL_iaddN C dL_law_233 ?_
  refine VL_iald C (by omega) hL dL_law_234 ?_
  refine VL_aload_n C dL_law_235 rfl rfl ?_
  refine VL_iload_n C dL_law_236 rfl rfl ?_
  refine VL_iconst C (nI 2) dL_law_237 (by decide) ?_
  refine VL_iaddN C dL_law_238 ?_
  refine VL_iald C (by omega) hL dL_law_239 ?_
  refine VL_aload_n C dL_law_240 rfl rfl ?_
  refine VL_iload_n C dL_law_241 rfl rfl ?_
  refine VL_iconst C (nI 3) dL_law_242 (by decide) ?_
  refine VL_iaddN C dL_law_243 ?_
  refine VL_iald C (by omega) hL dL_law_244 ?_
  refine VL_aload_n C dL_law_245 rfl rfl ?_
  refine VL_iload_n C dL_law_246 rfl rfl ?_
  refine VL_iconst C (nI 4) dL_law_247 (by decide) ?_
  refine VL_iaddN C dL_law_248 ?_
  refine VL_iald C (by omega) hL dL_law_249 ?_
  refine VL_aload_n C dL_law_250 rfl rfl ?_
  refine VL_iload_n C dL_law_251 rfl rfl ?_
  refine VL_iconst C (nI 5) dL_law_252 (by decide) ?_
  refine VL_iaddN C dL_law_253 ?_
  refine VL_iald C (by omega) hL dL_law_254 ?_
  refine VL_callM C [_, _, _, _, _] (ct_X11_handler hRI) cv_X11_handler lk_L_29 in_40 rfl rfl ⟨Nat.le_of_ble_eq_true rfl, Nat.le_of_ble_eq_true rfl⟩ hcs rfl rfl (Nat.le_of_ble_eq_true rfl) dL_law_255 (fun r2 N1 h2 => ?_)
  obtain ⟨rfl, hB1⟩ := cpl_handler hB h1 h2
  refine VL_icmpE (tgt := 558) C dL_law_258 (by decide) ?_
  exact kk _ _ hB1
set_option maxRecDepth 20000 in
set_option maxHeartbeats 4000000 in
theorem law_run {p : Program} {l : Launch} {e : Env} {s : State} {m : MethodId} {b : Nat} {below : List Frame} {meth : Method} {c : Code} {G : Gm} {cells slots : Nat} {M N : Mem} {L : Nat} {xs : Nat → Int32} {i : Nat} (C : CxL p s m b meth c G L xs) (hL : L ≤ 3584) (hi : i + 7 ≤ L) (hcs : cells ≤ room_1.cells ∧ slots ≤ room_1.slots) (hB : CB M N) (kk : ∀ M' N', CB M' N' → VL p l e s m b below meth c G cells slots M' N' 558 [(3, .int (nI i)), (2, .ref (ad G 40 0)), (1, .ref (ad G 0 0)), (0, .ref b)] []) : VL p l e s m b below meth c G cells slots M N 263 [(3, .int (nI i)), (2, .ref (ad G 40 0)), (1, .ref (ad G 0 0)), (0, .ref b)] [] := by
  have hPI := hB.1.1
  have hRI := hB.1.2.1
  have hn6 := hPI.1
  have hr6 := hRI.1
  refine VL_aload_n C dL_law_263 rfl rfl ?_
  refine VL_aload_n C dL_law_264 rfl rfl ?_
  refine VL_iload_n C dL_law_265 rfl rfl ?_
  refine VL_iconst C (nI 1) dL_law_266 (by decide) ?_
  refine VL_iaddN C dL_law_267 ?_
  refine VL_iald C (by omega) hL dL_law_268 ?_
  refine VL_aload_n C dL_law_269 rfl rfl ?_
  refine VL_iload_n C dL_law_270 rfl rfl ?_
  refine VL_iconst C (nI 2) dL_law_271 (by decide) ?_
  refine VL_iaddN C dL_law_272 ?_
  refine VL_iald C (by omega) hL dL_law_273 ?_
  refine VL_i2l C dL_law_274 ?_
  refine VL_bipush C (nI 32) dL_law_275 (by decide) ?_
  refine VL_lshl C dL_law_277 ?_
  refine VL_aload_n C dL_law_278 rfl rfl ?_
  refine VL_iload_n C dL_law_279 rfl rfl ?_
  refine VL_iconst C (nI 3) dL_law_280 (by decide) ?_
  refine VL_iaddN C dL_law_281 ?_
  refine VL_iald C (by omega) hL dL_law_282 ?_
  refine VL_i2l C dL_law_283 ?_
  refine VL_ldc2 C wl_k18 dL_law_284 ?_
  refine VL_land C dL_law_287 ?_
  refine VL_lor C dL_law_288 ?_
  refine VL_aload_n C dL_law_289 rfl rfl ?_
  refine VL_iload_n C dL_law_290 rfl rfl ?_
  refine VL_iconst C (nI 4) dL_law_291 (by decide) ?_
  refine VL_iaddN C dL_law_292 ?_
  refine VL_iald C (by omega) hL dL_law_293 ?_
  refine VL_callX C [_, _, _] (ct_X10_run hB) cv_X10_run lk_L_30 in_0 rfl rfl ⟨Nat.le_of_ble_eq_true rfl, Nat.le_of_ble_eq_true rfl⟩ hcs rfl rfl (Nat.le_of_ble_eq_true rfl) dL_law_294 (fun r1 M1 h1 => ?_)
  obtain ⟨y1, rfl⟩ : ∃ y1 : Int32, r1 = some (.int y1) := by
    rcases h1 with ⟨_, h, _⟩ | ⟨_, _, _, _, _, _, ⟨_, h, _⟩ | ⟨_, _, h, _⟩⟩
    · exact ⟨_, h.symm⟩
    · exact ⟨_, h.symm⟩
    · exact h.r
  refine VL_aload_n C dL_law_297 rfl rfl ?_
  refine VL_aload_n C dL_law_298 rfl rfl ?_
  refine VL_iload_n C dL_law_299 rfl rfl ?_
  refine VL_iconst C (nI 1) dL_law_300 (by decide) ?_
  refine VL_iaddN C dL_law_301 ?_
  refine VL_iald C (by omega) hL dL_law_302 ?_
  refine VL_aload_n C dL_law_303 rfl rfl ?_
  refine VL_iload_n C dL_law_304 rfl rfl ?_
  refine VL_iconst C (nI 2) dL_law_305 (by decide) ?_
  refine VL_iaddN C dL_law_306 ?_
  refine VL_iald C (by omega) hL dL_law_307 ?_
  refine VL_i2l C dL_law_308 ?_
  refine VL_bipush C (nI 32) dL_law_309 (by decide) ?_
  refine VL_lshl C dL_law_311 ?_
  refine VL_aload_n C dL_law_312 rfl rfl ?_
  refine VL_iload_n C dL_law_313 rfl rfl ?_
  refine VL_iconst C (nI 3) dL_law_314 (by decide) ?_
  refine VL_iaddN C dL_law_315 ?_
  refine VL_iald C (by omega) hL dL_law_316 ?_
  refine VL_i2l C dL_law_317 ?_
  refine VL_ldc2 C wl_k18 dL_law_318 ?_
  refine VL_land C dL_law_321 ?_
  refine VL_lor C dL_law_322 ?_
  refine VL_aload_n C dL_law_323 rfl rfl ?_
  refine VL_iload_n C dL_law_324 rfl rfl ?_
  refine VL_iconst C (nI 4) dL_law_325 (by decide) ?_
  refine VL_iaddN C dL_law_326 ?_
  refine VL_iald C (by omega) hL dL_law_327 ?_
  refine VL_callM C [_, _, _] (ct_X11_run hRI) cv_X11_run lk_L_34 in_40 rfl rfl ⟨Nat.le_of_ble_eq_true rfl, Nat.le_of_ble_eq_true rfl⟩ hcs rfl rfl (Nat.le_of_ble_eq_true rfl) dL_law_328 (fun r2 N1 h2 => ?_)
  obtain ⟨rfl, hB1⟩ := cpl_run hB h1 h2
  refine VL_icmpE (tgt := 558) C dL_law_331 (by decide) ?_
  exact kk _ _ hB1
set_option maxRecDepth 20000 in
set_option maxHeartbeats 4000000 in
theorem law_step {p : Program} {l : Launch} {e : Env} {s : State} {m : MethodId} {b : Nat} {below : List Frame} {meth : Method} {c : Code} {G : Gm} {cells slots : Nat} {M N : Mem} {L : Nat} {xs : Nat → Int32} {i : Nat} (C : CxL p s m b meth c G L xs) (hL : L ≤ 3584) (hi : i + 7 ≤ L) (hcs : cells ≤ room_1.cells ∧ slots ≤ room_1.slots) (hB : CB M N) (kk : ∀ M' N', CB M' N' → VL p l e s m b below meth c G cells slots M' N' 558 [(3, .int (nI i)), (2, .ref (ad G 40 0)), (1, .ref (ad G 0 0)), (0, .ref b)] []) : VL p l e s m b below meth c G cells slots M N 336 [(3, .int (nI i)), (2, .ref (ad G 40 0)), (1, .ref (ad G 0 0)), (0, .ref b)] [] := by
  have hPI := hB.1.1
  have hRI := hB.1.2.1
  have hn6 := hPI.1
  have hr6 := hRI.1
  refine VL_aload_n C dL_law_336 rfl rfl ?_
  refine VL_aload_n C dL_law_337 rfl rfl ?_
  refine VL_iload_n C dL_law_338 rfl rfl ?_
  refine VL_iconst C (nI 1) dL_law_339 (by decide) ?_
  refine VL_iaddN C dL_law_340 ?_
  refine VL_iald C (by omega) hL dL_law_341 ?_
  refine VL_aload_n C dL_law_342 rfl rfl ?_
  refine VL_iload_n C dL_law_343 rfl rfl ?_
  refine VL_iconst C (nI 2) dL_law_344 (by decide) ?_
  refine VL_iaddN C dL_law_345 ?_
  refine VL_iald C (by omega) hL dL_law_346 ?_
  refine VL_i2l C dL_law_347 ?_
  refine VL_bipush C (nI 32) dL_law_348 (by decide) ?_
  refine VL_lshl C dL_law_350 ?_
  refine VL_aload_n C dL_law_351 rfl rfl ?_
  refine VL_iload_n C dL_law_352 rfl rfl ?_
  refine VL_iconst C (nI 3) dL_law_353 (by decide) ?_
  refine VL_iaddN C dL_law_354 ?_
  refine VL_iald C (by omega) hL dL_law_355 ?_
  refine VL_i2l C dL_law_356 ?_
  refine VL_ldc2 C wl_k18 dL_law_357 ?_
  refine VL_land C dL_law_360 ?_
  refine VL_lor C dL_law_361 ?_
  refine VL_aload_n C dL_law_362 rfl rfl ?_
  refine VL_iload_n C dL_law_363 rfl rfl ?_
  refine VL_iconst C (nI 4) dL_law_364 (by decide) ?_
  refine VL_iaddN C dL_law_365 ?_
  refine VL_iald C (by omega) hL dL_law_366 ?_
  refine VL_callX C [_, _, _] (ct_X10_step hB) cv_X10_step lk_L_35 in_0 rfl rfl ⟨Nat.le_of_ble_eq_true rfl, Nat.le_of_ble_eq_true rfl⟩ hcs rfl rfl (Nat.le_of_ble_eq_true rfl) dL_law_367 (fun r1 M1 h1 => ?_)
  obtain ⟨y1, rfl⟩ : ∃ y1 : Int32, r1 = some (.int y1) := by
    rcases h1 with ⟨_, h, _⟩ | ⟨_, _, _, _, _, _, ⟨_, h, _⟩ | ⟨_, _, h, _⟩⟩
    · exact ⟨_, h.symm⟩
    · exact ⟨_, h.symm⟩
    · exact h.r
  refine VL_aload_n C dL_law_370 rfl rfl ?_
  refine VL_aload_n C dL_law_371 rfl rfl ?_
  refine VL_iload_n C dL_law_372 rfl rfl ?_
  refine VL_iconst C (nI 1) dL_law_373 (by decide) ?_
  refine VL_iaddN C dL_law_374 ?_
  refine VL_iald C (by omega) hL dL_law_375 ?_
  refine VL_aload_n C dL_law_376 rfl rfl ?_
  refine VL_iload_n C dL_law_377 rfl rfl ?_
  refine VL_iconst C (nI 2) dL_law_378 (by decide) ?_
  refine VL_iaddN C dL_law_379 ?_
  refine VL_iald C (by omega) hL dL_law_380 ?_
  refine VL_i2l C dL_law_381 ?_
  refine VL_bipush C (nI 32) dL_law_382 (by decide) ?_
  refine VL_lshl C dL_law_384 ?_
  refine VL_aload_n C dL_law_385 rfl rfl ?_
  refine VL_iload_n C dL_law_386 rfl rfl ?_
  refine VL_iconst C (nI 3) dL_law_387 (by decide) ?_
  refine VL_iaddN C dL_law_388 ?_
  refine VL_iald C (by omega) hL dL_law_389 ?_
  refine VL_i2l C dL_law_390 ?_
  refine VL_ldc2 C wl_k18 dL_law_391 ?_
  refine VL_land C dL_law_394 ?_
  refine VL_lor C dL_law_395 ?_
  refine VL_aload_n C dL_law_396 rfl rfl ?_
  refine VL_iload_n C dL_law_397 rfl rfl ?_
  refine VL_iconst C (nI 4) dL_law_398 (by decide) ?_
  refine VL_iaddN C dL_law_399 ?_
  refine VL_iald C (by omega) hL dL_law_400 ?_
  refine VL_callM C [_, _, _] (ct_X11_step hRI) cv_X11_step lk_L_38 in_40 rfl rfl ⟨Nat.le_of_ble_eq_true rfl, Nat.le_of_ble_eq_true rfl⟩ hcs rfl rfl (Nat.le_of_ble_eq_true rfl) dL_law_401 (fun r2 N1 h2 => ?_)
  obtain ⟨rfl, hB1⟩ := cpl_run hB h1 h2
  refine VL_icmpE (tgt := 558) C dL_law_404 (by decide) ?_
  exact kk _ _ hB1
set_option maxRecDepth 20000 in
set_option maxHeartbeats 4000000 in
theorem law_answer {p : Program} {l : Launch} {e : Env} {s : State} {m : MethodId} {b : Nat} {below : List Frame} {meth : Method} {c : Code} {G : Gm} {cells slots : Nat} {M N : Mem} {L : Nat} {xs : Nat → Int32} {i : Nat} (C : CxL p s m b meth c G L xs) (hL : L ≤ 3584) (hi : i + 7 ≤ L) (hcs : cells ≤ room_1.cells ∧ slots ≤ room_1.slots) (hB : CB M N) (kk : ∀ M' N', CB M' N' → VL p l e s m b below meth c G cells slots M' N' 558 [(3, .int (nI i)), (2, .ref (ad G 40 0)), (1, .ref (ad G 0 0)), (0, .ref b)] []) : VL p l e s m b below meth c G cells slots M N 409 [(3, .int (nI i)), (2, .ref (ad G 40 0)), (1, .ref (ad G 0 0)), (0, .ref b)] [] := by
  have hPI := hB.1.1
  have hRI := hB.1.2.1
  have hn6 := hPI.1
  have hr6 := hRI.1
  refine VL_aload_n C dL_law_409 rfl rfl ?_
  refine VL_callX C [] (ct_X10_answer) cv_X10_answer lk_L_39 in_0 rfl rfl ⟨Nat.le_of_ble_eq_true rfl, Nat.le_of_ble_eq_true rfl⟩ hcs rfl rfl (Nat.le_of_ble_eq_true rfl) dL_law_410 (fun r1 M1 h1 => ?_)
  obtain ⟨rfl, rfl⟩ := h1
  refine VL_aload_n C dL_law_413 rfl rfl ?_
  refine VL_callM C [] (ct_X11_answer) cv_X11_answer lk_L_43 in_40 rfl rfl ⟨Nat.le_of_ble_eq_true rfl, Nat.le_of_ble_eq_true rfl⟩ hcs rfl rfl (Nat.le_of_ble_eq_true rfl) dL_law_414 (fun r2 N1 h2 => ?_)
  obtain ⟨rfl, rfl⟩ := h2
  have hB1 := hB
  rw [← hB.2.2.2.2.2.2.2.2.2]
  refine VL_lcmp C dL_law_417 ?_
  refine VL_ifLe (tgt := 558) C dL_law_418 (by decide) ?_
  exact kk _ _ hB1
set_option maxRecDepth 20000 in
set_option maxHeartbeats 4000000 in
theorem law_told {p : Program} {l : Launch} {e : Env} {s : State} {m : MethodId} {b : Nat} {below : List Frame} {meth : Method} {c : Code} {G : Gm} {cells slots : Nat} {M N : Mem} {L : Nat} {xs : Nat → Int32} {i : Nat} (C : CxL p s m b meth c G L xs) (hL : L ≤ 3584) (hi : i + 7 ≤ L) (hcs : cells ≤ room_1.cells ∧ slots ≤ room_1.slots) (hB : CB M N) (kk : ∀ M' N', CB M' N' → VL p l e s m b below meth c G cells slots M' N' 558 [(3, .int (nI i)), (2, .ref (ad G 40 0)), (1, .ref (ad G 0 0)), (0, .ref b)] []) : VL p l e s m b below meth c G cells slots M N 423 [(3, .int (nI i)), (2, .ref (ad G 40 0)), (1, .ref (ad G 0 0)), (0, .ref b)] [] := by
  have hPI := hB.1.1
  have hRI := hB.1.2.1
  have hn6 := hPI.1
  have hr6 := hRI.1
  refine VL_aload_n C dL_law_423 rfl rfl ?_
  refine VL_aload_n C dL_law_424 rfl rfl ?_
  refine VL_iload_n C dL_law_425 rfl rfl ?_
  refine VL_iconst C (nI 1) dL_law_426 (by decide) ?_
  refine VL_iaddN C dL_law_427 ?_
  refine VL_iald C (by omega) hL dL_law_428 ?_
  refine VL_callX C [_] (ct_X10_told) cv_X10_told lk_L_44 in_0 rfl rfl ⟨Nat.le_of_ble_eq_true rfl, Nat.le_of_ble_eq_true rfl⟩ hcs rfl rfl (Nat.le_of_ble_eq_true rfl) dL_law_429 (fun r1 M1 h1 => ?_)
  obtain ⟨rfl, rfl⟩ := h1
  refine VL_aload_n C dL_law_432 rfl rfl ?_
  refine VL_aload_n C dL_law_433 rfl rfl ?_
  refine VL_iload_n C dL_law_434 rfl rfl ?_
  refine VL_iconst C (nI 1) dL_law_435 (by decide) ?_
  refine VL_iaddN C dL_law_436 ?_
  refine VL_iald C (by omega) hL dL_law_437 ?_
  refine VL_callM C [_] (ct_X11_told) cv_X11_told lk_L_48 in_40 rfl rfl ⟨Nat.le_of_ble_eq_true rfl, Nat.le_of_ble_eq_true rfl⟩ hcs rfl rfl (Nat.le_of_ble_eq_true rfl) dL_law_438 (fun r2 N1 h2 => ?_)
  obtain ⟨rfl, rfl⟩ := h2
  have hB1 := hB
  rw [← cpl_told hB]
  refine VL_icmpE (tgt := 558) C dL_law_441 (by decide) ?_
  exact kk _ _ hB1
set_option maxRecDepth 20000 in
set_option maxHeartbeats 4000000 in
theorem law_entries {p : Program} {l : Launch} {e : Env} {s : State} {m : MethodId} {b : Nat} {below : List Frame} {meth : Method} {c : Code} {G : Gm} {cells slots : Nat} {M N : Mem} {L : Nat} {xs : Nat → Int32} {i : Nat} (C : CxL p s m b meth c G L xs) (hL : L ≤ 3584) (hi : i + 7 ≤ L) (hcs : cells ≤ room_1.cells ∧ slots ≤ room_1.slots) (hB : CB M N) (kk : ∀ M' N', CB M' N' → VL p l e s m b below meth c G cells slots M' N' 558 [(3, .int (nI i)), (2, .ref (ad G 40 0)), (1, .ref (ad G 0 0)), (0, .ref b)] []) : VL p l e s m b below meth c G cells slots M N 446 [(3, .int (nI i)), (2, .ref (ad G 40 0)), (1, .ref (ad G 0 0)), (0, .ref b)] [] := by
  have hPI := hB.1.1
  have hRI := hB.1.2.1
  have hn6 := hPI.1
  have hr6 := hRI.1
  refine VL_aload_n C dL_law_446 rfl rfl ?_
  refine VL_aload_n C dL_law_447 rfl rfl ?_
  refine VL_iload_n C dL_law_448 rfl rfl ?_
  refine VL_iconst C (nI 1) dL_law_449 (by decide) ?_
  refine VL_iaddN C dL_law_450 ?_
  refine VL_iald C (by omega) hL dL_law_451 ?_
  refine VL_callX C [_] (ct_X10_entries hPI) cv_X10_entries lk_L_49 in_0 rfl rfl ⟨Nat.le_of_ble_eq_true rfl, Nat.le_of_ble_eq_true rfl⟩ hcs rfl rfl (Nat.le_of_ble_eq_true rfl) dL_law_452 (fun r1 M1 h1 => ?_)
  obtain ⟨y1, rfl⟩ : ∃ y1 : Int32, r1 = some (.int y1) := by
    rcases h1 with ⟨_, ⟨_, _, _, h⟩ | ⟨_, h⟩⟩ <;> exact ⟨_, h.symm⟩
  refine VL_aload_n C dL_law_455 rfl rfl ?_
  refine VL_aload_n C dL_law_456 rfl rfl ?_
  refine VL_iload_n C dL_law_457 rfl rfl ?_
  refine VL_iconst C (nI 1) dL_law_458 (by decide) ?_
  refine VL_iaddN C dL_law_459 ?_
  refine VL_iald C (by omega) hL dL_law_460 ?_
  refine VL_callM C [_] (ct_X11_entries hRI) cv_X11_entries lk_L_52 in_40 rfl rfl ⟨Nat.le_of_ble_eq_true rfl, Nat.le_of_ble_eq_true rfl⟩ hcs rfl rfl (Nat.le_of_ble_eq_true rfl) dL_law_461 (fun r2 N1 h2 => ?_)
  obtain ⟨rfl, hB1⟩ := cpl_entries hB h1 h2
  refine VL_icmpE (tgt := 558) C dL_law_464 (by decide) ?_
  exact kk _ _ hB1
set_option maxRecDepth 20000 in
set_option maxHeartbeats 4000000 in
theorem law_entry {p : Program} {l : Launch} {e : Env} {s : State} {m : MethodId} {b : Nat} {below : List Frame} {meth : Method} {c : Code} {G : Gm} {cells slots : Nat} {M N : Mem} {L : Nat} {xs : Nat → Int32} {i : Nat} (C : CxL p s m b meth c G L xs) (hL : L ≤ 3584) (hi : i + 7 ≤ L) (hcs : cells ≤ room_1.cells ∧ slots ≤ room_1.slots) (hB : CB M N) (kk : ∀ M' N', CB M' N' → VL p l e s m b below meth c G cells slots M' N' 558 [(3, .int (nI i)), (2, .ref (ad G 40 0)), (1, .ref (ad G 0 0)), (0, .ref b)] []) : VL p l e s m b below meth c G cells slots M N 469 [(3, .int (nI i)), (2, .ref (ad G 40 0)), (1, .ref (ad G 0 0)), (0, .ref b)] [] := by
  have hPI := hB.1.1
  have hRI := hB.1.2.1
  have hn6 := hPI.1
  have hr6 := hRI.1
  refine VL_aload_n C dL_law_469 rfl rfl ?_
  refine VL_aload_n C dL_law_470 rfl rfl ?_
  refine VL_iload_n C dL_law_471 rfl rfl ?_
  refine VL_iconst C (nI 1) dL_law_472 (by decide) ?_
  refine VL_iaddN C dL_law_473 ?_
  refine VL_iald C (by omega) hL dL_law_474 ?_
  refine VL_aload_n C dL_law_475 rfl rfl ?_
  refine VL_iload_n C dL_law_476 rfl rfl ?_
  refine VL_iconst C (nI 2) dL_law_477 (by decide) ?_
  refine VL_iaddN C dL_law_478 ?_
  refine VL_iald C (by omega) hL dL_law_479 ?_
  refine VL_aload_n C dL_law_480 rfl rfl ?_
  refine VL_iload_n C dL_law_481 rfl rfl ?_
  refine VL_iconst C (nI 3) dL_law_482 (by decide) ?_
  refine VL_iaddN C dL_law_483 ?_
  refine VL_iald C (by omega) hL dL_law_484 ?_
  refine VL_callX C [_, _, _] (ct_X10_entry hPI) cv_X10_entry lk_L_53 in_0 rfl rfl ⟨Nat.le_of_ble_eq_true rfl, Nat.le_of_ble_eq_true rfl⟩ hcs rfl rfl (Nat.le_of_ble_eq_true rfl) dL_law_485 (fun r1 M1 h1 => ?_)
  obtain ⟨y1, rfl⟩ : ∃ y1 : Int32, r1 = some (.int y1) := by
    rcases h1 with ⟨_, ⟨_, _, _, _, _, _, ⟨_, h⟩ | ⟨_, ⟨_, _, _, h⟩ | ⟨_, h⟩⟩⟩ | ⟨_, h⟩⟩ <;> exact ⟨_, h.symm⟩
  refine VL_aload_n C dL_law_488 rfl rfl ?_
  refine VL_aload_n C dL_law_489 rfl rfl ?_
  refine VL_iload_n C dL_law_490 rfl rfl ?_
  refine VL_iconst C (nI 1) dL_law_491 (by decide) ?_
  refine VL_iaddN C dL_law_492 ?_
  refine VL_iald C (by omega) hL dL_law_493 ?_
  refine VL_aload_n C dL_law_494 rfl rfl ?_
  refine VL_iload_n C dL_law_495 rfl rfl ?_
  refine VL_iconst C (nI 2) dL_law_496 (by decide) ?_
  refine VL_iaddN C dL_law_497 ?_
  refine VL_iald C (by omega) hL dL_law_498 ?_
  refine VL_aload_n C dL_law_499 rfl rfl ?_
  refine VL_iload_n C dL_law_500 rfl rfl ?_
  refine VL_iconst C (nI 3) dL_law_501 (by decide) ?_
  refine VL_iaddN C dL_law_502 ?_
  refine VL_iald C (by omega) hL dL_law_503 ?_
  refine VL_callM C [_, _, _] (ct_X11_entry hRI) cv_X11_entry lk_L_57 in_40 rfl rfl ⟨Nat.le_of_ble_eq_true rfl, Nat.le_of_ble_eq_true rfl⟩ hcs rfl rfl (Nat.le_of_ble_eq_true rfl) dL_law_504 (fun r2 N1 h2 => ?_)
  obtain ⟨rfl, hB1⟩ := cpl_entry hB h1 h2
  refine VL_icmpE (tgt := 558) C dL_law_507 (by decide) ?_
  exact kk _ _ hB1
set_option maxRecDepth 20000 in
set_option maxHeartbeats 4000000 in
theorem law_about {p : Program} {l : Launch} {e : Env} {s : State} {m : MethodId} {b : Nat} {below : List Frame} {meth : Method} {c : Code} {G : Gm} {cells slots : Nat} {M N : Mem} {L : Nat} {xs : Nat → Int32} {i : Nat} (C : CxL p s m b meth c G L xs) (hL : L ≤ 3584) (hi : i + 7 ≤ L) (hcs : cells ≤ room_1.cells ∧ slots ≤ room_1.slots) (hB : CB M N) (kk : ∀ M' N', CB M' N' → VL p l e s m b below meth c G cells slots M' N' 558 [(3, .int (nI i)), (2, .ref (ad G 40 0)), (1, .ref (ad G 0 0)), (0, .ref b)] []) : VL p l e s m b below meth c G cells slots M N 512 [(3, .int (nI i)), (2, .ref (ad G 40 0)), (1, .ref (ad G 0 0)), (0, .ref b)] [] := by
  have hPI := hB.1.1
  have hRI := hB.1.2.1
  have hn6 := hPI.1
  have hr6 := hRI.1
  refine VL_aload_n C dL_law_512 rfl rfl ?_
  refine VL_aload_n C dL_law_513 rfl rfl ?_
  refine VL_iload_n C dL_law_514 rfl rfl ?_
  refine VL_iconst C (nI 1) dL_law_515 (by decide) ?_
  refine VL_iaddN C dL_law_516 ?_
  refine VL_iald C (by omega) hL dL_law_517 ?_
  refine VL_aload_n C dL_law_518 rfl rfl ?_
  refine VL_iload_n C dL_law_519 rfl rfl ?_
  refine VL_iconst C (nI 2) dL_law_520 (by decide) ?_
  refine VL_iaddN C dL_law_521 ?_
  refine VL_iald C (by omega) hL dL_law_522 ?_
  refine VL_callX C [_, _] (ct_X10_about hPI) cv_X10_about lk_L_58 in_0 rfl rfl ⟨Nat.le_of_ble_eq_true rfl, Nat.le_of_ble_eq_true rfl⟩ hcs rfl rfl (Nat.le_of_ble_eq_true rfl) dL_law_523 (fun r1 M1 h1 => ?_)
  obtain ⟨y1, rfl⟩ : ∃ y1 : Int32, r1 = some (.int y1) := by
    rcases h1 with ⟨_, ⟨_, _, _, _, _, _, h⟩ | ⟨_, h⟩⟩ <;> exact ⟨_, h.symm⟩
  refine VL_aload_n C dL_law_526 rfl rfl ?_
  refine VL_aload_n C dL_law_527 rfl rfl ?_
  refine VL_iload_n C dL_law_528 rfl rfl ?_
  refine VL_iconst C (nI 1) dL_law_529 (by decide) ?_
  refine VL_iaddN C dL_law_530 ?_
  refine VL_iald C (by omega) hL dL_law_531 ?_
  refine VL_aload_n C dL_law_532 rfl rfl ?_
  refine VL_iload_n C dL_law_533 rfl rfl ?_
  refine VL_iconst C (nI 2) dL_law_534 (by decide) ?_
  refine VL_iaddN C dL_law_535 ?_
  refine VL_iald C (by omega) hL dL_law_536 ?_
  refine VL_callM C [_, _] (ct_X11_about hRI) cv_X11_about lk_L_62 in_40 rfl rfl ⟨Nat.le_of_ble_eq_true rfl, Nat.le_of_ble_eq_true rfl⟩ hcs rfl rfl (Nat.le_of_ble_eq_true rfl) dL_law_537 (fun r2 N1 h2 => ?_)
  obtain ⟨rfl, hB1⟩ := cpl_about hB h1 h2
  refine VL_icmpE (tgt := 558) C dL_law_540 (by decide) ?_
  exact kk _ _ hB1
set_option maxRecDepth 20000 in
set_option maxHeartbeats 4000000 in
theorem law_clear {p : Program} {l : Launch} {e : Env} {s : State} {m : MethodId} {b : Nat} {below : List Frame} {meth : Method} {c : Code} {G : Gm} {cells slots : Nat} {M N : Mem} {L : Nat} {xs : Nat → Int32} {i : Nat} (C : CxL p s m b meth c G L xs) (hL : L ≤ 3584) (hi : i + 7 ≤ L) (hcs : cells ≤ room_1.cells ∧ slots ≤ room_1.slots) (hB : CB M N) (kk : ∀ M' N', CB M' N' → VL p l e s m b below meth c G cells slots M' N' 558 [(3, .int (nI i)), (2, .ref (ad G 40 0)), (1, .ref (ad G 0 0)), (0, .ref b)] []) : VL p l e s m b below meth c G cells slots M N 545 [(3, .int (nI i)), (2, .ref (ad G 40 0)), (1, .ref (ad G 0 0)), (0, .ref b)] [] := by
  have hPI := hB.1.1
  have hRI := hB.1.2.1
  have hn6 := hPI.1
  have hr6 := hRI.1
  refine VL_aload_n C dL_law_545 rfl rfl ?_
  refine VL_callX C [] (ct_X10_clear) cv_X10_clear lk_L_63 in_0 rfl rfl ⟨Nat.le_of_ble_eq_true rfl, Nat.le_of_ble_eq_true rfl⟩ hcs rfl rfl (Nat.le_of_ble_eq_true rfl) dL_law_546 (fun r1 M1 h1 => ?_)
  obtain ⟨rfl, rfl⟩ := h1
  refine VL_aload_n C dL_law_549 rfl rfl ?_
  refine VL_callM C [] (ct_X11_clear) cv_X11_clear lk_L_66 in_40 rfl rfl ⟨Nat.le_of_ble_eq_true rfl, Nat.le_of_ble_eq_true rfl⟩ hcs rfl rfl (Nat.le_of_ble_eq_true rfl) dL_law_550 (fun r2 N1 h2 => ?_)
  obtain ⟨rfl, rfl⟩ := h2
  have hB1 := cpl_clear hB
  rw [hB.1.2.2.1]
  refine VL_icmpE (tgt := 558) C dL_law_553 (by decide) ?_
  exact kk _ _ hB1
set_option maxRecDepth 20000 in
set_option maxHeartbeats 4000000 in
theorem law_loop {p : Program} {l : Launch} {e : Env} {s : State} {m : MethodId} {b : Nat} {below : List Frame} {meth : Method} {c : Code} {G : Gm} {cells slots : Nat} {L : Nat} {xs : Nat → Int32} (C : CxL p s m b meth c G L xs) (hL : L ≤ 3584) (hcs : cells ≤ room_1.cells ∧ slots ≤ room_1.slots) (hr : meth.sig.returnType = ret) (hlocks : meth.locks = false) : ∀ (fu i : Nat) (M N : Mem), L + 8 - i ≤ fu → i ≤ L + 7 → CB M N → VL p l e s m b below meth c G cells slots M N 18 [(3, .int (nI i)), (2, .ref (ad G 40 0)), (1, .ref (ad G 0 0)), (0, .ref b)] [] := by
  intro fu
  induction fu with
  | zero => intros; omega
  | succ fu ih =>
    intro i M N hfu hi hB
    refine VL_iload_n C dL_law_18 rfl rfl ?_
    refine VL_aload_n C dL_law_19 rfl rfl ?_
    refine VL_alen C dL_law_20 ?_
    refine VL_bipush C (nI 7) dL_law_21 (by decide) ?_
    refine VL_isub C dL_law_23 ?_
    refine VL_icmp_gt (tgt := 564) C dL_law_24 (by decide) (fun h => ?_) (fun h => ?_)
    · refine VL_iconst C (nI 1) dL_law_564 (by decide) ?_
      exact VL_end C hr hlocks hcs dL_law_565
    · rw [lt_L7 (by omega) hL] at h
      have nx : ∀ M' N', CB M' N' → VL p l e s m b below meth c G cells slots M' N' 558 [(3, .int (nI i)), (2, .ref (ad G 40 0)), (1, .ref (ad G 0 0)), (0, .ref b)] [] := by
        intro M' N' hB2
        refine VL_iinc C (j := 0) (a := i) (k := 7) dL_law_558 rfl (by decide) (by decide) rfl ?_
        refine VL_goto (tgt := 18) C dL_law_561 (by decide) ?_
        exact ih (i + 7) M' N' (by omega) (by omega) hB2
      refine VL_aload_n C dL_law_27 rfl rfl ?_
      refine VL_iload_n C dL_law_28 rfl rfl ?_
      refine VL_iald C (by omega) hL dL_law_29 ?_
      refine VL_bipush C (nI 15) dL_law_30 (by decide) ?_
      refine VL_iand C dL_law_32 ?_
      by_cases e0 : xs i &&& nI 15 = nI 0
      · refine VL_tabIn (tgt := 92) C dL_law_33 (0) (by rw [e0]; decide) (by decide) (by decide) rfl (by decide) ?_
        exact law_method C hL (by omega) hcs hB nx
      by_cases e1 : xs i &&& nI 15 = nI 1
      · refine VL_tabIn (tgt := 105) C dL_law_33 (1) (by rw [e1]; decide) (by decide) (by decide) rfl (by decide) ?_
        exact law_instruction C hL (by omega) hcs hB nx
      by_cases e2 : xs i &&& nI 15 = nI 2
      · refine VL_tabIn (tgt := 200) C dL_law_33 (2) (by rw [e2]; decide) (by decide) (by decide) rfl (by decide) ?_
        exact law_handler C hL (by omega) hcs hB nx
      by_cases e3 : xs i &&& nI 15 = nI 3
      · refine VL_tabIn (tgt := 263) C dL_law_33 (3) (by rw [e3]; decide) (by decide) (by decide) rfl (by decide) ?_
        exact law_run C hL (by omega) hcs hB nx
      by_cases e4 : xs i &&& nI 15 = nI 4
      · refine VL_tabIn (tgt := 336) C dL_law_33 (4) (by rw [e4]; decide) (by decide) (by decide) rfl (by decide) ?_
        exact law_step C hL (by omega) hcs hB nx
      by_cases e5 : xs i &&& nI 15 = nI 5
      · refine VL_tabIn (tgt := 409) C dL_law_33 (5) (by rw [e5]; decide) (by decide) (by decide) rfl (by decide) ?_
        exact law_answer C hL (by omega) hcs hB nx
      by_cases e6 : xs i &&& nI 15 = nI 6
      · refine VL_tabIn (tgt := 423) C dL_law_33 (6) (by rw [e6]; decide) (by decide) (by decide) rfl (by decide) ?_
        exact law_told C hL (by omega) hcs hB nx
      by_cases e7 : xs i &&& nI 15 = nI 7
      · refine VL_tabIn (tgt := 446) C dL_law_33 (7) (by rw [e7]; decide) (by decide) (by decide) rfl (by decide) ?_
        exact law_entries C hL (by omega) hcs hB nx
      by_cases e8 : xs i &&& nI 15 = nI 8
      · refine VL_tabIn (tgt := 469) C dL_law_33 (8) (by rw [e8]; decide) (by decide) (by decide) rfl (by decide) ?_
        exact law_entry C hL (by omega) hcs hB nx
      by_cases e9 : xs i &&& nI 15 = nI 9
      · refine VL_tabIn (tgt := 512) C dL_law_33 (9) (by rw [e9]; decide) (by decide) (by decide) rfl (by decide) ?_
        exact law_about C hL (by omega) hcs hB nx
      by_cases e10 : xs i &&& nI 15 = nI 10
      · refine VL_tabIn (tgt := 545) C dL_law_33 (10) (by rw [e10]; decide) (by decide) (by decide) rfl (by decide) ?_
        exact law_clear C hL (by omega) hcs hB nx
      refine VL_tabOut (tgt := 558) C dL_law_33 (sw_out (lo := 0) (hi := 10) (by decide) (by decide) (fun n h1 h2 => by rcases (show n = 0 ∨ n = 1 ∨ n = 2 ∨ n = 3 ∨ n = 4 ∨ n = 5 ∨ n = 6 ∨ n = 7 ∨ n = 8 ∨ n = 9 ∨ n = 10 by omega) with rfl | rfl | rfl | rfl | rfl | rfl | rfl | rfl | rfl | rfl | rfl <;> assumption)) (by decide) ?_
      exact nx M N hB
