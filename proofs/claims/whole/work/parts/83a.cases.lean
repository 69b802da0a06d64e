/-! the law: cases -/
theorem o_r32 (x : Int32) : o_r x.toInt := ⟨Int32.le_toInt x, Int32.toInt_lt x⟩
section OLC
variable {p : Program} {l : Launch} {e : Env} {s : State} {m : MethodId} {args : Array Value} {below : List Frame} {meth : Method} {c : Code} {G : oG} {b k n ad L jN xC mC : Nat} {xs : Nat → Int32} {Q : State → Prop} {T : oT} {σ : oM} {Bd : Int}
set_option maxRecDepth 20000 in
set_option maxHeartbeats 4000000 in
theorem lc_edition (C : oCx p s m args meth c G b RL cL_law 4) (hX : va_X ad L xs s s.heap) (had : ad < b) (hL : L ≤ 3072) (hmx : xC + 1227 ≤ mC) (hS : oLS T σ xC mC Bd) (hB : Bd ≤ 99000000) (hj : jN + 6 ≤ L) (hk : k + 60 ≤ 600000) (hn : n + 480 ≤ 7302250) (kk : ∀ T2 σ2 k2 n2, k2 ≤ k + 60 → n2 ≤ n + 480 → oLS T2 σ2 xC mC (Bd + 162000) → oW p l e room_1 s m args below meth c G b 4 k2 n2 Q T2 σ2 1689 [some (oa ad), some (og xC), some (og mC), some (oi (jN : Int))] []) : oW p l e room_1 s m args below meth c G b 4 k n Q T σ 220 [some (oa ad), some (og xC), some (og mC), some (oi (jN : Int))] [] := by
  obtain ⟨h8s, h8a, h9s, h9a⟩ := oLS_sh hS
  obtain ⟨Po1, hM1, hP2⟩ := pr_edition hS hmx hB (o_r32 (xs (jN + 1))) (o_r32 (xs (jN + 2))) (o_r32 (xs (jN + 3)))
  refine r_al1 (q := 221) C dL_law_220 rfl ?_
  refine r_aal0 (q := 222) C dL_law_221 rfl ?_
  refine r_il3 (q := 223) C dL_law_222 rfl ?_
  refine r_iconst (q := 224) C dL_law_223 rfl ?_
  refine r_iadd (q := 225) C dL_law_224 rfl ?_
  refine r_sld (q := 226) (j := jN + 1) C hX had (by omega) (by omega) (by omega) dL_law_225 rfl ?_
  refine r_aal0 (q := 227) C dL_law_226 rfl ?_
  refine r_il3 (q := 228) C dL_law_227 rfl ?_
  refine r_iconst (q := 229) C dL_law_228 rfl ?_
  refine r_iadd (q := 230) C dL_law_229 rfl ?_
  refine r_sld (q := 231) (j := jN + 2) C hX had (by omega) (by omega) (by omega) dL_law_230 rfl ?_
  refine r_aal0 (q := 232) C dL_law_231 rfl ?_
  refine r_il3 (q := 233) C dL_law_232 rfl ?_
  refine r_iconst (q := 234) C dL_law_233 rfl ?_
  refine r_iadd (q := 235) C dL_law_234 rfl ?_
  refine r_sld (q := 236) (j := jN + 3) C hX had (by omega) (by omega) (by omega) dL_law_235 rfl ?_
  refine r_callV (q := 239) C hM1 m_L_13 h8s h8a dL_law_236 rfl rfl ⟨Nat.le_of_ble_eq_true rfl, Nat.le_of_ble_eq_true rfl⟩ ⟨by show k + 0 ≤ 600000; omega, by show n + 0 ≤ 7302250; omega⟩ (Nat.le_of_ble_eq_true rfl) (fun r T2 σ2 hp1 => ?_)
  obtain ⟨hT2, z2, hr2, Po2, hM2, hP3⟩ := hP2 r T2 σ2 hp1
  subst hr2
  subst hT2
  simp only [Option.toList_some, List.cons_append, List.nil_append]
  refine r_al2 (q := 240) C dL_law_239 rfl ?_
  refine r_aal0 (q := 241) C dL_law_240 rfl ?_
  refine r_il3 (q := 242) C dL_law_241 rfl ?_
  refine r_iconst (q := 243) C dL_law_242 rfl ?_
  refine r_iadd (q := 244) C dL_law_243 rfl ?_
  refine r_sld (q := 245) (j := jN + 1) C hX had (by omega) (by omega) (by omega) dL_law_244 rfl ?_
  refine r_aal0 (q := 246) C dL_law_245 rfl ?_
  refine r_il3 (q := 247) C dL_law_246 rfl ?_
  refine r_iconst (q := 248) C dL_law_247 rfl ?_
  refine r_iadd (q := 249) C dL_law_248 rfl ?_
  refine r_sld (q := 250) (j := jN + 2) C hX had (by omega) (by omega) (by omega) dL_law_249 rfl ?_
  refine r_aal0 (q := 251) C dL_law_250 rfl ?_
  refine r_il3 (q := 252) C dL_law_251 rfl ?_
  refine r_iconst (q := 253) C dL_law_252 rfl ?_
  refine r_iadd (q := 254) C dL_law_253 rfl ?_
  refine r_sld (q := 255) (j := jN + 3) C hX had (by omega) (by omega) (by omega) dL_law_254 rfl ?_
  refine r_callV (q := 258) C hM2 m_L_17 h9s h9a dL_law_255 rfl rfl ⟨Nat.le_of_ble_eq_true rfl, Nat.le_of_ble_eq_true rfl⟩ ⟨by show k + 0 + 0 ≤ 600000; omega, by show n + 0 + 0 ≤ 7302250; omega⟩ (Nat.le_of_ble_eq_true rfl) (fun r3 T3 σ3 hp3 => ?_)
  obtain ⟨hr3, hS3⟩ := hP3 r3 T3 σ3 hp3
  subst hr3
  simp only [Option.toList_some, List.cons_append, List.nil_append]
  refine r_iceq_s (q := 1689) C rfl dL_law_258 (by decide) ?_
  exact kk _ _ _ _ (by omega) (by omega) hS3
set_option maxRecDepth 20000 in
set_option maxHeartbeats 4000000 in
theorem lc_derive (C : oCx p s m args meth c G b RL cL_law 4) (hX : va_X ad L xs s s.heap) (had : ad < b) (hL : L ≤ 3072) (hmx : xC + 1227 ≤ mC) (hS : oLS T σ xC mC Bd) (hB : Bd ≤ 99000000) (hj : jN + 6 ≤ L) (hk : k + 60 ≤ 600000) (hn : n + 480 ≤ 7302250) (kk : ∀ T2 σ2 k2 n2, k2 ≤ k + 60 → n2 ≤ n + 480 → oLS T2 σ2 xC mC (Bd + 162000) → oW p l e room_1 s m args below meth c G b 4 k2 n2 Q T2 σ2 1689 [some (oa ad), some (og xC), some (og mC), some (oi (jN : Int))] []) : oW p l e room_1 s m args below meth c G b 4 k n Q T σ 263 [some (oa ad), some (og xC), some (og mC), some (oi (jN : Int))] [] := by
  obtain ⟨h8s, h8a, h9s, h9a⟩ := oLS_sh hS
  obtain ⟨Po1, hM1, hP2⟩ := pr_derive hS hmx hB (o_r32 (xs (jN + 1)))
  refine r_al1 (q := 264) C dL_law_263 rfl ?_
  refine r_aal0 (q := 265) C dL_law_264 rfl ?_
  refine r_il3 (q := 266) C dL_law_265 rfl ?_
  refine r_iconst (q := 267) C dL_law_266 rfl ?_
  refine r_iadd (q := 268) C dL_law_267 rfl ?_
  refine r_sld (q := 269) (j := jN + 1) C hX had (by omega) (by omega) (by omega) dL_law_268 rfl ?_
  refine r_callV (q := 272) C hM1 m_L_18 h8s h8a dL_law_269 rfl rfl ⟨Nat.le_of_ble_eq_true rfl, Nat.le_of_ble_eq_true rfl⟩ ⟨by show k + 0 ≤ 600000; omega, by show n + 0 ≤ 7302250; omega⟩ (Nat.le_of_ble_eq_true rfl) (fun r T2 σ2 hp1 => ?_)
  obtain ⟨hT2, z2, hr2, Po2, hM2, hP3⟩ := hP2 r T2 σ2 hp1
  subst hr2
  subst hT2
  simp only [Option.toList_some, List.cons_append, List.nil_append]
  refine r_al2 (q := 273) C dL_law_272 rfl ?_
  refine r_aal0 (q := 274) C dL_law_273 rfl ?_
  refine r_il3 (q := 275) C dL_law_274 rfl ?_
  refine r_iconst (q := 276) C dL_law_275 rfl ?_
  refine r_iadd (q := 277) C dL_law_276 rfl ?_
  refine r_sld (q := 278) (j := jN + 1) C hX had (by omega) (by omega) (by omega) dL_law_277 rfl ?_
  refine r_callV (q := 281) C hM2 m_L_22 h9s h9a dL_law_278 rfl rfl ⟨Nat.le_of_ble_eq_true rfl, Nat.le_of_ble_eq_true rfl⟩ ⟨by show k + 0 + 0 ≤ 600000; omega, by show n + 0 + 0 ≤ 7302250; omega⟩ (Nat.le_of_ble_eq_true rfl) (fun r3 T3 σ3 hp3 => ?_)
  obtain ⟨hr3, hS3⟩ := hP3 r3 T3 σ3 hp3
  subst hr3
  simp only [Option.toList_some, List.cons_append, List.nil_append]
  refine r_iceq_s (q := 1689) C rfl dL_law_281 (by decide) ?_
  exact kk _ _ _ _ (by omega) (by omega) hS3
set_option maxRecDepth 20000 in
set_option maxHeartbeats 4000000 in
theorem lc_cut (C : oCx p s m args meth c G b RL cL_law 4) (hX : va_X ad L xs s s.heap) (had : ad < b) (hL : L ≤ 3072) (hmx : xC + 1227 ≤ mC) (hS : oLS T σ xC mC Bd) (hB : Bd ≤ 99000000) (hj : jN + 6 ≤ L) (hk : k + 60 ≤ 600000) (hn : n + 480 ≤ 7302250) (kk : ∀ T2 σ2 k2 n2, k2 ≤ k + 60 → n2 ≤ n + 480 → oLS T2 σ2 xC mC (Bd + 162000) → oW p l e room_1 s m args below meth c G b 4 k2 n2 Q T2 σ2 1689 [some (oa ad), some (og xC), some (og mC), some (oi (jN : Int))] []) : oW p l e room_1 s m args below meth c G b 4 k n Q T σ 286 [some (oa ad), some (og xC), some (og mC), some (oi (jN : Int))] [] := by
  obtain ⟨h8s, h8a, h9s, h9a⟩ := oLS_sh hS
  obtain ⟨Po1, hM1, hP2⟩ := pr_cut hS hmx hB (o_r32 (xs (jN + 1))) (o_r32 (xs (jN + 2))) (o_r32 (xs (jN + 3)))
  refine r_al1 (q := 287) C dL_law_286 rfl ?_
  refine r_aal0 (q := 288) C dL_law_287 rfl ?_
  refine r_il3 (q := 289) C dL_law_288 rfl ?_
  refine r_iconst (q := 290) C dL_law_289 rfl ?_
  refine r_iadd (q := 291) C dL_law_290 rfl ?_
  refine r_sld (q := 292) (j := jN + 1) C hX had (by omega) (by omega) (by omega) dL_law_291 rfl ?_
  refine r_aal0 (q := 293) C dL_law_292 rfl ?_
  refine r_il3 (q := 294) C dL_law_293 rfl ?_
  refine r_iconst (q := 295) C dL_law_294 rfl ?_
  refine r_iadd (q := 296) C dL_law_295 rfl ?_
  refine r_sld (q := 297) (j := jN + 2) C hX had (by omega) (by omega) (by omega) dL_law_296 rfl ?_
  refine r_aal0 (q := 298) C dL_law_297 rfl ?_
  refine r_il3 (q := 299) C dL_law_298 rfl ?_
  refine r_iconst (q := 300) C dL_law_299 rfl ?_
  refine r_iadd (q := 301) C dL_law_300 rfl ?_
  refine r_sld (q := 302) (j := jN + 3) C hX had (by omega) (by omega) (by omega) dL_law_301 rfl ?_
  refine r_callV (q := 305) C hM1 m_L_23 h8s h8a dL_law_302 rfl rfl ⟨Nat.le_of_ble_eq_true rfl, Nat.le_of_ble_eq_true rfl⟩ ⟨by show k + 0 ≤ 600000; omega, by show n + 0 ≤ 7302250; omega⟩ (Nat.le_of_ble_eq_true rfl) (fun r T2 σ2 hp1 => ?_)
  obtain ⟨hT2, z2, hr2, Po2, hM2, hP3⟩ := hP2 r T2 σ2 hp1
  subst hr2
  subst hT2
  simp only [Option.toList_some, List.cons_append, List.nil_append]
  refine r_al2 (q := 306) C dL_law_305 rfl ?_
  refine r_aal0 (q := 307) C dL_law_306 rfl ?_
  refine r_il3 (q := 308) C dL_law_307 rfl ?_
  refine r_iconst (q := 309) C dL_law_308 rfl ?_
  refine r_iadd (q := 310) C dL_law_309 rfl ?_
  refine r_sld (q := 311) (j := jN + 1) C hX had (by omega) (by omega) (by omega) dL_law_310 rfl ?_
  refine r_aal0 (q := 312) C dL_law_311 rfl ?_
  refine r_il3 (q := 313) C dL_law_312 rfl ?_
  refine r_iconst (q := 314) C dL_law_313 rfl ?_
  refine r_iadd (q := 315) C dL_law_314 rfl ?_
  refine r_sld (q := 316) (j := jN + 2) C hX had (by omega) (by omega) (by omega) dL_law_315 rfl ?_
  refine r_aal0 (q := 317) C dL_law_316 rfl ?_
  refine r_il3 (q := 318) C dL_law_317 rfl ?_
  refine r_iconst (q := 319) C dL_law_318 rfl ?_
  refine r_iadd (q := 320) C dL_law_319 rfl ?_
  refine r_sld (q := 321) (j := jN + 3) C hX had (by omega) (by omega) (by omega) dL_law_320 rfl ?_
  refine r_callV (q := 324) C hM2 m_L_26 h9s h9a dL_law_321 rfl rfl ⟨Nat.le_of_ble_eq_true rfl, Nat.le_of_ble_eq_true rfl⟩ ⟨by show k + 0 + 0 ≤ 600000; omega, by show n + 0 + 0 ≤ 7302250; omega⟩ (Nat.le_of_ble_eq_true rfl) (fun r3 T3 σ3 hp3 => ?_)
  obtain ⟨hr3, hS3⟩ := hP3 r3 T3 σ3 hp3
  subst hr3
  simp only [Option.toList_some, List.cons_append, List.nil_append]
  refine r_iceq_s (q := 1689) C rfl dL_law_324 (by decide) ?_
  exact kk _ _ _ _ (by omega) (by omega) hS3
set_option maxRecDepth 20000 in
set_option maxHeartbeats 4000000 in
theorem lc_insert (C : oCx p s m args meth c G b RL cL_law 4) (hX : va_X ad L xs s s.heap) (had : ad < b) (hL : L ≤ 3072) (hmx : xC + 1227 ≤ mC) (hS : oLS T σ xC mC Bd) (hB : Bd ≤ 99000000) (hj : jN + 6 ≤ L) (hk : k + 60 ≤ 600000) (hn : n + 480 ≤ 7302250) (kk : ∀ T2 σ2 k2 n2, k2 ≤ k + 60 → n2 ≤ n + 480 → oLS T2 σ2 xC mC (Bd + 162000) → oW p l e room_1 s m args below meth c G b 4 k2 n2 Q T2 σ2 1689 [some (oa ad), some (og xC), some (og mC), some (oi (jN : Int))] []) : oW p l e room_1 s m args below meth c G b 4 k n Q T σ 329 [some (oa ad), some (og xC), some (og mC), some (oi (jN : Int))] [] := by
  obtain ⟨h8s, h8a, h9s, h9a⟩ := oLS_sh hS
  obtain ⟨Po1, hM1, hP2⟩ := pr_insert hS hmx hB (o_r32 (xs (jN + 1))) (o_r32 (xs (jN + 2))) (o_r32 (xs (jN + 3))) (o_r32 (xs (jN + 4)))
  refine r_al1 (q := 330) C dL_law_329 rfl ?_
  refine r_aal0 (q := 331) C dL_law_330 rfl ?_
  refine r_il3 (q := 332) C dL_law_331 rfl ?_
  refine r_iconst (q := 333) C dL_law_332 rfl ?_
  refine r_iadd (q := 334) C dL_law_333 rfl ?_
  refine r_sld (q := 335) (j := jN + 1) C hX had (by omega) (by omega) (by omega) dL_law_334 rfl ?_
  refine r_aal0 (q := 336) C dL_law_335 rfl ?_
  refine r_il3 (q := 337) C dL_law_336 rfl ?_
  refine r_iconst (q := 338) C dL_law_337 rfl ?_
  refine r_iadd (q := 339) C dL_law_338 rfl ?_
  refine r_sld (q := 340) (j := jN + 2) C hX had (by omega) (by omega) (by omega) dL_law_339 rfl ?_
  refine r_aal0 (q := 341) C dL_law_340 rfl ?_
  refine r_il3 (q := 342) C dL_law_341 rfl ?_
  refine r_iconst (q := 343) C dL_law_342 rfl ?_
  refine r_iadd (q := 344) C dL_law_343 rfl ?_
  refine r_sld (q := 345) (j := jN + 3) C hX had (by omega) (by omega) (by omega) dL_law_344 rfl ?_
  refine r_aal0 (q := 346) C dL_law_345 rfl ?_
  refine r_il3 (q := 347) C dL_law_346 rfl ?_
  refine r_iconst (q := 348) C dL_law_347 rfl ?_
  refine r_iadd (q := 349) C dL_law_348 rfl ?_
  refine r_sld (q := 350) (j := jN + 4) C hX had (by omega) (by omega) (by omega) dL_law_349 rfl ?_
  refine r_callV (q := 353) C hM1 m_L_27 h8s h8a dL_law_350 rfl rfl ⟨Nat.le_of_ble_eq_true rfl, Nat.le_of_ble_eq_true rfl⟩ ⟨by show k + 0 ≤ 600000; omega, by show n + 0 ≤ 7302250; omega⟩ (Nat.le_of_ble_eq_true rfl) (fun r T2 σ2 hp1 => ?_)
  obtain ⟨hT2, z2, hr2, Po2, hM2, hP3⟩ := hP2 r T2 σ2 hp1
  subst hr2
  subst hT2
  simp only [Option.toList_some, List.cons_append, List.nil_append]
  refine r_al2 (q := 354) C dL_law_353 rfl ?_
  refine r_aal0 (q := 355) C dL_law_354 rfl ?_
  refine r_il3 (q := 356) C dL_law_355 rfl ?_
  refine r_iconst (q := 357) C dL_law_356 rfl ?_
  refine r_iadd (q := 358) C dL_law_357 rfl ?_
  refine r_sld (q := 359) (j := jN + 1) C hX had (by omega) (by omega) (by omega) dL_law_358 rfl ?_
  refine r_aal0 (q := 360) C dL_law_359 rfl ?_
  refine r_il3 (q := 361) C dL_law_360 rfl ?_
  refine r_iconst (q := 362) C dL_law_361 rfl ?_
  refine r_iadd (q := 363) C dL_law_362 rfl ?_
  refine r_sld (q := 364) (j := jN + 2) C hX had (by omega) (by omega) (by omega) dL_law_363 rfl ?_
  refine r_aal0 (q := 365) C dL_law_364 rfl ?_
  refine r_il3 (q := 366) C dL_law_365 rfl ?_
  refine r_iconst (q := 367) C dL_law_366 rfl ?_
  refine r_iadd (q := 368) C dL_law_367 rfl ?_
  refine r_sld (q := 369) (j := jN + 3) C hX had (by omega) (by omega) (by omega) dL_law_368 rfl ?_
  refine r_aal0 (q := 370) C dL_law_369 rfl ?_
  refine r_il3 (q := 371) C dL_law_370 rfl ?_
  refine r_iconst (q := 372) C dL_law_371 rfl ?_
  refine r_iadd (q := 373) C dL_law_372 rfl ?_
  refine r_sld (q := 374) (j := jN + 4) C hX had (by omega) (by omega) (by omega) dL_law_373 rfl ?_
  refine r_callV (q := 377) C hM2 m_L_31 h9s h9a dL_law_374 rfl rfl ⟨Nat.le_of_ble_eq_true rfl, Nat.le_of_ble_eq_true rfl⟩ ⟨by show k + 0 + 0 ≤ 600000; omega, by show n + 0 + 0 ≤ 7302250; omega⟩ (Nat.le_of_ble_eq_true rfl) (fun r3 T3 σ3 hp3 => ?_)
  obtain ⟨hr3, hS3⟩ := hP3 r3 T3 σ3 hp3
  subst hr3
  simp only [Option.toList_some, List.cons_append, List.nil_append]
  refine r_iceq_s (q := 1689) C rfl dL_law_377 (by decide) ?_
  exact kk _ _ _ _ (by omega) (by omega) hS3
set_option maxRecDepth 20000 in
set_option maxHeartbeats 4000000 in
theorem lc_rework (C : oCx p s m args meth c G b RL cL_law 4) (hX : va_X ad L xs s s.heap) (had : ad < b) (hL : L ≤ 3072) (hmx : xC + 1227 ≤ mC) (hS : oLS T σ xC mC Bd) (hB : Bd ≤ 99000000) (hj : jN + 6 ≤ L) (hk : k + 60 ≤ 600000) (hn : n + 480 ≤ 7302250) (kk : ∀ T2 σ2 k2 n2, k2 ≤ k + 60 → n2 ≤ n + 480 → oLS T2 σ2 xC mC (Bd + 162000) → oW p l e room_1 s m args below meth c G b 4 k2 n2 Q T2 σ2 1689 [some (oa ad), some (og xC), some (og mC), some (oi (jN : Int))] []) : oW p l e room_1 s m args below meth c G b 4 k n Q T σ 382 [some (oa ad), some (og xC), some (og mC), some (oi (jN : Int))] [] := by
  obtain ⟨h8s, h8a, h9s, h9a⟩ := oLS_sh hS
  obtain ⟨Po1, hM1, hP2⟩ := pr_rework hS hmx hB (o_r32 (xs (jN + 1))) (o_r32 (xs (jN + 2))) (o_r32 (xs (jN + 3)))
  refine r_al1 (q := 383) C dL_law_382 rfl ?_
  refine r_aal0 (q := 384) C dL_law_383 rfl ?_
  refine r_il3 (q := 385) C dL_law_384 rfl ?_
  refine r_iconst (q := 386) C dL_law_385 rfl ?_
  refine r_iadd (q := 387) C dL_law_386 rfl ?_
  refine r_sld (q := 388) (j := jN + 1) C hX had (by omega) (by omega) (by omega) dL_law_387 rfl ?_
  refine r_aal0 (q := 389) C dL_law_388 rfl ?_
  refine r_il3 (q := 390) C dL_law_389 rfl ?_
  refine r_iconst (q := 391) C dL_law_390 rfl ?_
  refine r_iadd (q := 392) C dL_law_391 rfl ?_
  refine r_sld (q := 393) (j := jN + 2) C hX had (by omega) (by omega) (by omega) dL_law_392 rfl ?_
  refine r_aal0 (q := 394) C dL_law_393 rfl ?_
  refine r_il3 (q := 395) C dL_law_394 rfl ?_
  refine r_iconst (q := 396) C dL_law_395 rfl ?_
  refine r_iadd (q := 397) C dL_law_396 rfl ?_
  refine r_sld (q := 398) (j := jN + 3) C hX had (by omega) (by omega) (by omega) dL_law_397 rfl ?_
  refine r_callV (q := 401) C hM1 m_L_32 h8s h8a dL_law_398 rfl rfl ⟨Nat.le_of_ble_eq_true rfl, Nat.le_of_ble_eq_true rfl⟩ ⟨by show k + 0 ≤ 600000; omega, by show n + 0 ≤ 7302250; omega⟩ (Nat.le_of_ble_eq_true rfl) (fun r T2 σ2 hp1 => ?_)
  obtain ⟨hT2, z2, hr2, Po2, hM2, hP3⟩ := hP2 r T2 σ2 hp1
  subst hr2
  subst hT2
  simp only [Option.toList_some, List.cons_append, List.nil_append]
  refine r_al2 (q := 402) C dL_law_401 rfl ?_
  refine r_aal0 (q := 403) C dL_law_402 rfl ?_
  refine r_il3 (q := 404) C dL_law_403 rfl ?_
  refine r_iconst (q := 405) C dL_law_404 rfl ?_
  refine r_iadd (q := 406) C dL_law_405 rfl ?_
  refine r_sld (q := 407) (j := jN + 1) C hX had (by omega) (by omega) (by omega) dL_law_406 rfl ?_
  refine r_aal0 (q := 408) C dL_law_407 rfl ?_
  refine r_il3 (q := 409) C dL_law_408 rfl ?_
  refine r_iconst (q := 410) C dL_law_409 rfl ?_
  refine r_iadd (q := 411) C dL_law_410 rfl ?_
  refine r_sld (q := 412) (j := jN + 2) C hX had (by omega) (by omega) (by omega) dL_law_411 rfl ?_
  refine r_aal0 (q := 413) C dL_law_412 rfl ?_
  refine r_il3 (q := 414) C dL_law_413 rfl ?_
  refine r_iconst (q := 415) C dL_law_414 rfl ?_
  refine r_iadd (q := 416) C dL_law_415 rfl ?_
  refine r_sld (q := 417) (j := jN + 3) C hX had (by omega) (by omega) (by omega) dL_law_416 rfl ?_
  refine r_callV (q := 420) C hM2 m_L_35 h9s h9a dL_law_417 rfl rfl ⟨Nat.le_of_ble_eq_true rfl, Nat.le_of_ble_eq_true rfl⟩ ⟨by show k + 0 + 0 ≤ 600000; omega, by show n + 0 + 0 ≤ 7302250; omega⟩ (Nat.le_of_ble_eq_true rfl) (fun r3 T3 σ3 hp3 => ?_)
  obtain ⟨hr3, hS3⟩ := hP3 r3 T3 σ3 hp3
  subst hr3
  simp only [Option.toList_some, List.cons_append, List.nil_append]
  refine r_iceq_s (q := 1689) C rfl dL_law_420 (by decide) ?_
  exact kk _ _ _ _ (by omega) (by omega) hS3
set_option maxRecDepth 20000 in
set_option maxHeartbeats 4000000 in
theorem lc_ofEdition (C : oCx p s m args meth c G b RL cL_law 4) (hX : va_X ad L xs s s.heap) (had : ad < b) (hL : L ≤ 3072) (hmx : xC + 1227 ≤ mC) (hS : oLS T σ xC mC Bd) (hB : Bd ≤ 99000000) (hj : jN + 6 ≤ L) (hk : k + 60 ≤ 600000) (hn : n + 480 ≤ 7302250) (kk : ∀ T2 σ2 k2 n2, k2 ≤ k + 60 → n2 ≤ n + 480 → oLS T2 σ2 xC mC (Bd + 162000) → oW p l e room_1 s m args below meth c G b 4 k2 n2 Q T2 σ2 1689 [some (oa ad), some (og xC), some (og mC), some (oi (jN : Int))] []) : oW p l e room_1 s m args below meth c G b 4 k n Q T σ 425 [some (oa ad), some (og xC), some (og mC), some (oi (jN : Int))] [] := by
  obtain ⟨h8s, h8a, h9s, h9a⟩ := oLS_sh hS
  obtain ⟨Po1, hM1, hP2⟩ := pr_ofEdition hS hmx hB (o_r32 (xs (jN + 1))) (o_r32 (xs (jN + 2)))
  refine r_al1 (q := 426) C dL_law_425 rfl ?_
  refine r_aal0 (q := 427) C dL_law_426 rfl ?_
  refine r_il3 (q := 428) C dL_law_427 rfl ?_
  refine r_iconst (q := 429) C dL_law_428 rfl ?_
  refine r_iadd (q := 430) C dL_law_429 rfl ?_
  refine r_sld (q := 431) (j := jN + 1) C hX had (by omega) (by omega) (by omega) dL_law_430 rfl ?_
  refine r_aal0 (q := 432) C dL_law_431 rfl ?_
  refine r_il3 (q := 433) C dL_law_432 rfl ?_
  refine r_iconst (q := 434) C dL_law_433 rfl ?_
  refine r_iadd (q := 435) C dL_law_434 rfl ?_
  refine r_sld (q := 436) (j := jN + 2) C hX had (by omega) (by omega) (by omega) dL_law_435 rfl ?_
  refine r_callV (q := 439) C hM1 m_L_36 h8s h8a dL_law_436 rfl rfl ⟨Nat.le_of_ble_eq_true rfl, Nat.le_of_ble_eq_true rfl⟩ ⟨by show k + 0 ≤ 600000; omega, by show n + 0 ≤ 7302250; omega⟩ (Nat.le_of_ble_eq_true rfl) (fun r T2 σ2 hp1 => ?_)
  obtain ⟨hT2, z2, hr2, Po2, hM2, hP3⟩ := hP2 r T2 σ2 hp1
  subst hr2
  subst hT2
  simp only [Option.toList_some, List.cons_append, List.nil_append]
  refine r_al2 (q := 440) C dL_law_439 rfl ?_
  refine r_aal0 (q := 441) C dL_law_440 rfl ?_
  refine r_il3 (q := 442) C dL_law_441 rfl ?_
  refine r_iconst (q := 443) C dL_law_442 rfl ?_
  refine r_iadd (q := 444) C dL_law_443 rfl ?_
  refine r_sld (q := 445) (j := jN + 1) C hX had (by omega) (by omega) (by omega) dL_law_444 rfl ?_
  refine r_aal0 (q := 446) C dL_law_445 rfl ?_
  refine r_il3 (q := 447) C dL_law_446 rfl ?_
  refine r_iconst (q := 448) C dL_law_447 rfl ?_
  refine r_iadd (q := 449) C dL_law_448 rfl ?_
  refine r_sld (q := 450) (j := jN + 2) C hX had (by omega) (by omega) (by omega) dL_law_449 rfl ?_
  refine r_callV (q := 453) C hM2 m_L_40 h9s h9a dL_law_450 rfl rfl ⟨Nat.le_of_ble_eq_true rfl, Nat.le_of_ble_eq_true rfl⟩ ⟨by show k + 0 + 0 ≤ 600000; omega, by show n + 0 + 0 ≤ 7302250; omega⟩ (Nat.le_of_ble_eq_true rfl) (fun r3 T3 σ3 hp3 => ?_)
  obtain ⟨hr3, hS3⟩ := hP3 r3 T3 σ3 hp3
  subst hr3
  simp only [Option.toList_some, List.cons_append, List.nil_append]
  refine r_iceq_s (q := 1689) C rfl dL_law_453 (by decide) ?_
  exact kk _ _ _ _ (by omega) (by omega) hS3
set_option maxRecDepth 20000 in
set_option maxHeartbeats 4000000 in
theorem lc_bar (C : oCx p s m args meth c G b RL cL_law 4) (hX : va_X ad L xs s s.heap) (had : ad < b) (hL : L ≤ 3072) (hmx : xC + 1227 ≤ mC) (hS : oLS T σ xC mC Bd) (hB : Bd ≤ 99000000) (hj : jN + 6 ≤ L) (hk : k + 60 ≤ 600000) (hn : n + 480 ≤ 7302250) (kk : ∀ T2 σ2 k2 n2, k2 ≤ k + 60 → n2 ≤ n + 480 → oLS T2 σ2 xC mC (Bd + 162000) → oW p l e room_1 s m args below meth c G b 4 k2 n2 Q T2 σ2 1689 [some (oa ad), some (og xC), some (og mC), some (oi (jN : Int))] []) : oW p l e room_1 s m args below meth c G b 4 k n Q T σ 458 [some (oa ad), some (og xC), some (og mC), some (oi (jN : Int))] [] := by
  obtain ⟨h8s, h8a, h9s, h9a⟩ := oLS_sh hS
  obtain ⟨Po1, hM1, hP2⟩ := pr_bar hS hmx hB (o_r32 (xs (jN + 1))) (o_r32 (xs (jN + 2))) (o_r32 (xs (jN + 3)))
  refine r_al1 (q := 459) C dL_law_458 rfl ?_
  refine r_aal0 (q := 460) C dL_law_459 rfl ?_
  refine r_il3 (q := 461) C dL_law_460 rfl ?_
  refine r_iconst (q := 462) C dL_law_461 rfl ?_
  refine r_iadd (q := 463) C dL_law_462 rfl ?_
  refine r_sld (q := 464) (j := jN + 1) C hX had (by omega) (by omega) (by omega) dL_law_463 rfl ?_
  refine r_aal0 (q := 465) C dL_law_464 rfl ?_
  refine r_il3 (q := 466) C dL_law_465 rfl ?_
  refine r_iconst (q := 467) C dL_law_466 rfl ?_
  refine r_iadd (q := 468) C dL_law_467 rfl ?_
  refine r_sld (q := 469) (j := jN + 2) C hX had (by omega) (by omega) (by omega) dL_law_468 rfl ?_
  refine r_aal0 (q := 470) C dL_law_469 rfl ?_
  refine r_il3 (q := 471) C dL_law_470 rfl ?_
  refine r_iconst (q := 472) C dL_law_471 rfl ?_
  refine r_iadd (q := 473) C dL_law_472 rfl ?_
  refine r_sld (q := 474) (j := jN + 3) C hX had (by omega) (by omega) (by omega) dL_law_473 rfl ?_
  refine r_callV (q := 477) C hM1 m_L_41 h8s h8a dL_law_474 rfl rfl ⟨Nat.le_of_ble_eq_true rfl, Nat.le_of_ble_eq_true rfl⟩ ⟨by show k + 0 ≤ 600000; omega, by show n + 0 ≤ 7302250; omega⟩ (Nat.le_of_ble_eq_true rfl) (fun r T2 σ2 hp1 => ?_)
  obtain ⟨hT2, z2, hr2, Po2, hM2, hP3⟩ := hP2 r T2 σ2 hp1
  subst hr2
  subst hT2
  simp only [Option.toList_some, List.cons_append, List.nil_append]
  refine r_al2 (q := 478) C dL_law_477 rfl ?_
  refine r_aal0 (q := 479) C dL_law_478 rfl ?_
  refine r_il3 (q := 480) C dL_law_479 rfl ?_
  refine r_iconst (q := 481) C dL_law_480 rfl ?_
  refine r_iadd (q := 482) C dL_law_481 rfl ?_
  refine r_sld (q := 483) (j := jN + 1) C hX had (by omega) (by omega) (by omega) dL_law_482 rfl ?_
  refine r_aal0 (q := 484) C dL_law_483 rfl ?_
  refine r_il3 (q := 485) C dL_law_484 rfl ?_
  refine r_iconst (q := 486) C dL_law_485 rfl ?_
  refine r_iadd (q := 487) C dL_law_486 rfl ?_
  refine r_sld (q := 488) (j := jN + 2) C hX had (by omega) (by omega) (by omega) dL_law_487 rfl ?_
  refine r_aal0 (q := 489) C dL_law_488 rfl ?_
  refine r_il3 (q := 490) C dL_law_489 rfl ?_
  refine r_iconst (q := 491) C dL_law_490 rfl ?_
  refine r_iadd (q := 492) C dL_law_491 rfl ?_
  refine r_sld (q := 493) (j := jN + 3) C hX had (by omega) (by omega) (by omega) dL_law_492 rfl ?_
  refine r_callV (q := 496) C hM2 m_L_44 h9s h9a dL_law_493 rfl rfl ⟨Nat.le_of_ble_eq_true rfl, Nat.le_of_ble_eq_true rfl⟩ ⟨by show k + 0 + 0 ≤ 600000; omega, by show n + 0 + 0 ≤ 7302250; omega⟩ (Nat.le_of_ble_eq_true rfl) (fun r3 T3 σ3 hp3 => ?_)
  obtain ⟨hr3, hS3⟩ := hP3 r3 T3 σ3 hp3
  subst hr3
  simp only [Option.toList_some, List.cons_append, List.nil_append]
  refine r_iceq_s (q := 1689) C rfl dL_law_496 (by decide) ?_
  exact kk _ _ _ _ (by omega) (by omega) hS3
set_option maxRecDepth 20000 in
set_option maxHeartbeats 4000000 in
theorem lc_carry (C : oCx p s m args meth c G b RL cL_law 4) (hX : va_X ad L xs s s.heap) (had : ad < b) (hL : L ≤ 3072) (hmx : xC + 1227 ≤ mC) (hS : oLS T σ xC mC Bd) (hB : Bd ≤ 99000000) (hj : jN + 6 ≤ L) (hk : k + 60 ≤ 600000) (hn : n + 480 ≤ 7302250) (kk : ∀ T2 σ2 k2 n2, k2 ≤ k + 60 → n2 ≤ n + 480 → oLS T2 σ2 xC mC (Bd + 162000) → oW p l e room_1 s m args below meth c G b 4 k2 n2 Q T2 σ2 1689 [some (oa ad), some (og xC), some (og mC), some (oi (jN : Int))] []) : oW p l e room_1 s m args below meth c G b 4 k n Q T σ 501 [some (oa ad), some (og xC), some (og mC), some (oi (jN : Int))] [] := by
  obtain ⟨h8s, h8a, h9s, h9a⟩ := oLS_sh hS
  obtain ⟨Po1, hM1, hP2⟩ := pr_carry hS hmx hB (o_r32 (xs (jN + 1))) (o_r32 (xs (jN + 2))) (o_r32 (xs (jN + 3)))
  refine r_al1 (q := 502) C dL_law_501 rfl ?_
  refine r_aal0 (q := 503) C dL_law_502 rfl ?_
  refine r_il3 (q := 504) C dL_law_503 rfl ?_
  refine r_iconst (q := 505) C dL_law_504 rfl ?_
  refine r_iadd (q := 506) C dL_law_505 rfl ?_
  refine r_sld (q := 507) (j := jN + 1) C hX had (by omega) (by omega) (by omega) dL_law_506 rfl ?_
  refine r_aal0 (q := 508) C dL_law_507 rfl ?_
  refine r_il3 (q := 509) C dL_law_508 rfl ?_
  refine r_iconst (q := 510) C dL_law_509 rfl ?_
  refine r_iadd (q := 511) C dL_law_510 rfl ?_
  refine r_sld (q := 512) (j := jN + 2) C hX had (by omega) (by omega) (by omega) dL_law_511 rfl ?_
  refine r_aal0 (q := 513) C dL_law_512 rfl ?_
  refine r_il3 (q := 514) C dL_law_513 rfl ?_
  refine r_iconst (q := 515) C dL_law_514 rfl ?_
  refine r_iadd (q := 516) C dL_law_515 rfl ?_
  refine r_sld (q := 517) (j := jN + 3) C hX had (by omega) (by omega) (by omega) dL_law_516 rfl ?_
  refine r_callV (q := 520) C hM1 m_L_45 h8s h8a dL_law_517 rfl rfl ⟨Nat.le_of_ble_eq_true rfl, Nat.le_of_ble_eq_true rfl⟩ ⟨by show k + 0 ≤ 600000; omega, by show n + 0 ≤ 7302250; omega⟩ (Nat.le_of_ble_eq_true rfl) (fun r T2 σ2 hp1 => ?_)
  obtain ⟨hT2, z2, hr2, Po2, hM2, hP3⟩ := hP2 r T2 σ2 hp1
  subst hr2
  subst hT2
  simp only [Option.toList_some, List.cons_append, List.nil_append]
  refine r_al2 (q := 521) C dL_law_520 rfl ?_
  refine r_aal0 (q := 522) C dL_law_521 rfl ?_
  refine r_il3 (q := 523) C dL_law_522 rfl ?_
  refine r_iconst (q := 524) C dL_law_523 rfl ?_
  refine r_iadd (q := 525) C dL_law_524 rfl ?_
  refine r_sld (q := 526) (j := jN + 1) C hX had (by omega) (by omega) (by omega) dL_law_525 rfl ?_
  refine r_aal0 (q := 527) C dL_law_526 rfl ?_
  refine r_il3 (q := 528) C dL_law_527 rfl ?_
  refine r_iconst (q := 529) C dL_law_528 rfl ?_
  refine r_iadd (q := 530) C dL_law_529 rfl ?_
  refine r_sld (q := 531) (j := jN + 2) C hX had (by omega) (by omega) (by omega) dL_law_530 rfl ?_
  refine r_aal0 (q := 532) C dL_law_531 rfl ?_
  refine r_il3 (q := 533) C dL_law_532 rfl ?_
  refine r_iconst (q := 534) C dL_law_533 rfl ?_
  refine r_iadd (q := 535) C dL_law_534 rfl ?_
  refine r_sld (q := 536) (j := jN + 3) C hX had (by omega) (by omega) (by omega) dL_law_535 rfl ?_
  refine r_callV (q := 539) C hM2 m_L_48 h9s h9a dL_law_536 rfl rfl ⟨Nat.le_of_ble_eq_true rfl, Nat.le_of_ble_eq_true rfl⟩ ⟨by show k + 0 + 0 ≤ 600000; omega, by show n + 0 + 0 ≤ 7302250; omega⟩ (Nat.le_of_ble_eq_true rfl) (fun r3 T3 σ3 hp3 => ?_)
  obtain ⟨hr3, hS3⟩ := hP3 r3 T3 σ3 hp3
  subst hr3
  simp only [Option.toList_some, List.cons_append, List.nil_append]
  refine r_iceq_s (q := 1689) C rfl dL_law_539 (by decide) ?_
  exact kk _ _ _ _ (by omega) (by omega) hS3
set_option maxRecDepth 20000 in
set_option maxHeartbeats 4000000 in
theorem lc_compare (C : oCx p s m args meth c G b RL cL_law 4) (hX : va_X ad L xs s s.heap) (had : ad < b) (hL : L ≤ 3072) (hmx : xC + 1227 ≤ mC) (hS : oLS T σ xC mC Bd) (hB : Bd ≤ 99000000) (hj : jN + 6 ≤ L) (hk : k + 60 ≤ 600000) (hn : n + 480 ≤ 7302250) (kk : ∀ T2 σ2 k2 n2, k2 ≤ k + 60 → n2 ≤ n + 480 → oLS T2 σ2 xC mC (Bd + 162000) → oW p l e room_1 s m args below meth c G b 4 k2 n2 Q T2 σ2 1689 [some (oa ad), some (og xC), some (og mC), some (oi (jN : Int))] []) : oW p l e room_1 s m args below meth c G b 4 k n Q T σ 544 [some (oa ad), some (og xC), some (og mC), some (oi (jN : Int))] [] := by
  obtain ⟨h8s, h8a, h9s, h9a⟩ := oLS_sh hS
  obtain ⟨Po1, hM1, hP2⟩ := pr_compare hS hmx hB (o_r32 (xs (jN + 1))) (o_r32 (xs (jN + 2))) (o_r32 (xs (jN + 3)))
  refine r_al1 (q := 545) C dL_law_544 rfl ?_
  refine r_aal0 (q := 546) C dL_law_545 rfl ?_
  refine r_il3 (q := 547) C dL_law_546 rfl ?_
  refine r_iconst (q := 548) C dL_law_547 rfl ?_
  refine r_iadd (q := 549) C dL_law_548 rfl ?_
  refine r_sld (q := 550) (j := jN + 1) C hX had (by omega) (by omega) (by omega) dL_law_549 rfl ?_
  refine r_aal0 (q := 551) C dL_law_550 rfl ?_
  refine r_il3 (q := 552) C dL_law_551 rfl ?_
  refine r_iconst (q := 553) C dL_law_552 rfl ?_
  refine r_iadd (q := 554) C dL_law_553 rfl ?_
  refine r_sld (q := 555) (j := jN + 2) C hX had (by omega) (by omega) (by omega) dL_law_554 rfl ?_
  refine r_aal0 (q := 556) C dL_law_555 rfl ?_
  refine r_il3 (q := 557) C dL_law_556 rfl ?_
  refine r_iconst (q := 558) C dL_law_557 rfl ?_
  refine r_iadd (q := 559) C dL_law_558 rfl ?_
  refine r_sld (q := 560) (j := jN + 3) C hX had (by omega) (by omega) (by omega) dL_law_559 rfl ?_
  refine r_callV (q := 563) C hM1 m_L_49 h8s h8a dL_law_560 rfl rfl ⟨Nat.le_of_ble_eq_true rfl, Nat.le_of_ble_eq_true rfl⟩ ⟨by show k + 0 ≤ 600000; omega, by show n + 0 ≤ 7302250; omega⟩ (Nat.le_of_ble_eq_true rfl) (fun r T2 σ2 hp1 => ?_)
  obtain ⟨hT2, z2, hr2, Po2, hM2, hP3⟩ := hP2 r T2 σ2 hp1
  subst hr2
  subst hT2
  simp only [Option.toList_some, List.cons_append, List.nil_append]
  refine r_al2 (q := 564) C dL_law_563 rfl ?_
  refine r_aal0 (q := 565) C dL_law_564 rfl ?_
  refine r_il3 (q := 566) C dL_law_565 rfl ?_
  refine r_iconst (q := 567) C dL_law_566 rfl ?_
  refine r_iadd (q := 568) C dL_law_567 rfl ?_
  refine r_sld (q := 569) (j := jN + 1) C hX had (by omega) (by omega) (by omega) dL_law_568 rfl ?_
  refine r_aal0 (q := 570) C dL_law_569 rfl ?_
  refine r_il3 (q := 571) C dL_law_570 rfl ?_
  refine r_iconst (q := 572) C dL_law_571 rfl ?_
  refine r_iadd (q := 573) C dL_law_572 rfl ?_
  refine r_sld (q := 574) (j := jN + 2) C hX had (by omega) (by omega) (by omega) dL_law_573 rfl ?_
  refine r_aal0 (q := 575) C dL_law_574 rfl ?_
  refine r_il3 (q := 576) C dL_law_575 rfl ?_
  refine r_iconst (q := 577) C dL_law_576 rfl ?_
  refine r_iadd (q := 578) C dL_law_577 rfl ?_
  refine r_sld (q := 579) (j := jN + 3) C hX had (by omega) (by omega) (by omega) dL_law_578 rfl ?_
  refine r_callV (q := 582) C hM2 m_L_52 h9s h9a dL_law_579 rfl rfl ⟨Nat.le_of_ble_eq_true rfl, Nat.le_of_ble_eq_true rfl⟩ ⟨by show k + 0 + 0 ≤ 600000; omega, by show n + 0 + 0 ≤ 7302250; omega⟩ (Nat.le_of_ble_eq_true rfl) (fun r3 T3 σ3 hp3 => ?_)
  obtain ⟨hr3, hS3⟩ := hP3 r3 T3 σ3 hp3
  subst hr3
  simp only [Option.toList_some, List.cons_append, List.nil_append]
  refine r_iceq_s (q := 1689) C rfl dL_law_582 (by decide) ?_
  exact kk _ _ _ _ (by omega) (by omega) hS3
set_option maxRecDepth 20000 in
set_option maxHeartbeats 4000000 in
theorem lc_difference (C : oCx p s m args meth c G b RL cL_law 4) (hX : va_X ad L xs s s.heap) (had : ad < b) (hL : L ≤ 3072) (hmx : xC + 1227 ≤ mC) (hS : oLS T σ xC mC Bd) (hB : Bd ≤ 99000000) (hj : jN + 6 ≤ L) (hk : k + 60 ≤ 600000) (hn : n + 480 ≤ 7302250) (kk : ∀ T2 σ2 k2 n2, k2 ≤ k + 60 → n2 ≤ n + 480 → oLS T2 σ2 xC mC (Bd + 162000) → oW p l e room_1 s m args below meth c G b 4 k2 n2 Q T2 σ2 1689 [some (oa ad), some (og xC), some (og mC), some (oi (jN : Int))] []) : oW p l e room_1 s m args below meth c G b 4 k n Q T σ 587 [some (oa ad), some (og xC), some (og mC), some (oi (jN : Int))] [] := by
  obtain ⟨h8s, h8a, h9s, h9a⟩ := oLS_sh hS
  obtain ⟨Po1, hM1, hP2⟩ := pr_difference hS hmx hB (o_r32 (xs (jN + 1))) (o_r32 (xs (jN + 2))) (o_r32 (xs (jN + 3))) (o_r32 (xs (jN + 4)))
  refine r_al1 (q := 588) C dL_law_587 rfl ?_
  refine r_aal0 (q := 589) C dL_law_588 rfl ?_
  refine r_il3 (q := 590) C dL_law_589 rfl ?_
  refine r_iconst (q := 591) C dL_law_590 rfl ?_
  refine r_iadd (q := 592) C dL_law_591 rfl ?_
  refine r_sld (q := 593) (j := jN + 1) C hX had (by omega) (by omega) (by omega) dL_law_592 rfl ?_
  refine r_aal0 (q := 594) C dL_law_593 rfl ?_
  refine r_il3 (q := 595) C dL_law_594 rfl ?_
  refine r_iconst (q := 596) C dL_law_595 rfl ?_
  refine r_iadd (q := 597) C dL_law_596 rfl ?_
  refine r_sld (q := 598) (j := jN + 2) C hX had (by omega) (by omega) (by omega) dL_law_597 rfl ?_
  refine r_aal0 (q := 599) C dL_law_598 rfl ?_
  refine r_il3 (q := 600) C dL_law_599 rfl ?_
  refine r_iconst (q := 601) C dL_law_600 rfl ?_
  refine r_iadd (q := 602) C dL_law_601 rfl ?_
  refine r_sld (q := 603) (j := jN + 3) C hX had (by omega) (by omega) (by omega) dL_law_602 rfl ?_
  refine r_aal0 (q := 604) C dL_law_603 rfl ?_
  refine r_il3 (q := 605) C dL_law_604 rfl ?_
  refine r_iconst (q := 606) C dL_law_605 rfl ?_
  refine r_iadd (q := 607) C dL_law_606 rfl ?_
  refine r_sld (q := 608) (j := jN + 4) C hX had (by omega) (by omega) (by omega) dL_law_607 rfl ?_
  refine r_callV (q := 611) C hM1 m_L_53 h8s h8a dL_law_608 rfl rfl ⟨Nat.le_of_ble_eq_true rfl, Nat.le_of_ble_eq_true rfl⟩ ⟨by show k + 0 ≤ 600000; omega, by show n + 0 ≤ 7302250; omega⟩ (Nat.le_of_ble_eq_true rfl) (fun r T2 σ2 hp1 => ?_)
  obtain ⟨hT2, z2, hr2, Po2, hM2, hP3⟩ := hP2 r T2 σ2 hp1
  subst hr2
  subst hT2
  simp only [Option.toList_some, List.cons_append, List.nil_append]
  refine r_al2 (q := 612) C dL_law_611 rfl ?_
  refine r_aal0 (q := 613) C dL_law_612 rfl ?_
  refine r_il3 (q := 614) C dL_law_613 rfl ?_
  refine r_iconst (q := 615) C dL_law_614 rfl ?_
  refine r_iadd (q := 616) C dL_law_615 rfl ?_
  refine r_sld (q := 617) (j := jN + 1) C hX had (by omega) (by omega) (by omega) dL_law_616 rfl ?_
  refine r_aal0 (q := 618) C dL_law_617 rfl ?_
  refine r_il3 (q := 619) C dL_law_618 rfl ?_
  refine r_iconst (q := 620) C dL_law_619 rfl ?_
  refine r_iadd (q := 621) C dL_law_620 rfl ?_
  refine r_sld (q := 622) (j := jN + 2) C hX had (by omega) (by omega) (by omega) dL_law_621 rfl ?_
  refine r_aal0 (q := 623) C dL_law_622 rfl ?_
  refine r_il3 (q := 624) C dL_law_623 rfl ?_
  refine r_iconst (q := 625) C dL_law_624 rfl ?_
  refine r_iadd (q := 626) C dL_law_625 rfl ?_
  refine r_sld (q := 627) (j := jN + 3) C hX had (by omega) (by omega) (by omega) dL_law_626 rfl ?_
  refine r_aal0 (q := 628) C dL_law_627 rfl ?_
  refine r_il3 (q := 629) C dL_law_628 rfl ?_
  refine r_iconst (q := 630) C dL_law_629 rfl ?_
  refine r_iadd (q := 631) C dL_law_630 rfl ?_
  refine r_sld (q := 632) (j := jN + 4) C hX had (by omega) (by omega) (by omega) dL_law_631 rfl ?_
  refine r_callV (q := 635) C hM2 m_L_56 h9s h9a dL_law_632 rfl rfl ⟨Nat.le_of_ble_eq_true rfl, Nat.le_of_ble_eq_true rfl⟩ ⟨by show k + 0 + 0 ≤ 600000; omega, by show n + 0 + 0 ≤ 7302250; omega⟩ (Nat.le_of_ble_eq_true rfl) (fun r3 T3 σ3 hp3 => ?_)
  obtain ⟨hr3, hS3⟩ := hP3 r3 T3 σ3 hp3
  subst hr3
  simp only [Option.toList_some, List.cons_append, List.nil_append]
  refine r_iceq_s (q := 1689) C rfl dL_law_635 (by decide) ?_
  exact kk _ _ _ _ (by omega) (by omega) hS3
set_option maxRecDepth 20000 in
set_option maxHeartbeats 4000000 in
theorem lc_tempo (C : oCx p s m args meth c G b RL cL_law 4) (hX : va_X ad L xs s s.heap) (had : ad < b) (hL : L ≤ 3072) (hmx : xC + 1227 ≤ mC) (hS : oLS T σ xC mC Bd) (hB : Bd ≤ 99000000) (hj : jN + 6 ≤ L) (hk : k + 60 ≤ 600000) (hn : n + 480 ≤ 7302250) (kk : ∀ T2 σ2 k2 n2, k2 ≤ k + 60 → n2 ≤ n + 480 → oLS T2 σ2 xC mC (Bd + 162000) → oW p l e room_1 s m args below meth c G b 4 k2 n2 Q T2 σ2 1689 [some (oa ad), some (og xC), some (og mC), some (oi (jN : Int))] []) : oW p l e room_1 s m args below meth c G b 4 k n Q T σ 640 [some (oa ad), some (og xC), some (og mC), some (oi (jN : Int))] [] := by
  obtain ⟨h8s, h8a, h9s, h9a⟩ := oLS_sh hS
  obtain ⟨Po1, hM1, hP2⟩ := pr_tempo hS hmx hB (o_r32 (xs (jN + 1))) (o_r32 (xs (jN + 2))) (o_r32 (xs (jN + 3)))
  refine r_al1 (q := 641) C dL_law_640 rfl ?_
  refine r_aal0 (q := 642) C dL_law_641 rfl ?_
  refine r_il3 (q := 643) C dL_law_642 rfl ?_
  refine r_iconst (q := 644) C dL_law_643 rfl ?_
  refine r_iadd (q := 645) C dL_law_644 rfl ?_
  refine r_sld (q := 646) (j := jN + 1) C hX had (by omega) (by omega) (by omega) dL_law_645 rfl ?_
  refine r_aal0 (q := 647) C dL_law_646 rfl ?_
  refine r_il3 (q := 648) C dL_law_647 rfl ?_
  refine r_iconst (q := 649) C dL_law_648 rfl ?_
  refine r_iadd (q := 650) C dL_law_649 rfl ?_
  refine r_sld (q := 651) (j := jN + 2) C hX had (by omega) (by omega) (by omega) dL_law_650 rfl ?_
  refine r_aal0 (q := 652) C dL_law_651 rfl ?_
  refine r_il3 (q := 653) C dL_law_652 rfl ?_
  refine r_iconst (q := 654) C dL_law_653 rfl ?_
  refine r_iadd (q := 655) C dL_law_654 rfl ?_
  refine r_sld (q := 656) (j := jN + 3) C hX had (by omega) (by omega) (by omega) dL_law_655 rfl ?_
  refine r_callV (q := 659) C hM1 m_L_57 h8s h8a dL_law_656 rfl rfl ⟨Nat.le_of_ble_eq_true rfl, Nat.le_of_ble_eq_true rfl⟩ ⟨by show k + 0 ≤ 600000; omega, by show n + 0 ≤ 7302250; omega⟩ (Nat.le_of_ble_eq_true rfl) (fun r T2 σ2 hp1 => ?_)
  obtain ⟨hT2, z2, hr2, Po2, hM2, hP3⟩ := hP2 r T2 σ2 hp1
  subst hr2
  subst hT2
  simp only [Option.toList_some, List.cons_append, List.nil_append]
  refine r_al2 (q := 660) C dL_law_659 rfl ?_
  refine r_aal0 (q := 661) C dL_law_660 rfl ?_
  refine r_il3 (q := 662) C dL_law_661 rfl ?_
  refine r_iconst (q := 663) C dL_law_662 rfl ?_
  refine r_iadd (q := 664) C dL_law_663 rfl ?_
  refine r_sld (q := 665) (j := jN + 1) C hX had (by omega) (by omega) (by omega) dL_law_664 rfl ?_
  refine r_aal0 (q := 666) C dL_law_665 rfl ?_
  refine r_il3 (q := 667) C dL_law_666 rfl ?_
  refine r_iconst (q := 668) C dL_law_667 rfl ?_
  refine r_iadd (q := 669) C dL_law_668 rfl ?_
  refine r_sld (q := 670) (j := jN + 2) C hX had (by omega) (by omega) (by omega) dL_law_669 rfl ?_
  refine r_aal0 (q := 671) C dL_law_670 rfl ?_
  refine r_il3 (q := 672) C dL_law_671 rfl ?_
  refine r_iconst (q := 673) C dL_law_672 rfl ?_
  refine r_iadd (q := 674) C dL_law_673 rfl ?_
  refine r_sld (q := 675) (j := jN + 3) C hX had (by omega) (by omega) (by omega) dL_law_674 rfl ?_
  refine r_callV (q := 678) C hM2 m_L_60 h9s h9a dL_law_675 rfl rfl ⟨Nat.le_of_ble_eq_true rfl, Nat.le_of_ble_eq_true rfl⟩ ⟨by show k + 0 + 0 ≤ 600000; omega, by show n + 0 + 0 ≤ 7302250; omega⟩ (Nat.le_of_ble_eq_true rfl) (fun r3 T3 σ3 hp3 => ?_)
  obtain ⟨hr3, hS3⟩ := hP3 r3 T3 σ3 hp3
  subst hr3
  simp only [Option.toList_some, List.cons_append, List.nil_append]
  refine r_iceq_s (q := 1689) C rfl dL_law_678 (by decide) ?_
  exact kk _ _ _ _ (by omega) (by omega) hS3
set_option maxRecDepth 20000 in
set_option maxHeartbeats 4000000 in
theorem lc_seconds (C : oCx p s m args meth c G b RL cL_law 4) (hX : va_X ad L xs s s.heap) (had : ad < b) (hL : L ≤ 3072) (hmx : xC + 1227 ≤ mC) (hS : oLS T σ xC mC Bd) (hB : Bd ≤ 99000000) (hj : jN + 6 ≤ L) (hk : k + 60 ≤ 600000) (hn : n + 480 ≤ 7302250) (kk : ∀ T2 σ2 k2 n2, k2 ≤ k + 60 → n2 ≤ n + 480 → oLS T2 σ2 xC mC (Bd + 162000) → oW p l e room_1 s m args below meth c G b 4 k2 n2 Q T2 σ2 1689 [some (oa ad), some (og xC), some (og mC), some (oi (jN : Int))] []) : oW p l e room_1 s m args below meth c G b 4 k n Q T σ 683 [some (oa ad), some (og xC), some (og mC), some (oi (jN : Int))] [] := by
  obtain ⟨h8s, h8a, h9s, h9a⟩ := oLS_sh hS
  obtain ⟨Po1, hM1, hP2⟩ := pr_seconds hS hmx hB (o_r32 (xs (jN + 1))) (o_r32 (xs (jN + 2))) (o_r32 (xs (jN + 3)))
  refine r_al1 (q := 684) C dL_law_683 rfl ?_
  refine r_aal0 (q := 685) C dL_law_684 rfl ?_
  refine r_il3 (q := 686) C dL_law_685 rfl ?_
  refine r_iconst (q := 687) C dL_law_686 rfl ?_
  refine r_iadd (q := 688) C dL_law_687 rfl ?_
  refine r_sld (q := 689) (j := jN + 1) C hX had (by omega) (by omega) (by omega) dL_law_688 rfl ?_
  refine r_aal0 (q := 690) C dL_law_689 rfl ?_
  refine r_il3 (q := 691) C dL_law_690 rfl ?_
  refine r_iconst (q := 692) C dL_law_691 rfl ?_
  refine r_iadd (q := 693) C dL_law_692 rfl ?_
  refine r_sld (q := 694) (j := jN + 2) C hX had (by omega) (by omega) (by omega) dL_law_693 rfl ?_
  refine r_aal0 (q := 695) C dL_law_694 rfl ?_
  refine r_il3 (q := 696) C dL_law_695 rfl ?_
  refine r_iconst (q := 697) C dL_law_696 rfl ?_
  refine r_iadd (q := 698) C dL_law_697 rfl ?_
  refine r_sld (q := 699) (j := jN + 3) C hX had (by omega) (by omega) (by omega) dL_law_698 rfl ?_
  refine r_callV (q := 702) C hM1 m_L_61 h8s h8a dL_law_699 rfl rfl ⟨Nat.le_of_ble_eq_true rfl, Nat.le_of_ble_eq_true rfl⟩ ⟨by show k + 0 ≤ 600000; omega, by show n + 0 ≤ 7302250; omega⟩ (Nat.le_of_ble_eq_true rfl) (fun r T2 σ2 hp1 => ?_)
  obtain ⟨hT2, z2, hr2, Po2, hM2, hP3⟩ := hP2 r T2 σ2 hp1
  subst hr2
  subst hT2
  simp only [Option.toList_some, List.cons_append, List.nil_append]
  refine r_al2 (q := 703) C dL_law_702 rfl ?_
  refine r_aal0 (q := 704) C dL_law_703 rfl ?_
  refine r_il3 (q := 705) C dL_law_704 rfl ?_
  refine r_iconst (q := 706) C dL_law_705 rfl ?_
  refine r_iadd (q := 707) C dL_law_706 rfl ?_
  refine r_sld (q := 708) (j := jN + 1) C hX had (by omega) (by omega) (by omega) dL_law_707 rfl ?_
  refine r_aal0 (q := 709) C dL_law_708 rfl ?_
  refine r_il3 (q := 710) C dL_law_709 rfl ?_
  refine r_iconst (q := 711) C dL_law_710 rfl ?_
  refine r_iadd (q := 712) C dL_law_711 rfl ?_
  refine r_sld (q := 713) (j := jN + 2) C hX had (by omega) (by omega) (by omega) dL_law_712 rfl ?_
  refine r_aal0 (q := 714) C dL_law_713 rfl ?_
  refine r_il3 (q := 715) C dL_law_714 rfl ?_
  refine r_iconst (q := 716) C dL_law_715 rfl ?_
  refine r_iadd (q := 717) C dL_law_716 rfl ?_
  refine r_sld (q := 718) (j := jN + 3) C hX had (by omega) (by omega) (by omega) dL_law_717 rfl ?_
  refine r_callV (q := 721) C hM2 m_L_64 h9s h9a dL_law_718 rfl rfl ⟨Nat.le_of_ble_eq_true rfl, Nat.le_of_ble_eq_true rfl⟩ ⟨by show k + 0 + 0 ≤ 600000; omega, by show n + 0 + 0 ≤ 7302250; omega⟩ (Nat.le_of_ble_eq_true rfl) (fun r3 T3 σ3 hp3 => ?_)
  obtain ⟨hr3, hS3⟩ := hP3 r3 T3 σ3 hp3
  subst hr3
  simp only [Option.toList_some, List.cons_append, List.nil_append]
  refine r_iceq_s (q := 1689) C rfl dL_law_721 (by decide) ?_
  exact kk _ _ _ _ (by omega) (by omega) hS3
set_option maxRecDepth 20000 in
set_option maxHeartbeats 4000000 in
theorem lc_length (C : oCx p s m args meth c G b RL cL_law 4) (hX : va_X ad L xs s s.heap) (had : ad < b) (hL : L ≤ 3072) (hmx : xC + 1227 ≤ mC) (hS : oLS T σ xC mC Bd) (hB : Bd ≤ 99000000) (hj : jN + 6 ≤ L) (hk : k + 60 ≤ 600000) (hn : n + 480 ≤ 7302250) (kk : ∀ T2 σ2 k2 n2, k2 ≤ k + 60 → n2 ≤ n + 480 → oLS T2 σ2 xC mC (Bd + 162000) → oW p l e room_1 s m args below meth c G b 4 k2 n2 Q T2 σ2 1689 [some (oa ad), some (og xC), some (og mC), some (oi (jN : Int))] []) : oW p l e room_1 s m args below meth c G b 4 k n Q T σ 726 [some (oa ad), some (og xC), some (og mC), some (oi (jN : Int))] [] := by
  obtain ⟨h8s, h8a, h9s, h9a⟩ := oLS_sh hS
  obtain ⟨Po1, hM1, hP2⟩ := pr_length hS hmx hB (o_r32 (xs (jN + 1)))
  refine r_al1 (q := 727) C dL_law_726 rfl ?_
  refine r_aal0 (q := 728) C dL_law_727 rfl ?_
  refine r_il3 (q := 729) C dL_law_728 rfl ?_
  refine r_iconst (q := 730) C dL_law_729 rfl ?_
  refine r_iadd (q := 731) C dL_law_730 rfl ?_
  refine r_sld (q := 732) (j := jN + 1) C hX had (by omega) (by omega) (by omega) dL_law_731 rfl ?_
  refine r_callV (q := 735) C hM1 m_L_65 h8s h8a dL_law_732 rfl rfl ⟨Nat.le_of_ble_eq_true rfl, Nat.le_of_ble_eq_true rfl⟩ ⟨by show k + 0 ≤ 600000; omega, by show n + 0 ≤ 7302250; omega⟩ (Nat.le_of_ble_eq_true rfl) (fun r T2 σ2 hp1 => ?_)
  obtain ⟨hT2, z2, hr2, Po2, hM2, hP3⟩ := hP2 r T2 σ2 hp1
  subst hr2
  subst hT2
  simp only [Option.toList_some, List.cons_append, List.nil_append]
  refine r_al2 (q := 736) C dL_law_735 rfl ?_
  refine r_aal0 (q := 737) C dL_law_736 rfl ?_
  refine r_il3 (q := 738) C dL_law_737 rfl ?_
  refine r_iconst (q := 739) C dL_law_738 rfl ?_
  refine r_iadd (q := 740) C dL_law_739 rfl ?_
  refine r_sld (q := 741) (j := jN + 1) C hX had (by omega) (by omega) (by omega) dL_law_740 rfl ?_
  refine r_callV (q := 744) C hM2 m_L_68 h9s h9a dL_law_741 rfl rfl ⟨Nat.le_of_ble_eq_true rfl, Nat.le_of_ble_eq_true rfl⟩ ⟨by show k + 0 + 0 ≤ 600000; omega, by show n + 0 + 0 ≤ 7302250; omega⟩ (Nat.le_of_ble_eq_true rfl) (fun r3 T3 σ3 hp3 => ?_)
  obtain ⟨hr3, hS3⟩ := hP3 r3 T3 σ3 hp3
  subst hr3
  simp only [Option.toList_some, List.cons_append, List.nil_append]
  refine r_iceq_s (q := 1689) C rfl dL_law_744 (by decide) ?_
  exact kk _ _ _ _ (by omega) (by omega) hS3
set_option maxRecDepth 20000 in
set_option maxHeartbeats 4000000 in
theorem lc_barAt (C : oCx p s m args meth c G b RL cL_law 4) (hX : va_X ad L xs s s.heap) (had : ad < b) (hL : L ≤ 3072) (hmx : xC + 1227 ≤ mC) (hS : oLS T σ xC mC Bd) (hB : Bd ≤ 99000000) (hj : jN + 6 ≤ L) (hk : k + 60 ≤ 600000) (hn : n + 480 ≤ 7302250) (kk : ∀ T2 σ2 k2 n2, k2 ≤ k + 60 → n2 ≤ n + 480 → oLS T2 σ2 xC mC (Bd + 162000) → oW p l e room_1 s m args below meth c G b 4 k2 n2 Q T2 σ2 1689 [some (oa ad), some (og xC), some (og mC), some (oi (jN : Int))] []) : oW p l e room_1 s m args below meth c G b 4 k n Q T σ 749 [some (oa ad), some (og xC), some (og mC), some (oi (jN : Int))] [] := by
  obtain ⟨h8s, h8a, h9s, h9a⟩ := oLS_sh hS
  obtain ⟨Po1, hM1, hP2⟩ := pr_barAt hS hmx hB (o_r32 (xs (jN + 1))) (o_r32 (xs (jN + 2)))
  refine r_al1 (q := 750) C dL_law_749 rfl ?_
  refine r_aal0 (q := 751) C dL_law_750 rfl ?_
  refine r_il3 (q := 752) C dL_law_751 rfl ?_
  refine r_iconst (q := 753) C dL_law_752 rfl ?_
  refine r_iadd (q := 754) C dL_law_753 rfl ?_
  refine r_sld (q := 755) (j := jN + 1) C hX had (by omega) (by omega) (by omega) dL_law_754 rfl ?_
  refine r_aal0 (q := 756) C dL_law_755 rfl ?_
  refine r_il3 (q := 757) C dL_law_756 rfl ?_
  refine r_iconst (q := 758) C dL_law_757 rfl ?_
  refine r_iadd (q := 759) C dL_law_758 rfl ?_
  refine r_sld (q := 760) (j := jN + 2) C hX had (by omega) (by omega) (by omega) dL_law_759 rfl ?_
  refine r_callV (q := 763) C hM1 m_L_69 h8s h8a dL_law_760 rfl rfl ⟨Nat.le_of_ble_eq_true rfl, Nat.le_of_ble_eq_true rfl⟩ ⟨by show k + 0 ≤ 600000; omega, by show n + 0 ≤ 7302250; omega⟩ (Nat.le_of_ble_eq_true rfl) (fun r T2 σ2 hp1 => ?_)
  obtain ⟨hT2, z2, hr2, Po2, hM2, hP3⟩ := hP2 r T2 σ2 hp1
  subst hr2
  subst hT2
  simp only [Option.toList_some, List.cons_append, List.nil_append]
  refine r_al2 (q := 764) C dL_law_763 rfl ?_
  refine r_aal0 (q := 765) C dL_law_764 rfl ?_
  refine r_il3 (q := 766) C dL_law_765 rfl ?_
  refine r_iconst (q := 767) C dL_law_766 rfl ?_
  refine r_iadd (q := 768) C dL_law_767 rfl ?_
  refine r_sld (q := 769) (j := jN + 1) C hX had (by omega) (by omega) (by omega) dL_law_768 rfl ?_
  refine r_aal0 (q := 770) C dL_law_769 rfl ?_
  refine r_il3 (q := 771) C dL_law_770 rfl ?_
  refine r_iconst (q := 772) C dL_law_771 rfl ?_
  refine r_iadd (q := 773) C dL_law_772 rfl ?_
  refine r_sld (q := 774) (j := jN + 2) C hX had (by omega) (by omega) (by omega) dL_law_773 rfl ?_
  refine r_callV (q := 777) C hM2 m_L_72 h9s h9a dL_law_774 rfl rfl ⟨Nat.le_of_ble_eq_true rfl, Nat.le_of_ble_eq_true rfl⟩ ⟨by show k + 0 + 0 ≤ 600000; omega, by show n + 0 + 0 ≤ 7302250; omega⟩ (Nat.le_of_ble_eq_true rfl) (fun r3 T3 σ3 hp3 => ?_)
  obtain ⟨hr3, hS3⟩ := hP3 r3 T3 σ3 hp3
  subst hr3
  simp only [Option.toList_some, List.cons_append, List.nil_append]
  refine r_iceq_s (q := 1689) C rfl dL_law_777 (by decide) ?_
  exact kk _ _ _ _ (by omega) (by omega) hS3
set_option maxRecDepth 20000 in
set_option maxHeartbeats 4000000 in
theorem lc_pace (C : oCx p s m args meth c G b RL cL_law 4) (hX : va_X ad L xs s s.heap) (had : ad < b) (hL : L ≤ 3072) (hmx : xC + 1227 ≤ mC) (hS : oLS T σ xC mC Bd) (hB : Bd ≤ 99000000) (hj : jN + 6 ≤ L) (hk : k + 60 ≤ 600000) (hn : n + 480 ≤ 7302250) (kk : ∀ T2 σ2 k2 n2, k2 ≤ k + 60 → n2 ≤ n + 480 → oLS T2 σ2 xC mC (Bd + 162000) → oW p l e room_1 s m args below meth c G b 4 k2 n2 Q T2 σ2 1689 [some (oa ad), some (og xC), some (og mC), some (oi (jN : Int))] []) : oW p l e room_1 s m args below meth c G b 4 k n Q T σ 782 [some (oa ad), some (og xC), some (og mC), some (oi (jN : Int))] [] := by
  obtain ⟨h8s, h8a, h9s, h9a⟩ := oLS_sh hS
  obtain ⟨Po1, hM1, hP2⟩ := pr_pace hS hmx hB (o_r32 (xs (jN + 1)))
  refine r_al1 (q := 783) C dL_law_782 rfl ?_
  refine r_aal0 (q := 784) C dL_law_783 rfl ?_
  refine r_il3 (q := 785) C dL_law_784 rfl ?_
  refine r_iconst (q := 786) C dL_law_785 rfl ?_
  refine r_iadd (q := 787) C dL_law_786 rfl ?_
  refine r_sld (q := 788) (j := jN + 1) C hX had (by omega) (by omega) (by omega) dL_law_787 rfl ?_
  refine r_callV (q := 791) C hM1 m_L_73 h8s h8a dL_law_788 rfl rfl ⟨Nat.le_of_ble_eq_true rfl, Nat.le_of_ble_eq_true rfl⟩ ⟨by show k + 0 ≤ 600000; omega, by show n + 0 ≤ 7302250; omega⟩ (Nat.le_of_ble_eq_true rfl) (fun r T2 σ2 hp1 => ?_)
  obtain ⟨hT2, z2, hr2, Po2, hM2, hP3⟩ := hP2 r T2 σ2 hp1
  subst hr2
  subst hT2
  simp only [Option.toList_some, List.cons_append, List.nil_append]
  refine r_al2 (q := 792) C dL_law_791 rfl ?_
  refine r_aal0 (q := 793) C dL_law_792 rfl ?_
  refine r_il3 (q := 794) C dL_law_793 rfl ?_
  refine r_iconst (q := 795) C dL_law_794 rfl ?_
  refine r_iadd (q := 796) C dL_law_795 rfl ?_
  refine r_sld (q := 797) (j := jN + 1) C hX had (by omega) (by omega) (by omega) dL_law_796 rfl ?_
  refine r_callV (q := 800) C hM2 m_L_76 h9s h9a dL_law_797 rfl rfl ⟨Nat.le_of_ble_eq_true rfl, Nat.le_of_ble_eq_true rfl⟩ ⟨by show k + 0 + 0 ≤ 600000; omega, by show n + 0 + 0 ≤ 7302250; omega⟩ (Nat.le_of_ble_eq_true rfl) (fun r3 T3 σ3 hp3 => ?_)
  obtain ⟨hr3, hS3⟩ := hP3 r3 T3 σ3 hp3
  subst hr3
  simp only [Option.toList_some, List.cons_append, List.nil_append]
  refine r_iceq_s (q := 1689) C rfl dL_law_800 (by decide) ?_
  exact kk _ _ _ _ (by omega) (by omega) hS3
end OLC
