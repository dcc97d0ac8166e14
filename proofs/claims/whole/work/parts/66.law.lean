section L66
variable {G : Gx} {d : Nat} {I I' I2 : Rn} {L L' L2 : Rl} {K : Kt} {σ : St} {ce sl mc ms j : Nat}
theorem RepM.hi (h : RepM I L σ) (hW : WFs σ) (hi : q_hi I I' L L') : RepM I' L' σ :=
  ⟨h.1.rows hW.1.2.2.2.2.2.2.2.1 (fun x y q => (hi x y (by omega)).1), h.kp hW (hi 95 3 (by decide)).1 (fun x y q => (hi x y (by omega)).1), ⟨fun k hk => ((hi 99 k (by decide)).1).trans (h.2.2.1.1 k hk), ((hi 95 5 (by decide)).1).trans h.2.2.1.2⟩, ⟨((hi 95 25 (by decide)).1).trans h.2.2.2.1.1, fun k x hx => ((hi 104 k (by decide)).1).trans (h.2.2.2.1.2 k x hx)⟩, fun s hs => ⟨((hi 109 s (by decide)).1).trans (h.wdt hs), ((hi 110 s (by decide)).1).trans (h.siz hs), fun k hk => ((hi 111 _ (by decide)).2).trans (h.cel hs hk)⟩⟩
theorem RepC.lw (h : RepC I L σ) (hi : q_lw I I' L L') : RepC I' L' σ :=
  ⟨h.1.rows (fun x y _ q => (hi x y (by omega)).1), h.kp (hi 0 7 (by decide)).1 (fun x y _ q => (hi x y (by omega)).1), fun k hk => ((hi 94 k (by decide)).1).trans (h.2.2.1 k hk), ⟨((hi 81 2 (by decide)).1).trans h.2.2.2.1.1, fun k x hx => ((hi 82 k (by decide)).1).trans (h.2.2.2.1.2 k x hx)⟩, fun s hs => ⟨((hi 92 s (by decide)).1).trans (h.2.2.2.2 s hs).1, ((hi 93 s (by decide)).1).trans (h.2.2.2.2 s hs).2.1, fun k hk => ((hi (88 + s) k (by omega)).2).trans ((h.2.2.2.2 s hs).2.2 k hk)⟩⟩
theorem law_farm (hL : G.2.2.2.2.2.2 ≤ 384) (hj : j + 6 ≤ G.2.2.2.2.2.2) (h : WFx σ) (hC : RepC I L σ) (hM : RepM I L σ) (hce : ce ≤ mc) (hsl : sl ≤ ms) (hn : ∀ σ' I' L', WFx σ' → RepC I' L' σ' → RepM I' L' σ' → WW G (d + 62) mt_L_law 1235 [some (.ref (4 + 1000)), some (.ref 0), some (.ref 95), some (.int (nI j))] [] SH RF I' L' ce sl mc ms K) : WW G (d + 62) mt_L_law 204 [some (.ref (4 + 1000)), some (.ref 0), some (.ref 95), some (.int (nI j))] [] SH RF I L ce sl mc ms K := by
  refine r_ald1 f_L_law_204 ?_
  refine r_ald0 f_L_law_205 ?_
  refine r_ild3 f_L_law_206 ?_
  refine r_ic f_L_law_207 ?_
  refine r_iadd f_L_law_208 ?_
  rw [show nI j + 1 = nI (j + 1) from nI_add j 1]
  refine r_ialdx f_L_law_209 (q_ix.nI (show j + 1 < G.2.2.2.2.2.2 by omega) (by omega)) ?_
  refine r_ald0 f_L_law_210 ?_
  refine r_ild3 f_L_law_211 ?_
  refine r_ic f_L_law_212 ?_
  refine r_iadd f_L_law_213 ?_
  rw [show nI j + 2 = nI (j + 2) from nI_add j 2]
  refine r_ialdx f_L_law_214 (q_ix.nI (show j + 2 < G.2.2.2.2.2.2 by omega) (by omega)) ?_
  refine r_ald0 f_L_law_215 ?_
  refine r_ild3 f_L_law_216 ?_
  refine r_ic f_L_law_217 ?_
  refine r_iadd f_L_law_218 ?_
  rw [show nI j + 3 = nI (j + 3) from nI_add j 3]
  refine r_ialdx f_L_law_219 (q_ix.nI (show j + 3 < G.2.2.2.2.2.2 by omega) (by omega)) ?_
  refine c_N_farm f_L_law_220 (s_0) (Nat.le_of_ble_eq_true rfl) hce hsl ?_
  refine k_N_farm hC h.1 (fun I1 L1 hC1 hi1 => ?_)
  have hM1 := hM.hi h.1 hi1
  refine r_ald2 f_L_law_223 ?_
  refine r_ald0 f_L_law_224 ?_
  refine r_ild3 f_L_law_225 ?_
  refine r_ic f_L_law_226 ?_
  refine r_iadd f_L_law_227 ?_
  rw [show nI j + 1 = nI (j + 1) from nI_add j 1]
  refine r_ialdx f_L_law_228 (q_ix.nI (show j + 1 < G.2.2.2.2.2.2 by omega) (by omega)) ?_
  refine r_ald0 f_L_law_229 ?_
  refine r_ild3 f_L_law_230 ?_
  refine r_ic f_L_law_231 ?_
  refine r_iadd f_L_law_232 ?_
  rw [show nI j + 2 = nI (j + 2) from nI_add j 2]
  refine r_ialdx f_L_law_233 (q_ix.nI (show j + 2 < G.2.2.2.2.2.2 by omega) (by omega)) ?_
  refine r_ald0 f_L_law_234 ?_
  refine r_ild3 f_L_law_235 ?_
  refine r_ic f_L_law_236 ?_
  refine r_iadd f_L_law_237 ?_
  rw [show nI j + 3 = nI (j + 3) from nI_add j 3]
  refine r_ialdx f_L_law_238 (q_ix.nI (show j + 3 < G.2.2.2.2.2.2 by omega) (by omega)) ?_
  refine c_R_farm f_L_law_239 (s_95) (Nat.le_of_ble_eq_true rfl) hce hsl ?_
  refine k_R_farm hM1 h.1 (fun I2 L2 hM2 hl2 => ?_)
  have hC2 := hC1.lw hl2
  refine r_ic_eq f_L_law_242 (fun h242 => ?_) (fun h242 => absurd rfl h242)
  exact hn _ I2 L2 (wx_farm h) hC2 hM2
theorem law_set (hL : G.2.2.2.2.2.2 ≤ 384) (hj : j + 6 ≤ G.2.2.2.2.2.2) (h : WFx σ) (hC : RepC I L σ) (hM : RepM I L σ) (hce : ce ≤ mc) (hsl : sl ≤ ms) (hn : ∀ σ' I' L', WFx σ' → RepC I' L' σ' → RepM I' L' σ' → WW G (d + 62) mt_L_law 1235 [some (.ref (4 + 1000)), some (.ref 0), some (.ref 95), some (.int (nI j))] [] SH RF I' L' ce sl mc ms K) : WW G (d + 62) mt_L_law 247 [some (.ref (4 + 1000)), some (.ref 0), some (.ref 95), some (.int (nI j))] [] SH RF I L ce sl mc ms K := by
  refine r_ald1 f_L_law_247 ?_
  refine r_ald0 f_L_law_248 ?_
  refine r_ild3 f_L_law_249 ?_
  refine r_ic f_L_law_250 ?_
  refine r_iadd f_L_law_251 ?_
  rw [show nI j + 1 = nI (j + 1) from nI_add j 1]
  refine r_ialdx f_L_law_252 (q_ix.nI (show j + 1 < G.2.2.2.2.2.2 by omega) (by omega)) ?_
  refine r_ald0 f_L_law_253 ?_
  refine r_ild3 f_L_law_254 ?_
  refine r_ic f_L_law_255 ?_
  refine r_iadd f_L_law_256 ?_
  rw [show nI j + 2 = nI (j + 2) from nI_add j 2]
  refine r_ialdx f_L_law_257 (q_ix.nI (show j + 2 < G.2.2.2.2.2.2 by omega) (by omega)) ?_
  refine r_ald0 f_L_law_258 ?_
  refine r_ild3 f_L_law_259 ?_
  refine r_ic f_L_law_260 ?_
  refine r_iadd f_L_law_261 ?_
  rw [show nI j + 3 = nI (j + 3) from nI_add j 3]
  refine r_ialdx f_L_law_262 (q_ix.nI (show j + 3 < G.2.2.2.2.2.2 by omega) (by omega)) ?_
  refine c_N_set f_L_law_263 (s_0) (Nat.le_of_ble_eq_true rfl) hce hsl ?_
  refine k_N_set hC h.1 (fun I1 L1 hC1 hi1 => ?_)
  have hM1 := hM.hi h.1 hi1
  refine r_ald2 f_L_law_266 ?_
  refine r_ald0 f_L_law_267 ?_
  refine r_ild3 f_L_law_268 ?_
  refine r_ic f_L_law_269 ?_
  refine r_iadd f_L_law_270 ?_
  rw [show nI j + 1 = nI (j + 1) from nI_add j 1]
  refine r_ialdx f_L_law_271 (q_ix.nI (show j + 1 < G.2.2.2.2.2.2 by omega) (by omega)) ?_
  refine r_ald0 f_L_law_272 ?_
  refine r_ild3 f_L_law_273 ?_
  refine r_ic f_L_law_274 ?_
  refine r_iadd f_L_law_275 ?_
  rw [show nI j + 2 = nI (j + 2) from nI_add j 2]
  refine r_ialdx f_L_law_276 (q_ix.nI (show j + 2 < G.2.2.2.2.2.2 by omega) (by omega)) ?_
  refine r_ald0 f_L_law_277 ?_
  refine r_ild3 f_L_law_278 ?_
  refine r_ic f_L_law_279 ?_
  refine r_iadd f_L_law_280 ?_
  rw [show nI j + 3 = nI (j + 3) from nI_add j 3]
  refine r_ialdx f_L_law_281 (q_ix.nI (show j + 3 < G.2.2.2.2.2.2 by omega) (by omega)) ?_
  refine c_R_set f_L_law_282 (s_95) (Nat.le_of_ble_eq_true rfl) hce hsl ?_
  refine k_R_set hM1 h.1 (fun I2 L2 hM2 hl2 => ?_)
  have hC2 := hC1.lw hl2
  refine r_ic_eq f_L_law_285 (fun h285 => ?_) (fun h285 => absurd rfl h285)
  exact hn _ I2 L2 (wx_set h) hC2 hM2
theorem law_of (hL : G.2.2.2.2.2.2 ≤ 384) (hj : j + 6 ≤ G.2.2.2.2.2.2) (h : WFx σ) (hC : RepC I L σ) (hM : RepM I L σ) (hce : ce ≤ mc) (hsl : sl ≤ ms) (hn : ∀ σ' I' L', WFx σ' → RepC I' L' σ' → RepM I' L' σ' → WW G (d + 62) mt_L_law 1235 [some (.ref (4 + 1000)), some (.ref 0), some (.ref 95), some (.int (nI j))] [] SH RF I' L' ce sl mc ms K) : WW G (d + 62) mt_L_law 290 [some (.ref (4 + 1000)), some (.ref 0), some (.ref 95), some (.int (nI j))] [] SH RF I L ce sl mc ms K := by
  refine r_ald1 f_L_law_290 ?_
  refine r_ald0 f_L_law_291 ?_
  refine r_ild3 f_L_law_292 ?_
  refine r_ic f_L_law_293 ?_
  refine r_iadd f_L_law_294 ?_
  rw [show nI j + 1 = nI (j + 1) from nI_add j 1]
  refine r_ialdx f_L_law_295 (q_ix.nI (show j + 1 < G.2.2.2.2.2.2 by omega) (by omega)) ?_
  refine r_ald0 f_L_law_296 ?_
  refine r_ild3 f_L_law_297 ?_
  refine r_ic f_L_law_298 ?_
  refine r_iadd f_L_law_299 ?_
  rw [show nI j + 2 = nI (j + 2) from nI_add j 2]
  refine r_ialdx f_L_law_300 (q_ix.nI (show j + 2 < G.2.2.2.2.2.2 by omega) (by omega)) ?_
  refine c_N_of f_L_law_301 (s_0) (Nat.le_of_ble_eq_true rfl) hce hsl ?_
  refine k_N_of hC h.1 (fun I1 L1 hC1 hi1 => ?_)
  have hM1 := hM.hi h.1 hi1
  refine r_ald2 f_L_law_304 ?_
  refine r_ald0 f_L_law_305 ?_
  refine r_ild3 f_L_law_306 ?_
  refine r_ic f_L_law_307 ?_
  refine r_iadd f_L_law_308 ?_
  rw [show nI j + 1 = nI (j + 1) from nI_add j 1]
  refine r_ialdx f_L_law_309 (q_ix.nI (show j + 1 < G.2.2.2.2.2.2 by omega) (by omega)) ?_
  refine r_ald0 f_L_law_310 ?_
  refine r_ild3 f_L_law_311 ?_
  refine r_ic f_L_law_312 ?_
  refine r_iadd f_L_law_313 ?_
  rw [show nI j + 2 = nI (j + 2) from nI_add j 2]
  refine r_ialdx f_L_law_314 (q_ix.nI (show j + 2 < G.2.2.2.2.2.2 by omega) (by omega)) ?_
  refine c_R_of f_L_law_315 (s_95) (Nat.le_of_ble_eq_true rfl) hce hsl ?_
  refine k_R_of hM1 h.1 (fun I2 L2 hM2 hl2 => ?_)
  have hC2 := hC1.lw hl2
  refine r_ic_eq f_L_law_318 (fun h318 => ?_) (fun h318 => absurd rfl h318)
  exact hn _ I2 L2 (wx_of h) hC2 hM2
theorem law_as (hL : G.2.2.2.2.2.2 ≤ 384) (hj : j + 6 ≤ G.2.2.2.2.2.2) (h : WFx σ) (hC : RepC I L σ) (hM : RepM I L σ) (hce : ce ≤ mc) (hsl : sl ≤ ms) (hn : ∀ σ' I' L', WFx σ' → RepC I' L' σ' → RepM I' L' σ' → WW G (d + 62) mt_L_law 1235 [some (.ref (4 + 1000)), some (.ref 0), some (.ref 95), some (.int (nI j))] [] SH RF I' L' ce sl mc ms K) : WW G (d + 62) mt_L_law 323 [some (.ref (4 + 1000)), some (.ref 0), some (.ref 95), some (.int (nI j))] [] SH RF I L ce sl mc ms K := by
  refine r_ald1 f_L_law_323 ?_
  refine r_ald0 f_L_law_324 ?_
  refine r_ild3 f_L_law_325 ?_
  refine r_ic f_L_law_326 ?_
  refine r_iadd f_L_law_327 ?_
  rw [show nI j + 1 = nI (j + 1) from nI_add j 1]
  refine r_ialdx f_L_law_328 (q_ix.nI (show j + 1 < G.2.2.2.2.2.2 by omega) (by omega)) ?_
  refine r_ald0 f_L_law_329 ?_
  refine r_ild3 f_L_law_330 ?_
  refine r_ic f_L_law_331 ?_
  refine r_iadd f_L_law_332 ?_
  rw [show nI j + 2 = nI (j + 2) from nI_add j 2]
  refine r_ialdx f_L_law_333 (q_ix.nI (show j + 2 < G.2.2.2.2.2.2 by omega) (by omega)) ?_
  refine c_N_as f_L_law_334 (s_0) (Nat.le_of_ble_eq_true rfl) hce hsl ?_
  refine k_N_as hC h.1 (fun I1 L1 hC1 hi1 => ?_)
  have hM1 := hM.hi h.1 hi1
  refine r_ald2 f_L_law_337 ?_
  refine r_ald0 f_L_law_338 ?_
  refine r_ild3 f_L_law_339 ?_
  refine r_ic f_L_law_340 ?_
  refine r_iadd f_L_law_341 ?_
  rw [show nI j + 1 = nI (j + 1) from nI_add j 1]
  refine r_ialdx f_L_law_342 (q_ix.nI (show j + 1 < G.2.2.2.2.2.2 by omega) (by omega)) ?_
  refine r_ald0 f_L_law_343 ?_
  refine r_ild3 f_L_law_344 ?_
  refine r_ic f_L_law_345 ?_
  refine r_iadd f_L_law_346 ?_
  rw [show nI j + 2 = nI (j + 2) from nI_add j 2]
  refine r_ialdx f_L_law_347 (q_ix.nI (show j + 2 < G.2.2.2.2.2.2 by omega) (by omega)) ?_
  refine c_R_as f_L_law_348 (s_95) (Nat.le_of_ble_eq_true rfl) hce hsl ?_
  refine k_R_as hM1 h.1 (fun I2 L2 hM2 hl2 => ?_)
  have hC2 := hC1.lw hl2
  refine r_ic_eq f_L_law_351 (fun h351 => ?_) (fun h351 => absurd rfl h351)
  exact hn _ I2 L2 (wx_as h) hC2 hM2
theorem law_rule (hL : G.2.2.2.2.2.2 ≤ 384) (hj : j + 6 ≤ G.2.2.2.2.2.2) (h : WFx σ) (hC : RepC I L σ) (hM : RepM I L σ) (hce : ce ≤ mc) (hsl : sl ≤ ms) (hn : ∀ σ' I' L', WFx σ' → RepC I' L' σ' → RepM I' L' σ' → WW G (d + 62) mt_L_law 1235 [some (.ref (4 + 1000)), some (.ref 0), some (.ref 95), some (.int (nI j))] [] SH RF I' L' ce sl mc ms K) : WW G (d + 62) mt_L_law 356 [some (.ref (4 + 1000)), some (.ref 0), some (.ref 95), some (.int (nI j))] [] SH RF I L ce sl mc ms K := by
  refine r_ald1 f_L_law_356 ?_
  refine r_ald0 f_L_law_357 ?_
  refine r_ild3 f_L_law_358 ?_
  refine r_ic f_L_law_359 ?_
  refine r_iadd f_L_law_360 ?_
  rw [show nI j + 1 = nI (j + 1) from nI_add j 1]
  refine r_ialdx f_L_law_361 (q_ix.nI (show j + 1 < G.2.2.2.2.2.2 by omega) (by omega)) ?_
  refine r_ald0 f_L_law_362 ?_
  refine r_ild3 f_L_law_363 ?_
  refine r_ic f_L_law_364 ?_
  refine r_iadd f_L_law_365 ?_
  rw [show nI j + 2 = nI (j + 2) from nI_add j 2]
  refine r_ialdx f_L_law_366 (q_ix.nI (show j + 2 < G.2.2.2.2.2.2 by omega) (by omega)) ?_
  refine c_N_rule f_L_law_367 (s_0) (Nat.le_of_ble_eq_true rfl) hce hsl ?_
  refine k_N_rule hC h.1 (fun I1 L1 hC1 hi1 => ?_)
  have hM1 := hM.hi h.1 hi1
  refine r_ald2 f_L_law_370 ?_
  refine r_ald0 f_L_law_371 ?_
  refine r_ild3 f_L_law_372 ?_
  refine r_ic f_L_law_373 ?_
  refine r_iadd f_L_law_374 ?_
  rw [show nI j + 1 = nI (j + 1) from nI_add j 1]
  refine r_ialdx f_L_law_375 (q_ix.nI (show j + 1 < G.2.2.2.2.2.2 by omega) (by omega)) ?_
  refine r_ald0 f_L_law_376 ?_
  refine r_ild3 f_L_law_377 ?_
  refine r_ic f_L_law_378 ?_
  refine r_iadd f_L_law_379 ?_
  rw [show nI j + 2 = nI (j + 2) from nI_add j 2]
  refine r_ialdx f_L_law_380 (q_ix.nI (show j + 2 < G.2.2.2.2.2.2 by omega) (by omega)) ?_
  refine c_R_rule f_L_law_381 (s_95) (Nat.le_of_ble_eq_true rfl) hce hsl ?_
  refine k_R_rule hM1 h.1 (fun I2 L2 hM2 hl2 => ?_)
  have hC2 := hC1.lw hl2
  refine r_ic_eq f_L_law_384 (fun h384 => ?_) (fun h384 => absurd rfl h384)
  exact hn _ I2 L2 (wx_rule h) hC2 hM2
theorem law_dry (hL : G.2.2.2.2.2.2 ≤ 384) (hj : j + 6 ≤ G.2.2.2.2.2.2) (h : WFx σ) (hC : RepC I L σ) (hM : RepM I L σ) (hce : ce ≤ mc) (hsl : sl ≤ ms) (hn : ∀ σ' I' L', WFx σ' → RepC I' L' σ' → RepM I' L' σ' → WW G (d + 62) mt_L_law 1235 [some (.ref (4 + 1000)), some (.ref 0), some (.ref 95), some (.int (nI j))] [] SH RF I' L' ce sl mc ms K) : WW G (d + 62) mt_L_law 389 [some (.ref (4 + 1000)), some (.ref 0), some (.ref 95), some (.int (nI j))] [] SH RF I L ce sl mc ms K := by
  refine r_ald1 f_L_law_389 ?_
  refine r_ald0 f_L_law_390 ?_
  refine r_ild3 f_L_law_391 ?_
  refine r_ic f_L_law_392 ?_
  refine r_iadd f_L_law_393 ?_
  rw [show nI j + 1 = nI (j + 1) from nI_add j 1]
  refine r_ialdx f_L_law_394 (q_ix.nI (show j + 1 < G.2.2.2.2.2.2 by omega) (by omega)) ?_
  refine c_N_dry f_L_law_395 (s_0) (Nat.le_of_ble_eq_true rfl) hce hsl ?_
  refine k_N_dry hC h.1 (fun I1 L1 hC1 hi1 => ?_)
  have hM1 := hM.hi h.1 hi1
  refine r_ald2 f_L_law_398 ?_
  refine r_ald0 f_L_law_399 ?_
  refine r_ild3 f_L_law_400 ?_
  refine r_ic f_L_law_401 ?_
  refine r_iadd f_L_law_402 ?_
  rw [show nI j + 1 = nI (j + 1) from nI_add j 1]
  refine r_ialdx f_L_law_403 (q_ix.nI (show j + 1 < G.2.2.2.2.2.2 by omega) (by omega)) ?_
  refine c_R_dry f_L_law_404 (s_95) (Nat.le_of_ble_eq_true rfl) hce hsl ?_
  refine k_R_dry hM1 h.1 (fun I2 L2 hM2 hl2 => ?_)
  have hC2 := hC1.lw hl2
  refine r_ic_eq f_L_law_407 (fun h407 => ?_) (fun h407 => absurd rfl h407)
  exact hn _ I2 L2 (wx_dry h) hC2 hM2
theorem law_year (hL : G.2.2.2.2.2.2 ≤ 384) (hj : j + 6 ≤ G.2.2.2.2.2.2) (h : WFx σ) (hC : RepC I L σ) (hM : RepM I L σ) (hce : ce ≤ mc) (hsl : sl ≤ ms) (hn : ∀ σ' I' L', WFx σ' → RepC I' L' σ' → RepM I' L' σ' → WW G (d + 62) mt_L_law 1235 [some (.ref (4 + 1000)), some (.ref 0), some (.ref 95), some (.int (nI j))] [] SH RF I' L' ce sl mc ms K) : WW G (d + 62) mt_L_law 412 [some (.ref (4 + 1000)), some (.ref 0), some (.ref 95), some (.int (nI j))] [] SH RF I L ce sl mc ms K := by
  refine r_ald1 f_L_law_412 ?_
  refine c_N_year f_L_law_413 (s_0) (Nat.le_of_ble_eq_true rfl) hce hsl ?_
  refine k_N_year hC h.1 (fun I1 L1 hC1 hi1 => ?_)
  have hM1 := hM.hi h.1 hi1
  refine r_ald2 f_L_law_416 ?_
  refine c_R_year f_L_law_417 (s_95) (Nat.le_of_ble_eq_true rfl) hce hsl ?_
  refine k_R_year hM1 h.1 (fun I2 L2 hM2 hl2 => ?_)
  have hC2 := hC1.lw hl2
  refine r_ic_eq f_L_law_420 (fun h420 => ?_) (fun h420 => absurd rfl h420)
  exact hn _ I2 L2 (wx_year h) hC2 hM2
theorem law_turn (hL : G.2.2.2.2.2.2 ≤ 384) (hj : j + 6 ≤ G.2.2.2.2.2.2) (h : WFx σ) (hC : RepC I L σ) (hM : RepM I L σ) (hce : ce ≤ mc) (hsl : sl ≤ ms) (hn : ∀ σ' I' L', WFx σ' → RepC I' L' σ' → RepM I' L' σ' → WW G (d + 62) mt_L_law 1235 [some (.ref (4 + 1000)), some (.ref 0), some (.ref 95), some (.int (nI j))] [] SH RF I' L' ce sl mc ms K) : WW G (d + 62) mt_L_law 425 [some (.ref (4 + 1000)), some (.ref 0), some (.ref 95), some (.int (nI j))] [] SH RF I L ce sl mc ms K := by
  refine r_ald1 f_L_law_425 ?_
  refine r_ald0 f_L_law_426 ?_
  refine r_ild3 f_L_law_427 ?_
  refine r_ic f_L_law_428 ?_
  refine r_iadd f_L_law_429 ?_
  rw [show nI j + 1 = nI (j + 1) from nI_add j 1]
  refine r_ialdx f_L_law_430 (q_ix.nI (show j + 1 < G.2.2.2.2.2.2 by omega) (by omega)) ?_
  refine c_N_turn f_L_law_431 (s_0) (Nat.le_of_ble_eq_true rfl) hce hsl ?_
  refine k_N_turn hC h.1 (fun I1 L1 hC1 hi1 => ?_)
  have hM1 := hM.hi h.1 hi1
  refine r_ald2 f_L_law_434 ?_
  refine r_ald0 f_L_law_435 ?_
  refine r_ild3 f_L_law_436 ?_
  refine r_ic f_L_law_437 ?_
  refine r_iadd f_L_law_438 ?_
  rw [show nI j + 1 = nI (j + 1) from nI_add j 1]
  refine r_ialdx f_L_law_439 (q_ix.nI (show j + 1 < G.2.2.2.2.2.2 by omega) (by omega)) ?_
  refine c_R_turn f_L_law_440 (s_95) (Nat.le_of_ble_eq_true rfl) hce hsl ?_
  refine k_R_turn hM1 h.1 (fun I2 L2 hM2 hl2 => ?_)
  have hC2 := hC1.lw hl2
  refine r_ic_eq f_L_law_443 (fun h443 => ?_) (fun h443 => absurd rfl h443)
  exact hn _ I2 L2 (wx_turn h) hC2 hM2
theorem law_swap (hL : G.2.2.2.2.2.2 ≤ 384) (hj : j + 6 ≤ G.2.2.2.2.2.2) (h : WFx σ) (hC : RepC I L σ) (hM : RepM I L σ) (hce : ce ≤ mc) (hsl : sl ≤ ms) (hn : ∀ σ' I' L', WFx σ' → RepC I' L' σ' → RepM I' L' σ' → WW G (d + 62) mt_L_law 1235 [some (.ref (4 + 1000)), some (.ref 0), some (.ref 95), some (.int (nI j))] [] SH RF I' L' ce sl mc ms K) : WW G (d + 62) mt_L_law 448 [some (.ref (4 + 1000)), some (.ref 0), some (.ref 95), some (.int (nI j))] [] SH RF I L ce sl mc ms K := by
  refine r_ald1 f_L_law_448 ?_
  refine r_ald0 f_L_law_449 ?_
  refine r_ild3 f_L_law_450 ?_
  refine r_ic f_L_law_451 ?_
  refine r_iadd f_L_law_452 ?_
  rw [show nI j + 1 = nI (j + 1) from nI_add j 1]
  refine r_ialdx f_L_law_453 (q_ix.nI (show j + 1 < G.2.2.2.2.2.2 by omega) (by omega)) ?_
  refine r_ald0 f_L_law_454 ?_
  refine r_ild3 f_L_law_455 ?_
  refine r_ic f_L_law_456 ?_
  refine r_iadd f_L_law_457 ?_
  rw [show nI j + 2 = nI (j + 2) from nI_add j 2]
  refine r_ialdx f_L_law_458 (q_ix.nI (show j + 2 < G.2.2.2.2.2.2 by omega) (by omega)) ?_
  refine c_N_swap f_L_law_459 (s_0) (Nat.le_of_ble_eq_true rfl) hce hsl ?_
  refine k_N_swap hC h.1 (fun I1 L1 hC1 hi1 => ?_)
  have hM1 := hM.hi h.1 hi1
  refine r_ald2 f_L_law_462 ?_
  refine r_ald0 f_L_law_463 ?_
  refine r_ild3 f_L_law_464 ?_
  refine r_ic f_L_law_465 ?_
  refine r_iadd f_L_law_466 ?_
  rw [show nI j + 1 = nI (j + 1) from nI_add j 1]
  refine r_ialdx f_L_law_467 (q_ix.nI (show j + 1 < G.2.2.2.2.2.2 by omega) (by omega)) ?_
  refine r_ald0 f_L_law_468 ?_
  refine r_ild3 f_L_law_469 ?_
  refine r_ic f_L_law_470 ?_
  refine r_iadd f_L_law_471 ?_
  rw [show nI j + 2 = nI (j + 2) from nI_add j 2]
  refine r_ialdx f_L_law_472 (q_ix.nI (show j + 2 < G.2.2.2.2.2.2 by omega) (by omega)) ?_
  refine c_R_swap f_L_law_473 (s_95) (Nat.le_of_ble_eq_true rfl) hce hsl ?_
  refine k_R_swap hM1 h.1 (fun I2 L2 hM2 hl2 => ?_)
  have hC2 := hC1.lw hl2
  refine r_ic_eq f_L_law_476 (fun h476 => ?_) (fun h476 => absurd rfl h476)
  exact hn _ I2 L2 (wx_swap h) hC2 hM2
theorem law_turns (hL : G.2.2.2.2.2.2 ≤ 384) (hj : j + 6 ≤ G.2.2.2.2.2.2) (h : WFx σ) (hC : RepC I L σ) (hM : RepM I L σ) (hce : ce ≤ mc) (hsl : sl ≤ ms) (hn : ∀ σ' I' L', WFx σ' → RepC I' L' σ' → RepM I' L' σ' → WW G (d + 62) mt_L_law 1235 [some (.ref (4 + 1000)), some (.ref 0), some (.ref 95), some (.int (nI j))] [] SH RF I' L' ce sl mc ms K) : WW G (d + 62) mt_L_law 481 [some (.ref (4 + 1000)), some (.ref 0), some (.ref 95), some (.int (nI j))] [] SH RF I L ce sl mc ms K := by
  refine r_ald1 f_L_law_481 ?_
  refine r_ald0 f_L_law_482 ?_
  refine r_ild3 f_L_law_483 ?_
  refine r_ic f_L_law_484 ?_
  refine r_iadd f_L_law_485 ?_
  rw [show nI j + 1 = nI (j + 1) from nI_add j 1]
  refine r_ialdx f_L_law_486 (q_ix.nI (show j + 1 < G.2.2.2.2.2.2 by omega) (by omega)) ?_
  refine c_N_turns f_L_law_487 (s_0) (Nat.le_of_ble_eq_true rfl) hce hsl ?_
  refine k_N_turns hC h.1 (fun I1 L1 hC1 hi1 => ?_)
  have hM1 := hM.hi h.1 hi1
  refine r_ald2 f_L_law_490 ?_
  refine r_ald0 f_L_law_491 ?_
  refine r_ild3 f_L_law_492 ?_
  refine r_ic f_L_law_493 ?_
  refine r_iadd f_L_law_494 ?_
  rw [show nI j + 1 = nI (j + 1) from nI_add j 1]
  refine r_ialdx f_L_law_495 (q_ix.nI (show j + 1 < G.2.2.2.2.2.2 by omega) (by omega)) ?_
  refine c_R_turns f_L_law_496 (s_95) (Nat.le_of_ble_eq_true rfl) hce hsl ?_
  refine k_R_turns hM1 h.1 (fun I2 L2 hM2 hl2 => ?_)
  have hC2 := hC1.lw hl2
  refine r_ic_eq f_L_law_499 (fun h499 => ?_) (fun h499 => absurd rfl h499)
  exact hn _ I2 L2 (wx_turns h) hC2 hM2
theorem law_told (hL : G.2.2.2.2.2.2 ≤ 384) (hj : j + 6 ≤ G.2.2.2.2.2.2) (h : WFx σ) (hC : RepC I L σ) (hM : RepM I L σ) (hce : ce ≤ mc) (hsl : sl ≤ ms) (hn : ∀ σ' I' L', WFx σ' → RepC I' L' σ' → RepM I' L' σ' → WW G (d + 62) mt_L_law 1235 [some (.ref (4 + 1000)), some (.ref 0), some (.ref 95), some (.int (nI j))] [] SH RF I' L' ce sl mc ms K) : WW G (d + 62) mt_L_law 504 [some (.ref (4 + 1000)), some (.ref 0), some (.ref 95), some (.int (nI j))] [] SH RF I L ce sl mc ms K := by
  refine r_ald1 f_L_law_504 ?_
  refine c_N_told f_L_law_505 (s_0) (Nat.le_of_ble_eq_true rfl) hce hsl ?_
  refine k_N_told hC h.1 (fun I1 L1 hC1 hi1 => ?_)
  have hM1 := hM.hi h.1 hi1
  refine r_ald2 f_L_law_508 ?_
  refine c_R_told f_L_law_509 (s_95) (Nat.le_of_ble_eq_true rfl) hce hsl ?_
  refine k_R_told hM1 h.1 (fun I2 L2 hM2 hl2 => ?_)
  have hC2 := hC1.lw hl2
  refine r_ic_eq f_L_law_512 (fun h512 => ?_) (fun h512 => absurd rfl h512)
  exact hn _ I2 L2 (wx_told h) hC2 hM2
theorem law_best (hL : G.2.2.2.2.2.2 ≤ 384) (hj : j + 6 ≤ G.2.2.2.2.2.2) (h : WFx σ) (hC : RepC I L σ) (hM : RepM I L σ) (hce : ce ≤ mc) (hsl : sl ≤ ms) (hn : ∀ σ' I' L', WFx σ' → RepC I' L' σ' → RepM I' L' σ' → WW G (d + 62) mt_L_law 1235 [some (.ref (4 + 1000)), some (.ref 0), some (.ref 95), some (.int (nI j))] [] SH RF I' L' ce sl mc ms K) : WW G (d + 62) mt_L_law 517 [some (.ref (4 + 1000)), some (.ref 0), some (.ref 95), some (.int (nI j))] [] SH RF I L ce sl mc ms K := by
  refine r_ald1 f_L_law_517 ?_
  refine r_ald0 f_L_law_518 ?_
  refine r_ild3 f_L_law_519 ?_
  refine r_ic f_L_law_520 ?_
  refine r_iadd f_L_law_521 ?_
  rw [show nI j + 1 = nI (j + 1) from nI_add j 1]
  refine r_ialdx f_L_law_522 (q_ix.nI (show j + 1 < G.2.2.2.2.2.2 by omega) (by omega)) ?_
  refine c_N_best f_L_law_523 (s_0) (Nat.le_of_ble_eq_true rfl) hce hsl ?_
  refine k_N_best hC h.1 (fun I1 L1 hC1 hi1 => ?_)
  have hM1 := hM.hi h.1 hi1
  refine r_ald2 f_L_law_526 ?_
  refine r_ald0 f_L_law_527 ?_
  refine r_ild3 f_L_law_528 ?_
  refine r_ic f_L_law_529 ?_
  refine r_iadd f_L_law_530 ?_
  rw [show nI j + 1 = nI (j + 1) from nI_add j 1]
  refine r_ialdx f_L_law_531 (q_ix.nI (show j + 1 < G.2.2.2.2.2.2 by omega) (by omega)) ?_
  refine c_R_best f_L_law_532 (s_95) (Nat.le_of_ble_eq_true rfl) hce hsl ?_
  refine k_R_best hM1 h.1 (fun I2 L2 hM2 hl2 => ?_)
  have hC2 := hC1.lw hl2
  refine r_lcmp f_L_law_535 ?_
  refine r_if_eq f_L_law_536 (fun h536 => ?_) (fun h536 => absurd (q_lcmp.1.mpr rfl) h536)
  exact hn _ I2 L2 (wx_best h) hC2 hM2
theorem law_share (hL : G.2.2.2.2.2.2 ≤ 384) (hj : j + 6 ≤ G.2.2.2.2.2.2) (h : WFx σ) (hC : RepC I L σ) (hM : RepM I L σ) (hce : ce ≤ mc) (hsl : sl ≤ ms) (hn : ∀ σ' I' L', WFx σ' → RepC I' L' σ' → RepM I' L' σ' → WW G (d + 62) mt_L_law 1235 [some (.ref (4 + 1000)), some (.ref 0), some (.ref 95), some (.int (nI j))] [] SH RF I' L' ce sl mc ms K) : WW G (d + 62) mt_L_law 541 [some (.ref (4 + 1000)), some (.ref 0), some (.ref 95), some (.int (nI j))] [] SH RF I L ce sl mc ms K := by
  refine r_ald1 f_L_law_541 ?_
  refine r_ald0 f_L_law_542 ?_
  refine r_ild3 f_L_law_543 ?_
  refine r_ic f_L_law_544 ?_
  refine r_iadd f_L_law_545 ?_
  rw [show nI j + 1 = nI (j + 1) from nI_add j 1]
  refine r_ialdx f_L_law_546 (q_ix.nI (show j + 1 < G.2.2.2.2.2.2 by omega) (by omega)) ?_
  refine c_N_share f_L_law_547 (s_0) (Nat.le_of_ble_eq_true rfl) hce hsl ?_
  refine k_N_share hC h.1 (fun I1 L1 hC1 hi1 => ?_)
  have hM1 := hM.hi h.1 hi1
  refine r_ald2 f_L_law_550 ?_
  refine r_ald0 f_L_law_551 ?_
  refine r_ild3 f_L_law_552 ?_
  refine r_ic f_L_law_553 ?_
  refine r_iadd f_L_law_554 ?_
  rw [show nI j + 1 = nI (j + 1) from nI_add j 1]
  refine r_ialdx f_L_law_555 (q_ix.nI (show j + 1 < G.2.2.2.2.2.2 by omega) (by omega)) ?_
  refine c_R_share f_L_law_556 (s_95) (Nat.le_of_ble_eq_true rfl) hce hsl ?_
  refine k_R_share hM1 h.1 (fun I2 L2 hM2 hl2 => ?_)
  have hC2 := hC1.lw hl2
  refine r_ic_eq f_L_law_559 (fun h559 => ?_) (fun h559 => absurd rfl h559)
  exact hn _ I2 L2 (wx_share h) hC2 hM2
theorem law_rest (hL : G.2.2.2.2.2.2 ≤ 384) (hj : j + 6 ≤ G.2.2.2.2.2.2) (h : WFx σ) (hC : RepC I L σ) (hM : RepM I L σ) (hce : ce ≤ mc) (hsl : sl ≤ ms) (hn : ∀ σ' I' L', WFx σ' → RepC I' L' σ' → RepM I' L' σ' → WW G (d + 62) mt_L_law 1235 [some (.ref (4 + 1000)), some (.ref 0), some (.ref 95), some (.int (nI j))] [] SH RF I' L' ce sl mc ms K) : WW G (d + 62) mt_L_law 564 [some (.ref (4 + 1000)), some (.ref 0), some (.ref 95), some (.int (nI j))] [] SH RF I L ce sl mc ms K := by
  refine r_ald1 f_L_law_564 ?_
  refine r_ald0 f_L_law_565 ?_
  refine r_ild3 f_L_law_566 ?_
  refine r_ic f_L_law_567 ?_
  refine r_iadd f_L_law_568 ?_
  rw [show nI j + 1 = nI (j + 1) from nI_add j 1]
  refine r_ialdx f_L_law_569 (q_ix.nI (show j + 1 < G.2.2.2.2.2.2 by omega) (by omega)) ?_
  refine r_ald0 f_L_law_570 ?_
  refine r_ild3 f_L_law_571 ?_
  refine r_ic f_L_law_572 ?_
  refine r_iadd f_L_law_573 ?_
  rw [show nI j + 2 = nI (j + 2) from nI_add j 2]
  refine r_ialdx f_L_law_574 (q_ix.nI (show j + 2 < G.2.2.2.2.2.2 by omega) (by omega)) ?_
  refine c_N_rest f_L_law_575 (s_0) (Nat.le_of_ble_eq_true rfl) hce hsl ?_
  refine k_N_rest hC h.1 (fun I1 L1 hC1 hi1 => ?_)
  have hM1 := hM.hi h.1 hi1
  refine r_ald2 f_L_law_578 ?_
  refine r_ald0 f_L_law_579 ?_
  refine r_ild3 f_L_law_580 ?_
  refine r_ic f_L_law_581 ?_
  refine r_iadd f_L_law_582 ?_
  rw [show nI j + 1 = nI (j + 1) from nI_add j 1]
  refine r_ialdx f_L_law_583 (q_ix.nI (show j + 1 < G.2.2.2.2.2.2 by omega) (by omega)) ?_
  refine r_ald0 f_L_law_584 ?_
  refine r_ild3 f_L_law_585 ?_
  refine r_ic f_L_law_586 ?_
  refine r_iadd f_L_law_587 ?_
  rw [show nI j + 2 = nI (j + 2) from nI_add j 2]
  refine r_ialdx f_L_law_588 (q_ix.nI (show j + 2 < G.2.2.2.2.2.2 by omega) (by omega)) ?_
  refine c_R_rest f_L_law_589 (s_95) (Nat.le_of_ble_eq_true rfl) hce hsl ?_
  refine k_R_rest hM1 h.1 (fun I2 L2 hM2 hl2 => ?_)
  have hC2 := hC1.lw hl2
  refine r_ic_eq f_L_law_592 (fun h592 => ?_) (fun h592 => absurd rfl h592)
  exact hn _ I2 L2 (wx_rest h) hC2 hM2
theorem law_lost (hL : G.2.2.2.2.2.2 ≤ 384) (hj : j + 6 ≤ G.2.2.2.2.2.2) (h : WFx σ) (hC : RepC I L σ) (hM : RepM I L σ) (hce : ce ≤ mc) (hsl : sl ≤ ms) (hn : ∀ σ' I' L', WFx σ' → RepC I' L' σ' → RepM I' L' σ' → WW G (d + 62) mt_L_law 1235 [some (.ref (4 + 1000)), some (.ref 0), some (.ref 95), some (.int (nI j))] [] SH RF I' L' ce sl mc ms K) : WW G (d + 62) mt_L_law 597 [some (.ref (4 + 1000)), some (.ref 0), some (.ref 95), some (.int (nI j))] [] SH RF I L ce sl mc ms K := by
  refine r_ald1 f_L_law_597 ?_
  refine r_ald0 f_L_law_598 ?_
  refine r_ild3 f_L_law_599 ?_
  refine r_ic f_L_law_600 ?_
  refine r_iadd f_L_law_601 ?_
  rw [show nI j + 1 = nI (j + 1) from nI_add j 1]
  refine r_ialdx f_L_law_602 (q_ix.nI (show j + 1 < G.2.2.2.2.2.2 by omega) (by omega)) ?_
  refine c_N_lost f_L_law_603 (s_0) (Nat.le_of_ble_eq_true rfl) hce hsl ?_
  refine k_N_lost hC h.1 (fun I1 L1 hC1 hi1 => ?_)
  have hM1 := hM.hi h.1 hi1
  refine r_ald2 f_L_law_606 ?_
  refine r_ald0 f_L_law_607 ?_
  refine r_ild3 f_L_law_608 ?_
  refine r_ic f_L_law_609 ?_
  refine r_iadd f_L_law_610 ?_
  rw [show nI j + 1 = nI (j + 1) from nI_add j 1]
  refine r_ialdx f_L_law_611 (q_ix.nI (show j + 1 < G.2.2.2.2.2.2 by omega) (by omega)) ?_
  refine c_R_lost f_L_law_612 (s_95) (Nat.le_of_ble_eq_true rfl) hce hsl ?_
  refine k_R_lost hM1 h.1 (fun I2 L2 hM2 hl2 => ?_)
  have hC2 := hC1.lw hl2
  refine r_lcmp f_L_law_615 ?_
  refine r_if_eq f_L_law_616 (fun h616 => ?_) (fun h616 => absurd (q_lcmp.1.mpr rfl) h616)
  exact hn _ I2 L2 (wx_lost h) hC2 hM2
theorem law_least (hL : G.2.2.2.2.2.2 ≤ 384) (hj : j + 6 ≤ G.2.2.2.2.2.2) (h : WFx σ) (hC : RepC I L σ) (hM : RepM I L σ) (hce : ce ≤ mc) (hsl : sl ≤ ms) (hn : ∀ σ' I' L', WFx σ' → RepC I' L' σ' → RepM I' L' σ' → WW G (d + 62) mt_L_law 1235 [some (.ref (4 + 1000)), some (.ref 0), some (.ref 95), some (.int (nI j))] [] SH RF I' L' ce sl mc ms K) : WW G (d + 62) mt_L_law 621 [some (.ref (4 + 1000)), some (.ref 0), some (.ref 95), some (.int (nI j))] [] SH RF I L ce sl mc ms K := by
  refine r_ald1 f_L_law_621 ?_
  refine r_ald0 f_L_law_622 ?_
  refine r_ild3 f_L_law_623 ?_
  refine r_ic f_L_law_624 ?_
  refine r_iadd f_L_law_625 ?_
  rw [show nI j + 1 = nI (j + 1) from nI_add j 1]
  refine r_ialdx f_L_law_626 (q_ix.nI (show j + 1 < G.2.2.2.2.2.2 by omega) (by omega)) ?_
  refine c_N_least f_L_law_627 (s_0) (Nat.le_of_ble_eq_true rfl) hce hsl ?_
  refine k_N_least hC h.1 (fun I1 L1 hC1 hi1 => ?_)
  have hM1 := hM.hi h.1 hi1
  refine r_ald2 f_L_law_630 ?_
  refine r_ald0 f_L_law_631 ?_
  refine r_ild3 f_L_law_632 ?_
  refine r_ic f_L_law_633 ?_
  refine r_iadd f_L_law_634 ?_
  rw [show nI j + 1 = nI (j + 1) from nI_add j 1]
  refine r_ialdx f_L_law_635 (q_ix.nI (show j + 1 < G.2.2.2.2.2.2 by omega) (by omega)) ?_
  refine c_R_least f_L_law_636 (s_95) (Nat.le_of_ble_eq_true rfl) hce hsl ?_
  refine k_R_least hM1 h.1 (fun I2 L2 hM2 hl2 => ?_)
  have hC2 := hC1.lw hl2
  refine r_ic_eq f_L_law_639 (fun h639 => ?_) (fun h639 => absurd rfl h639)
  exact hn _ I2 L2 (wx_least h) hC2 hM2
theorem law_hire (hL : G.2.2.2.2.2.2 ≤ 384) (hj : j + 6 ≤ G.2.2.2.2.2.2) (h : WFx σ) (hC : RepC I L σ) (hM : RepM I L σ) (hce : ce ≤ mc) (hsl : sl ≤ ms) (hn : ∀ σ' I' L', WFx σ' → RepC I' L' σ' → RepM I' L' σ' → WW G (d + 62) mt_L_law 1235 [some (.ref (4 + 1000)), some (.ref 0), some (.ref 95), some (.int (nI j))] [] SH RF I' L' ce sl mc ms K) : WW G (d + 62) mt_L_law 644 [some (.ref (4 + 1000)), some (.ref 0), some (.ref 95), some (.int (nI j))] [] SH RF I L ce sl mc ms K := by
  refine r_ald1 f_L_law_644 ?_
  refine r_ald0 f_L_law_645 ?_
  refine r_ild3 f_L_law_646 ?_
  refine r_ic f_L_law_647 ?_
  refine r_iadd f_L_law_648 ?_
  rw [show nI j + 1 = nI (j + 1) from nI_add j 1]
  refine r_ialdx f_L_law_649 (q_ix.nI (show j + 1 < G.2.2.2.2.2.2 by omega) (by omega)) ?_
  refine c_N_hire f_L_law_650 (s_0) (Nat.le_of_ble_eq_true rfl) hce hsl ?_
  refine k_N_hire hC h.1 h.2.1 (fun I1 L1 hC1 hi1 => ?_)
  have hM1 := hM.hi h.1 hi1
  refine r_ald2 f_L_law_653 ?_
  refine r_ald0 f_L_law_654 ?_
  refine r_ild3 f_L_law_655 ?_
  refine r_ic f_L_law_656 ?_
  refine r_iadd f_L_law_657 ?_
  rw [show nI j + 1 = nI (j + 1) from nI_add j 1]
  refine r_ialdx f_L_law_658 (q_ix.nI (show j + 1 < G.2.2.2.2.2.2 by omega) (by omega)) ?_
  refine c_R_hire f_L_law_659 (s_95) (Nat.le_of_ble_eq_true rfl) hce hsl ?_
  refine k_R_hire hM1 h.1 h.2.1 (fun I2 L2 hM2 hl2 => ?_)
  have hC2 := hC1.lw hl2
  refine r_lcmp f_L_law_662 ?_
  refine r_if_eq f_L_law_663 (fun h663 => ?_) (fun h663 => absurd (q_lcmp.1.mpr rfl) h663)
  exact hn _ I2 L2 (wx_hire h) hC2 hM2
theorem law_breaks (hL : G.2.2.2.2.2.2 ≤ 384) (hj : j + 6 ≤ G.2.2.2.2.2.2) (h : WFx σ) (hC : RepC I L σ) (hM : RepM I L σ) (hce : ce ≤ mc) (hsl : sl ≤ ms) (hn : ∀ σ' I' L', WFx σ' → RepC I' L' σ' → RepM I' L' σ' → WW G (d + 62) mt_L_law 1235 [some (.ref (4 + 1000)), some (.ref 0), some (.ref 95), some (.int (nI j))] [] SH RF I' L' ce sl mc ms K) : WW G (d + 62) mt_L_law 668 [some (.ref (4 + 1000)), some (.ref 0), some (.ref 95), some (.int (nI j))] [] SH RF I L ce sl mc ms K := by
  refine r_ald1 f_L_law_668 ?_
  refine r_ald0 f_L_law_669 ?_
  refine r_ild3 f_L_law_670 ?_
  refine r_ic f_L_law_671 ?_
  refine r_iadd f_L_law_672 ?_
  rw [show nI j + 1 = nI (j + 1) from nI_add j 1]
  refine r_ialdx f_L_law_673 (q_ix.nI (show j + 1 < G.2.2.2.2.2.2 by omega) (by omega)) ?_
  refine c_N_breaks f_L_law_674 (s_0) (Nat.le_of_ble_eq_true rfl) hce hsl ?_
  refine k_N_breaks hC h.1 (fun I1 L1 hC1 hi1 => ?_)
  have hM1 := hM.hi h.1 hi1
  refine r_ald2 f_L_law_677 ?_
  refine r_ald0 f_L_law_678 ?_
  refine r_ild3 f_L_law_679 ?_
  refine r_ic f_L_law_680 ?_
  refine r_iadd f_L_law_681 ?_
  rw [show nI j + 1 = nI (j + 1) from nI_add j 1]
  refine r_ialdx f_L_law_682 (q_ix.nI (show j + 1 < G.2.2.2.2.2.2 by omega) (by omega)) ?_
  refine c_R_breaks f_L_law_683 (s_95) (Nat.le_of_ble_eq_true rfl) hce hsl ?_
  refine k_R_breaks hM1 h.1 (fun I2 L2 hM2 hl2 => ?_)
  have hC2 := hC1.lw hl2
  refine r_ic_eq f_L_law_686 (fun h686 => ?_) (fun h686 => absurd rfl h686)
  exact hn _ I2 L2 (wx_breaks h) hC2 hM2
theorem law_blame (hL : G.2.2.2.2.2.2 ≤ 384) (hj : j + 6 ≤ G.2.2.2.2.2.2) (h : WFx σ) (hC : RepC I L σ) (hM : RepM I L σ) (hce : ce ≤ mc) (hsl : sl ≤ ms) (hn : ∀ σ' I' L', WFx σ' → RepC I' L' σ' → RepM I' L' σ' → WW G (d + 62) mt_L_law 1235 [some (.ref (4 + 1000)), some (.ref 0), some (.ref 95), some (.int (nI j))] [] SH RF I' L' ce sl mc ms K) : WW G (d + 62) mt_L_law 691 [some (.ref (4 + 1000)), some (.ref 0), some (.ref 95), some (.int (nI j))] [] SH RF I L ce sl mc ms K := by
  refine r_ald1 f_L_law_691 ?_
  refine r_ald0 f_L_law_692 ?_
  refine r_ild3 f_L_law_693 ?_
  refine r_ic f_L_law_694 ?_
  refine r_iadd f_L_law_695 ?_
  rw [show nI j + 1 = nI (j + 1) from nI_add j 1]
  refine r_ialdx f_L_law_696 (q_ix.nI (show j + 1 < G.2.2.2.2.2.2 by omega) (by omega)) ?_
  refine c_N_blame f_L_law_697 (s_0) (Nat.le_of_ble_eq_true rfl) hce hsl ?_
  refine k_N_blame hC h.1 (fun I1 L1 hC1 hi1 => ?_)
  have hM1 := hM.hi h.1 hi1
  refine r_ald2 f_L_law_700 ?_
  refine r_ald0 f_L_law_701 ?_
  refine r_ild3 f_L_law_702 ?_
  refine r_ic f_L_law_703 ?_
  refine r_iadd f_L_law_704 ?_
  rw [show nI j + 1 = nI (j + 1) from nI_add j 1]
  refine r_ialdx f_L_law_705 (q_ix.nI (show j + 1 < G.2.2.2.2.2.2 by omega) (by omega)) ?_
  refine c_R_blame f_L_law_706 (s_95) (Nat.le_of_ble_eq_true rfl) hce hsl ?_
  refine k_R_blame hM1 h.1 (fun I2 L2 hM2 hl2 => ?_)
  have hC2 := hC1.lw hl2
  refine r_ic_eq f_L_law_709 (fun h709 => ?_) (fun h709 => absurd rfl h709)
  exact hn _ I2 L2 (wx_blame h) hC2 hM2
theorem law_always (hL : G.2.2.2.2.2.2 ≤ 384) (hj : j + 6 ≤ G.2.2.2.2.2.2) (h : WFx σ) (hC : RepC I L σ) (hM : RepM I L σ) (hce : ce ≤ mc) (hsl : sl ≤ ms) (hn : ∀ σ' I' L', WFx σ' → RepC I' L' σ' → RepM I' L' σ' → WW G (d + 62) mt_L_law 1235 [some (.ref (4 + 1000)), some (.ref 0), some (.ref 95), some (.int (nI j))] [] SH RF I' L' ce sl mc ms K) : WW G (d + 62) mt_L_law 714 [some (.ref (4 + 1000)), some (.ref 0), some (.ref 95), some (.int (nI j))] [] SH RF I L ce sl mc ms K := by
  refine r_ald1 f_L_law_714 ?_
  refine c_N_always f_L_law_715 (s_0) (Nat.le_of_ble_eq_true rfl) hce hsl ?_
  refine k_N_always hC h.1 (fun I1 L1 hC1 hi1 => ?_)
  have hM1 := hM.hi h.1 hi1
  refine r_ald2 f_L_law_718 ?_
  refine c_R_always f_L_law_719 (s_95) (Nat.le_of_ble_eq_true rfl) hce hsl ?_
  refine k_R_always hM1 h.1 (fun I2 L2 hM2 hl2 => ?_)
  have hC2 := hC1.lw hl2
  refine r_ic_eq f_L_law_722 (fun h722 => ?_) (fun h722 => absurd rfl h722)
  exact hn _ I2 L2 (wx_always h) hC2 hM2
theorem law_feed (hL : G.2.2.2.2.2.2 ≤ 384) (hj : j + 6 ≤ G.2.2.2.2.2.2) (h : WFx σ) (hC : RepC I L σ) (hM : RepM I L σ) (hce : ce ≤ mc) (hsl : sl ≤ ms) (hn : ∀ σ' I' L', WFx σ' → RepC I' L' σ' → RepM I' L' σ' → WW G (d + 62) mt_L_law 1235 [some (.ref (4 + 1000)), some (.ref 0), some (.ref 95), some (.int (nI j))] [] SH RF I' L' ce sl mc ms K) : WW G (d + 62) mt_L_law 727 [some (.ref (4 + 1000)), some (.ref 0), some (.ref 95), some (.int (nI j))] [] SH RF I L ce sl mc ms K := by
  refine r_ald1 f_L_law_727 ?_
  refine r_ald0 f_L_law_728 ?_
  refine r_ild3 f_L_law_729 ?_
  refine r_ic f_L_law_730 ?_
  refine r_iadd f_L_law_731 ?_
  rw [show nI j + 1 = nI (j + 1) from nI_add j 1]
  refine r_ialdx f_L_law_732 (q_ix.nI (show j + 1 < G.2.2.2.2.2.2 by omega) (by omega)) ?_
  refine r_ald0 f_L_law_733 ?_
  refine r_ild3 f_L_law_734 ?_
  refine r_ic f_L_law_735 ?_
  refine r_iadd f_L_law_736 ?_
  rw [show nI j + 2 = nI (j + 2) from nI_add j 2]
  refine r_ialdx f_L_law_737 (q_ix.nI (show j + 2 < G.2.2.2.2.2.2 by omega) (by omega)) ?_
  refine c_N_feed f_L_law_738 (s_0) (Nat.le_of_ble_eq_true rfl) hce hsl ?_
  refine k_N_feed hC h.1 (fun I1 L1 hC1 hi1 => ?_)
  have hM1 := hM.hi h.1 hi1
  refine r_ald2 f_L_law_741 ?_
  refine r_ald0 f_L_law_742 ?_
  refine r_ild3 f_L_law_743 ?_
  refine r_ic f_L_law_744 ?_
  refine r_iadd f_L_law_745 ?_
  rw [show nI j + 1 = nI (j + 1) from nI_add j 1]
  refine r_ialdx f_L_law_746 (q_ix.nI (show j + 1 < G.2.2.2.2.2.2 by omega) (by omega)) ?_
  refine r_ald0 f_L_law_747 ?_
  refine r_ild3 f_L_law_748 ?_
  refine r_ic f_L_law_749 ?_
  refine r_iadd f_L_law_750 ?_
  rw [show nI j + 2 = nI (j + 2) from nI_add j 2]
  refine r_ialdx f_L_law_751 (q_ix.nI (show j + 2 < G.2.2.2.2.2.2 by omega) (by omega)) ?_
  refine c_R_feed f_L_law_752 (s_95) (Nat.le_of_ble_eq_true rfl) hce hsl ?_
  refine k_R_feed hM1 h.1 (fun I2 L2 hM2 hl2 => ?_)
  have hC2 := hC1.lw hl2
  refine r_ic_eq f_L_law_755 (fun h755 => ?_) (fun h755 => absurd rfl h755)
  exact hn _ I2 L2 (wx_feed h) hC2 hM2
theorem law_wipe (hL : G.2.2.2.2.2.2 ≤ 384) (hj : j + 6 ≤ G.2.2.2.2.2.2) (h : WFx σ) (hC : RepC I L σ) (hM : RepM I L σ) (hce : ce ≤ mc) (hsl : sl ≤ ms) (hn : ∀ σ' I' L', WFx σ' → RepC I' L' σ' → RepM I' L' σ' → WW G (d + 62) mt_L_law 1235 [some (.ref (4 + 1000)), some (.ref 0), some (.ref 95), some (.int (nI j))] [] SH RF I' L' ce sl mc ms K) : WW G (d + 62) mt_L_law 760 [some (.ref (4 + 1000)), some (.ref 0), some (.ref 95), some (.int (nI j))] [] SH RF I L ce sl mc ms K := by
  refine r_ald1 f_L_law_760 ?_
  refine c_N_wipe f_L_law_761 (s_0) (Nat.le_of_ble_eq_true rfl) hce hsl ?_
  refine k_N_wipe hC h.1 (fun I1 L1 hC1 hi1 => ?_)
  have hM1 := hM.hi h.1 hi1
  refine r_ald2 f_L_law_764 ?_
  refine c_R_wipe f_L_law_765 (s_95) (Nat.le_of_ble_eq_true rfl) hce hsl ?_
  refine k_R_wipe hM1 h.1 (fun I2 L2 hM2 hl2 => ?_)
  have hC2 := hC1.lw hl2
  refine r_ic_eq f_L_law_768 (fun h768 => ?_) (fun h768 => absurd rfl h768)
  exact hn _ I2 L2 (wx_wipe h) hC2 hM2
theorem law_text (hL : G.2.2.2.2.2.2 ≤ 384) (hj : j + 6 ≤ G.2.2.2.2.2.2) (h : WFx σ) (hC : RepC I L σ) (hM : RepM I L σ) (hce : ce ≤ mc) (hsl : sl ≤ ms) (hn : ∀ σ' I' L', WFx σ' → RepC I' L' σ' → RepM I' L' σ' → WW G (d + 62) mt_L_law 1235 [some (.ref (4 + 1000)), some (.ref 0), some (.ref 95), some (.int (nI j))] [] SH RF I' L' ce sl mc ms K) : WW G (d + 62) mt_L_law 773 [some (.ref (4 + 1000)), some (.ref 0), some (.ref 95), some (.int (nI j))] [] SH RF I L ce sl mc ms K := by
  refine r_ald1 f_L_law_773 ?_
  refine c_N_text f_L_law_774 (s_0) (Nat.le_of_ble_eq_true rfl) hce hsl ?_
  refine k_N_text hC h.1 (fun I1 L1 hC1 hi1 => ?_)
  have hM1 := hM.hi h.1 hi1
  refine r_ald2 f_L_law_777 ?_
  refine c_R_text f_L_law_778 (s_95) (Nat.le_of_ble_eq_true rfl) hce hsl ?_
  refine k_R_text hM1 h.1 (fun I2 L2 hM2 hl2 => ?_)
  have hC2 := hC1.lw hl2
  refine r_ic_eq f_L_law_781 (fun h781 => ?_) (fun h781 => absurd rfl h781)
  exact hn _ I2 L2 (wx_text h) hC2 hM2
theorem law_plain (hL : G.2.2.2.2.2.2 ≤ 384) (hj : j + 6 ≤ G.2.2.2.2.2.2) (h : WFx σ) (hC : RepC I L σ) (hM : RepM I L σ) (hce : ce ≤ mc) (hsl : sl ≤ ms) (hn : ∀ σ' I' L', WFx σ' → RepC I' L' σ' → RepM I' L' σ' → WW G (d + 62) mt_L_law 1235 [some (.ref (4 + 1000)), some (.ref 0), some (.ref 95), some (.int (nI j))] [] SH RF I' L' ce sl mc ms K) : WW G (d + 62) mt_L_law 786 [some (.ref (4 + 1000)), some (.ref 0), some (.ref 95), some (.int (nI j))] [] SH RF I L ce sl mc ms K := by
  refine r_ald1 f_L_law_786 ?_
  refine c_N_plain f_L_law_787 (s_0) (Nat.le_of_ble_eq_true rfl) hce hsl ?_
  refine k_N_plain hC h.1 (fun I1 L1 hC1 hi1 => ?_)
  have hM1 := hM.hi h.1 hi1
  refine r_ald2 f_L_law_790 ?_
  refine c_R_plain f_L_law_791 (s_95) (Nat.le_of_ble_eq_true rfl) hce hsl ?_
  refine k_R_plain hM1 h.1 (fun I2 L2 hM2 hl2 => ?_)
  have hC2 := hC1.lw hl2
  refine r_ic_eq f_L_law_794 (fun h794 => ?_) (fun h794 => absurd rfl h794)
  exact hn _ I2 L2 (wx_plain h) hC2 hM2
theorem law_gives (hL : G.2.2.2.2.2.2 ≤ 384) (hj : j + 6 ≤ G.2.2.2.2.2.2) (h : WFx σ) (hC : RepC I L σ) (hM : RepM I L σ) (hce : ce ≤ mc) (hsl : sl ≤ ms) (hn : ∀ σ' I' L', WFx σ' → RepC I' L' σ' → RepM I' L' σ' → WW G (d + 62) mt_L_law 1235 [some (.ref (4 + 1000)), some (.ref 0), some (.ref 95), some (.int (nI j))] [] SH RF I' L' ce sl mc ms K) : WW G (d + 62) mt_L_law 799 [some (.ref (4 + 1000)), some (.ref 0), some (.ref 95), some (.int (nI j))] [] SH RF I L ce sl mc ms K := by
  refine r_ald1 f_L_law_799 ?_
  refine r_ald0 f_L_law_800 ?_
  refine r_ild3 f_L_law_801 ?_
  refine r_ic f_L_law_802 ?_
  refine r_iadd f_L_law_803 ?_
  rw [show nI j + 1 = nI (j + 1) from nI_add j 1]
  refine r_ialdx f_L_law_804 (q_ix.nI (show j + 1 < G.2.2.2.2.2.2 by omega) (by omega)) ?_
  refine c_N_gives f_L_law_805 (s_0) (Nat.le_of_ble_eq_true rfl) hce hsl ?_
  refine k_N_gives hC h.1 (fun I1 L1 hC1 hi1 => ?_)
  have hM1 := hM.hi h.1 hi1
  refine r_ald2 f_L_law_808 ?_
  refine r_ald0 f_L_law_809 ?_
  refine r_ild3 f_L_law_810 ?_
  refine r_ic f_L_law_811 ?_
  refine r_iadd f_L_law_812 ?_
  rw [show nI j + 1 = nI (j + 1) from nI_add j 1]
  refine r_ialdx f_L_law_813 (q_ix.nI (show j + 1 < G.2.2.2.2.2.2 by omega) (by omega)) ?_
  refine c_R_gives f_L_law_814 (s_95) (Nat.le_of_ble_eq_true rfl) hce hsl ?_
  refine k_R_gives hM1 h.1 (fun I2 L2 hM2 hl2 => ?_)
  have hC2 := hC1.lw hl2
  refine r_ic_eq f_L_law_817 (fun h817 => ?_) (fun h817 => absurd rfl h817)
  exact hn _ I2 L2 (wx_gives h) hC2 hM2
theorem law_seed (hL : G.2.2.2.2.2.2 ≤ 384) (hj : j + 6 ≤ G.2.2.2.2.2.2) (h : WFx σ) (hC : RepC I L σ) (hM : RepM I L σ) (hce : ce ≤ mc) (hsl : sl ≤ ms) (hn : ∀ σ' I' L', WFx σ' → RepC I' L' σ' → RepM I' L' σ' → WW G (d + 62) mt_L_law 1235 [some (.ref (4 + 1000)), some (.ref 0), some (.ref 95), some (.int (nI j))] [] SH RF I' L' ce sl mc ms K) : WW G (d + 62) mt_L_law 822 [some (.ref (4 + 1000)), some (.ref 0), some (.ref 95), some (.int (nI j))] [] SH RF I L ce sl mc ms K := by
  refine r_ald1 f_L_law_822 ?_
  refine r_ald0 f_L_law_823 ?_
  refine r_ild3 f_L_law_824 ?_
  refine r_ic f_L_law_825 ?_
  refine r_iadd f_L_law_826 ?_
  rw [show nI j + 1 = nI (j + 1) from nI_add j 1]
  refine r_ialdx f_L_law_827 (q_ix.nI (show j + 1 < G.2.2.2.2.2.2 by omega) (by omega)) ?_
  refine c_N_seed f_L_law_828 (s_0) (Nat.le_of_ble_eq_true rfl) hce hsl ?_
  refine k_N_seed hC h.1 (fun I1 L1 hC1 hi1 => ?_)
  have hM1 := hM.hi h.1 hi1
  refine r_ald2 f_L_law_831 ?_
  refine r_ald0 f_L_law_832 ?_
  refine r_ild3 f_L_law_833 ?_
  refine r_ic f_L_law_834 ?_
  refine r_iadd f_L_law_835 ?_
  rw [show nI j + 1 = nI (j + 1) from nI_add j 1]
  refine r_ialdx f_L_law_836 (q_ix.nI (show j + 1 < G.2.2.2.2.2.2 by omega) (by omega)) ?_
  refine c_R_seed f_L_law_837 (s_95) (Nat.le_of_ble_eq_true rfl) hce hsl ?_
  refine k_R_seed hM1 h.1 (fun I2 L2 hM2 hl2 => ?_)
  have hC2 := hC1.lw hl2
  refine r_ic_eq f_L_law_840 (fun h840 => ?_) (fun h840 => absurd rfl h840)
  exact hn _ I2 L2 (wx_seed h) hC2 hM2
theorem law_nights (hL : G.2.2.2.2.2.2 ≤ 384) (hj : j + 6 ≤ G.2.2.2.2.2.2) (h : WFx σ) (hC : RepC I L σ) (hM : RepM I L σ) (hce : ce ≤ mc) (hsl : sl ≤ ms) (hn : ∀ σ' I' L', WFx σ' → RepC I' L' σ' → RepM I' L' σ' → WW G (d + 62) mt_L_law 1235 [some (.ref (4 + 1000)), some (.ref 0), some (.ref 95), some (.int (nI j))] [] SH RF I' L' ce sl mc ms K) : WW G (d + 62) mt_L_law 845 [some (.ref (4 + 1000)), some (.ref 0), some (.ref 95), some (.int (nI j))] [] SH RF I L ce sl mc ms K := by
  refine r_ald1 f_L_law_845 ?_
  refine r_ald0 f_L_law_846 ?_
  refine r_ild3 f_L_law_847 ?_
  refine r_ic f_L_law_848 ?_
  refine r_iadd f_L_law_849 ?_
  rw [show nI j + 1 = nI (j + 1) from nI_add j 1]
  refine r_ialdx f_L_law_850 (q_ix.nI (show j + 1 < G.2.2.2.2.2.2 by omega) (by omega)) ?_
  refine c_N_nights f_L_law_851 (s_0) (Nat.le_of_ble_eq_true rfl) hce hsl ?_
  refine k_N_nights hC h.1 (fun I1 L1 hC1 hi1 => ?_)
  have hM1 := hM.hi h.1 hi1
  refine r_ald2 f_L_law_854 ?_
  refine r_ald0 f_L_law_855 ?_
  refine r_ild3 f_L_law_856 ?_
  refine r_ic f_L_law_857 ?_
  refine r_iadd f_L_law_858 ?_
  rw [show nI j + 1 = nI (j + 1) from nI_add j 1]
  refine r_ialdx f_L_law_859 (q_ix.nI (show j + 1 < G.2.2.2.2.2.2 by omega) (by omega)) ?_
  refine c_R_nights f_L_law_860 (s_95) (Nat.le_of_ble_eq_true rfl) hce hsl ?_
  refine k_R_nights hM1 h.1 (fun I2 L2 hM2 hl2 => ?_)
  have hC2 := hC1.lw hl2
  refine r_ic_eq f_L_law_863 (fun h863 => ?_) (fun h863 => absurd rfl h863)
  exact hn _ I2 L2 (wx_nights h) hC2 hM2
theorem law_ahead (hL : G.2.2.2.2.2.2 ≤ 384) (hj : j + 6 ≤ G.2.2.2.2.2.2) (h : WFx σ) (hC : RepC I L σ) (hM : RepM I L σ) (hce : ce ≤ mc) (hsl : sl ≤ ms) (hn : ∀ σ' I' L', WFx σ' → RepC I' L' σ' → RepM I' L' σ' → WW G (d + 62) mt_L_law 1235 [some (.ref (4 + 1000)), some (.ref 0), some (.ref 95), some (.int (nI j))] [] SH RF I' L' ce sl mc ms K) : WW G (d + 62) mt_L_law 868 [some (.ref (4 + 1000)), some (.ref 0), some (.ref 95), some (.int (nI j))] [] SH RF I L ce sl mc ms K := by
  refine r_ald1 f_L_law_868 ?_
  refine r_ald0 f_L_law_869 ?_
  refine r_ild3 f_L_law_870 ?_
  refine r_ic f_L_law_871 ?_
  refine r_iadd f_L_law_872 ?_
  rw [show nI j + 1 = nI (j + 1) from nI_add j 1]
  refine r_ialdx f_L_law_873 (q_ix.nI (show j + 1 < G.2.2.2.2.2.2 by omega) (by omega)) ?_
  refine r_ald0 f_L_law_874 ?_
  refine r_ild3 f_L_law_875 ?_
  refine r_ic f_L_law_876 ?_
  refine r_iadd f_L_law_877 ?_
  rw [show nI j + 2 = nI (j + 2) from nI_add j 2]
  refine r_ialdx f_L_law_878 (q_ix.nI (show j + 2 < G.2.2.2.2.2.2 by omega) (by omega)) ?_
  refine c_N_ahead f_L_law_879 (s_0) (Nat.le_of_ble_eq_true rfl) hce hsl ?_
  refine k_N_ahead hC h.1 (fun I1 L1 hC1 hi1 => ?_)
  have hM1 := hM.hi h.1 hi1
  refine r_ald2 f_L_law_882 ?_
  refine r_ald0 f_L_law_883 ?_
  refine r_ild3 f_L_law_884 ?_
  refine r_ic f_L_law_885 ?_
  refine r_iadd f_L_law_886 ?_
  rw [show nI j + 1 = nI (j + 1) from nI_add j 1]
  refine r_ialdx f_L_law_887 (q_ix.nI (show j + 1 < G.2.2.2.2.2.2 by omega) (by omega)) ?_
  refine r_ald0 f_L_law_888 ?_
  refine r_ild3 f_L_law_889 ?_
  refine r_ic f_L_law_890 ?_
  refine r_iadd f_L_law_891 ?_
  rw [show nI j + 2 = nI (j + 2) from nI_add j 2]
  refine r_ialdx f_L_law_892 (q_ix.nI (show j + 2 < G.2.2.2.2.2.2 by omega) (by omega)) ?_
  refine c_R_ahead f_L_law_893 (s_95) (Nat.le_of_ble_eq_true rfl) hce hsl ?_
  refine k_R_ahead hM1 h.1 (fun I2 L2 hM2 hl2 => ?_)
  have hC2 := hC1.lw hl2
  refine r_ic_eq f_L_law_896 (fun h896 => ?_) (fun h896 => absurd rfl h896)
  exact hn _ I2 L2 (wx_ahead h) hC2 hM2
theorem law_purse (hL : G.2.2.2.2.2.2 ≤ 384) (hj : j + 6 ≤ G.2.2.2.2.2.2) (h : WFx σ) (hC : RepC I L σ) (hM : RepM I L σ) (hce : ce ≤ mc) (hsl : sl ≤ ms) (hn : ∀ σ' I' L', WFx σ' → RepC I' L' σ' → RepM I' L' σ' → WW G (d + 62) mt_L_law 1235 [some (.ref (4 + 1000)), some (.ref 0), some (.ref 95), some (.int (nI j))] [] SH RF I' L' ce sl mc ms K) : WW G (d + 62) mt_L_law 901 [some (.ref (4 + 1000)), some (.ref 0), some (.ref 95), some (.int (nI j))] [] SH RF I L ce sl mc ms K := by
  refine r_ald1 f_L_law_901 ?_
  refine r_ald0 f_L_law_902 ?_
  refine r_ild3 f_L_law_903 ?_
  refine r_ic f_L_law_904 ?_
  refine r_iadd f_L_law_905 ?_
  rw [show nI j + 1 = nI (j + 1) from nI_add j 1]
  refine r_ialdx f_L_law_906 (q_ix.nI (show j + 1 < G.2.2.2.2.2.2 by omega) (by omega)) ?_
  refine c_N_purse f_L_law_907 (s_0) (Nat.le_of_ble_eq_true rfl) hce hsl ?_
  refine k_N_purse hC h.1 (fun I1 L1 hC1 hi1 => ?_)
  have hM1 := hM.hi h.1 hi1
  refine r_ald2 f_L_law_910 ?_
  refine r_ald0 f_L_law_911 ?_
  refine r_ild3 f_L_law_912 ?_
  refine r_ic f_L_law_913 ?_
  refine r_iadd f_L_law_914 ?_
  rw [show nI j + 1 = nI (j + 1) from nI_add j 1]
  refine r_ialdx f_L_law_915 (q_ix.nI (show j + 1 < G.2.2.2.2.2.2 by omega) (by omega)) ?_
  refine c_R_purse f_L_law_916 (s_95) (Nat.le_of_ble_eq_true rfl) hce hsl ?_
  refine k_R_purse hM1 h.1 (fun I2 L2 hM2 hl2 => ?_)
  have hC2 := hC1.lw hl2
  refine r_ic_eq f_L_law_919 (fun h919 => ?_) (fun h919 => absurd rfl h919)
  exact hn _ I2 L2 (wx_purse h) hC2 hM2
theorem law_sheet (hL : G.2.2.2.2.2.2 ≤ 384) (hj : j + 6 ≤ G.2.2.2.2.2.2) (h : WFx σ) (hC : RepC I L σ) (hM : RepM I L σ) (hce : ce ≤ mc) (hsl : sl ≤ ms) (hn : ∀ σ' I' L', WFx σ' → RepC I' L' σ' → RepM I' L' σ' → WW G (d + 62) mt_L_law 1235 [some (.ref (4 + 1000)), some (.ref 0), some (.ref 95), some (.int (nI j))] [] SH RF I' L' ce sl mc ms K) : WW G (d + 62) mt_L_law 924 [some (.ref (4 + 1000)), some (.ref 0), some (.ref 95), some (.int (nI j))] [] SH RF I L ce sl mc ms K := by
  refine r_ald1 f_L_law_924 ?_
  refine r_ald0 f_L_law_925 ?_
  refine r_ild3 f_L_law_926 ?_
  refine r_ic f_L_law_927 ?_
  refine r_iadd f_L_law_928 ?_
  rw [show nI j + 1 = nI (j + 1) from nI_add j 1]
  refine r_ialdx f_L_law_929 (q_ix.nI (show j + 1 < G.2.2.2.2.2.2 by omega) (by omega)) ?_
  refine r_ald0 f_L_law_930 ?_
  refine r_ild3 f_L_law_931 ?_
  refine r_ic f_L_law_932 ?_
  refine r_iadd f_L_law_933 ?_
  rw [show nI j + 2 = nI (j + 2) from nI_add j 2]
  refine r_ialdx f_L_law_934 (q_ix.nI (show j + 2 < G.2.2.2.2.2.2 by omega) (by omega)) ?_
  refine r_ald0 f_L_law_935 ?_
  refine r_ild3 f_L_law_936 ?_
  refine r_ic f_L_law_937 ?_
  refine r_iadd f_L_law_938 ?_
  rw [show nI j + 3 = nI (j + 3) from nI_add j 3]
  refine r_ialdx f_L_law_939 (q_ix.nI (show j + 3 < G.2.2.2.2.2.2 by omega) (by omega)) ?_
  refine c_N_sheet f_L_law_940 (s_0) (Nat.le_of_ble_eq_true rfl) hce hsl ?_
  refine k_N_sheet hC h.1 (fun I1 L1 hC1 hi1 => ?_)
  have hM1 := hM.hi h.1 hi1
  refine r_ald2 f_L_law_943 ?_
  refine r_ald0 f_L_law_944 ?_
  refine r_ild3 f_L_law_945 ?_
  refine r_ic f_L_law_946 ?_
  refine r_iadd f_L_law_947 ?_
  rw [show nI j + 1 = nI (j + 1) from nI_add j 1]
  refine r_ialdx f_L_law_948 (q_ix.nI (show j + 1 < G.2.2.2.2.2.2 by omega) (by omega)) ?_
  refine r_ald0 f_L_law_949 ?_
  refine r_ild3 f_L_law_950 ?_
  refine r_ic f_L_law_951 ?_
  refine r_iadd f_L_law_952 ?_
  rw [show nI j + 2 = nI (j + 2) from nI_add j 2]
  refine r_ialdx f_L_law_953 (q_ix.nI (show j + 2 < G.2.2.2.2.2.2 by omega) (by omega)) ?_
  refine r_ald0 f_L_law_954 ?_
  refine r_ild3 f_L_law_955 ?_
  refine r_ic f_L_law_956 ?_
  refine r_iadd f_L_law_957 ?_
  rw [show nI j + 3 = nI (j + 3) from nI_add j 3]
  refine r_ialdx f_L_law_958 (q_ix.nI (show j + 3 < G.2.2.2.2.2.2 by omega) (by omega)) ?_
  refine c_R_sheet f_L_law_959 (s_95) (Nat.le_of_ble_eq_true rfl) hce hsl ?_
  refine k_R_sheet hM1 h.1 (fun I2 L2 hM2 hl2 => ?_)
  have hC2 := hC1.lw hl2
  refine r_ic_eq f_L_law_962 (fun h962 => ?_) (fun h962 => absurd rfl h962)
  exact hn _ I2 L2 (wx_sheet h) hC2 hM2
theorem law_write (hL : G.2.2.2.2.2.2 ≤ 384) (hj : j + 6 ≤ G.2.2.2.2.2.2) (h : WFx σ) (hC : RepC I L σ) (hM : RepM I L σ) (hce : ce ≤ mc) (hsl : sl ≤ ms) (hn : ∀ σ' I' L', WFx σ' → RepC I' L' σ' → RepM I' L' σ' → WW G (d + 62) mt_L_law 1235 [some (.ref (4 + 1000)), some (.ref 0), some (.ref 95), some (.int (nI j))] [] SH RF I' L' ce sl mc ms K) : WW G (d + 62) mt_L_law 967 [some (.ref (4 + 1000)), some (.ref 0), some (.ref 95), some (.int (nI j))] [] SH RF I L ce sl mc ms K := by
  refine r_ald1 f_L_law_967 ?_
  refine r_ald0 f_L_law_968 ?_
  refine r_ild3 f_L_law_969 ?_
  refine r_ic f_L_law_970 ?_
  refine r_iadd f_L_law_971 ?_
  rw [show nI j + 1 = nI (j + 1) from nI_add j 1]
  refine r_ialdx f_L_law_972 (q_ix.nI (show j + 1 < G.2.2.2.2.2.2 by omega) (by omega)) ?_
  refine r_ald0 f_L_law_973 ?_
  refine r_ild3 f_L_law_974 ?_
  refine r_ic f_L_law_975 ?_
  refine r_iadd f_L_law_976 ?_
  rw [show nI j + 2 = nI (j + 2) from nI_add j 2]
  refine r_ialdx f_L_law_977 (q_ix.nI (show j + 2 < G.2.2.2.2.2.2 by omega) (by omega)) ?_
  refine r_ald0 f_L_law_978 ?_
  refine r_ild3 f_L_law_979 ?_
  refine r_ic f_L_law_980 ?_
  refine r_iadd f_L_law_981 ?_
  rw [show nI j + 3 = nI (j + 3) from nI_add j 3]
  refine r_ialdx f_L_law_982 (q_ix.nI (show j + 3 < G.2.2.2.2.2.2 by omega) (by omega)) ?_
  refine r_i2l f_L_law_983 ?_
  refine r_ic f_L_law_984 ?_
  refine r_lshl f_L_law_986 ?_
  refine r_ald0 f_L_law_987 ?_
  refine r_ild3 f_L_law_988 ?_
  refine r_ic f_L_law_989 ?_
  refine r_iadd f_L_law_990 ?_
  rw [show nI j + 4 = nI (j + 4) from nI_add j 4]
  refine r_ialdx f_L_law_991 (q_ix.nI (show j + 4 < G.2.2.2.2.2.2 by omega) (by omega)) ?_
  refine r_i2l f_L_law_992 ?_
  refine r_lc f_L_law_993 ?_
  refine r_land f_L_law_996 ?_
  refine r_lor f_L_law_997 ?_
  refine c_N_write f_L_law_998 (s_0) (Nat.le_of_ble_eq_true rfl) hce hsl ?_
  refine k_N_write hC h.1 (fun I1 L1 hC1 hi1 => ?_)
  have hM1 := hM.hi h.1 hi1
  refine r_ald2 f_L_law_1001 ?_
  refine r_ald0 f_L_law_1002 ?_
  refine r_ild3 f_L_law_1003 ?_
  refine r_ic f_L_law_1004 ?_
  refine r_iadd f_L_law_1005 ?_
  rw [show nI j + 1 = nI (j + 1) from nI_add j 1]
  refine r_ialdx f_L_law_1006 (q_ix.nI (show j + 1 < G.2.2.2.2.2.2 by omega) (by omega)) ?_
  refine r_ald0 f_L_law_1007 ?_
  refine r_ild3 f_L_law_1008 ?_
  refine r_ic f_L_law_1009 ?_
  refine r_iadd f_L_law_1010 ?_
  rw [show nI j + 2 = nI (j + 2) from nI_add j 2]
  refine r_ialdx f_L_law_1011 (q_ix.nI (show j + 2 < G.2.2.2.2.2.2 by omega) (by omega)) ?_
  refine r_ald0 f_L_law_1012 ?_
  refine r_ild3 f_L_law_1013 ?_
  refine r_ic f_L_law_1014 ?_
  refine r_iadd f_L_law_1015 ?_
  rw [show nI j + 3 = nI (j + 3) from nI_add j 3]
  refine r_ialdx f_L_law_1016 (q_ix.nI (show j + 3 < G.2.2.2.2.2.2 by omega) (by omega)) ?_
  refine r_i2l f_L_law_1017 ?_
  refine r_ic f_L_law_1018 ?_
  refine r_lshl f_L_law_1020 ?_
  refine r_ald0 f_L_law_1021 ?_
  refine r_ild3 f_L_law_1022 ?_
  refine r_ic f_L_law_1023 ?_
  refine r_iadd f_L_law_1024 ?_
  rw [show nI j + 4 = nI (j + 4) from nI_add j 4]
  refine r_ialdx f_L_law_1025 (q_ix.nI (show j + 4 < G.2.2.2.2.2.2 by omega) (by omega)) ?_
  refine r_i2l f_L_law_1026 ?_
  refine r_lc f_L_law_1027 ?_
  refine r_land f_L_law_1030 ?_
  refine r_lor f_L_law_1031 ?_
  refine c_R_write f_L_law_1032 (s_95) (Nat.le_of_ble_eq_true rfl) hce hsl ?_
  refine k_R_write hM1 h.1 (fun I2 L2 hM2 hl2 => ?_)
  have hC2 := hC1.lw hl2
  refine r_lcmp f_L_law_1035 ?_
  refine r_if_eq f_L_law_1036 (fun h1036 => ?_) (fun h1036 => absurd (q_lcmp.1.mpr rfl) h1036)
  exact hn _ I2 L2 (wx_write h) hC2 hM2
theorem law_copy (hL : G.2.2.2.2.2.2 ≤ 384) (hj : j + 6 ≤ G.2.2.2.2.2.2) (h : WFx σ) (hC : RepC I L σ) (hM : RepM I L σ) (hce : ce ≤ mc) (hsl : sl ≤ ms) (hn : ∀ σ' I' L', WFx σ' → RepC I' L' σ' → RepM I' L' σ' → WW G (d + 62) mt_L_law 1235 [some (.ref (4 + 1000)), some (.ref 0), some (.ref 95), some (.int (nI j))] [] SH RF I' L' ce sl mc ms K) : WW G (d + 62) mt_L_law 1041 [some (.ref (4 + 1000)), some (.ref 0), some (.ref 95), some (.int (nI j))] [] SH RF I L ce sl mc ms K := by
  refine r_ald1 f_L_law_1041 ?_
  refine r_ald0 f_L_law_1042 ?_
  refine r_ild3 f_L_law_1043 ?_
  refine r_ic f_L_law_1044 ?_
  refine r_iadd f_L_law_1045 ?_
  rw [show nI j + 1 = nI (j + 1) from nI_add j 1]
  refine r_ialdx f_L_law_1046 (q_ix.nI (show j + 1 < G.2.2.2.2.2.2 by omega) (by omega)) ?_
  refine r_ald0 f_L_law_1047 ?_
  refine r_ild3 f_L_law_1048 ?_
  refine r_ic f_L_law_1049 ?_
  refine r_iadd f_L_law_1050 ?_
  rw [show nI j + 2 = nI (j + 2) from nI_add j 2]
  refine r_ialdx f_L_law_1051 (q_ix.nI (show j + 2 < G.2.2.2.2.2.2 by omega) (by omega)) ?_
  refine r_ald0 f_L_law_1052 ?_
  refine r_ild3 f_L_law_1053 ?_
  refine r_ic f_L_law_1054 ?_
  refine r_iadd f_L_law_1055 ?_
  rw [show nI j + 3 = nI (j + 3) from nI_add j 3]
  refine r_ialdx f_L_law_1056 (q_ix.nI (show j + 3 < G.2.2.2.2.2.2 by omega) (by omega)) ?_
  refine r_ald0 f_L_law_1057 ?_
  refine r_ild3 f_L_law_1058 ?_
  refine r_ic f_L_law_1059 ?_
  refine r_iadd f_L_law_1060 ?_
  rw [show nI j + 4 = nI (j + 4) from nI_add j 4]
  refine r_ialdx f_L_law_1061 (q_ix.nI (show j + 4 < G.2.2.2.2.2.2 by omega) (by omega)) ?_
  refine r_ald0 f_L_law_1062 ?_
  refine r_ild3 f_L_law_1063 ?_
  refine r_ic f_L_law_1064 ?_
  refine r_iadd f_L_law_1065 ?_
  rw [show nI j + 5 = nI (j + 5) from nI_add j 5]
  refine r_ialdx f_L_law_1066 (q_ix.nI (show j + 5 < G.2.2.2.2.2.2 by omega) (by omega)) ?_
  refine c_N_copy f_L_law_1067 (s_0) (Nat.le_of_ble_eq_true rfl) hce hsl ?_
  refine k_N_copy hC h.1 (fun I1 L1 hC1 hi1 => ?_)
  have hM1 := hM.hi h.1 hi1
  refine r_ald2 f_L_law_1070 ?_
  refine r_ald0 f_L_law_1071 ?_
  refine r_ild3 f_L_law_1072 ?_
  refine r_ic f_L_law_1073 ?_
  refine r_iadd f_L_law_1074 ?_
  rw [show nI j + 1 = nI (j + 1) from nI_add j 1]
  refine r_ialdx f_L_law_1075 (q_ix.nI (show j + 1 < G.2.2.2.2.2.2 by omega) (by omega)) ?_
  refine r_ald0 f_L_law_1076 ?_
  refine r_ild3 f_L_law_1077 ?_
  refine r_ic f_L_law_1078 ?_
  refine r_iadd f_L_law_1079 ?_
  rw [show nI j + 2 = nI (j + 2) from nI_add j 2]
  refine r_ialdx f_L_law_1080 (q_ix.nI (show j + 2 < G.2.2.2.2.2.2 by omega) (by omega)) ?_
  refine r_ald0 f_L_law_1081 ?_
  refine r_ild3 f_L_law_1082 ?_
  refine r_ic f_L_law_1083 ?_
  refine r_iadd f_L_law_1084 ?_
  rw [show nI j + 3 = nI (j + 3) from nI_add j 3]
  refine r_ialdx f_L_law_1085 (q_ix.nI (show j + 3 < G.2.2.2.2.2.2 by omega) (by omega)) ?_
  refine r_ald0 f_L_law_1086 ?_
  refine r_ild3 f_L_law_1087 ?_
  refine r_ic f_L_law_1088 ?_
  refine r_iadd f_L_law_1089 ?_
  rw [show nI j + 4 = nI (j + 4) from nI_add j 4]
  refine r_ialdx f_L_law_1090 (q_ix.nI (show j + 4 < G.2.2.2.2.2.2 by omega) (by omega)) ?_
  refine r_ald0 f_L_law_1091 ?_
  refine r_ild3 f_L_law_1092 ?_
  refine r_ic f_L_law_1093 ?_
  refine r_iadd f_L_law_1094 ?_
  rw [show nI j + 5 = nI (j + 5) from nI_add j 5]
  refine r_ialdx f_L_law_1095 (q_ix.nI (show j + 5 < G.2.2.2.2.2.2 by omega) (by omega)) ?_
  refine c_R_copy f_L_law_1096 (s_95) (Nat.le_of_ble_eq_true rfl) hce hsl ?_
  refine k_R_copy hM1 h.1 (fun I2 L2 hM2 hl2 => ?_)
  have hC2 := hC1.lw hl2
  refine r_ic_eq f_L_law_1099 (fun h1099 => ?_) (fun h1099 => absurd rfl h1099)
  exact hn _ I2 L2 (wx_copy h) hC2 hM2
theorem law_worths (hL : G.2.2.2.2.2.2 ≤ 384) (hj : j + 6 ≤ G.2.2.2.2.2.2) (h : WFx σ) (hC : RepC I L σ) (hM : RepM I L σ) (hce : ce ≤ mc) (hsl : sl ≤ ms) (hn : ∀ σ' I' L', WFx σ' → RepC I' L' σ' → RepM I' L' σ' → WW G (d + 62) mt_L_law 1235 [some (.ref (4 + 1000)), some (.ref 0), some (.ref 95), some (.int (nI j))] [] SH RF I' L' ce sl mc ms K) : WW G (d + 62) mt_L_law 1104 [some (.ref (4 + 1000)), some (.ref 0), some (.ref 95), some (.int (nI j))] [] SH RF I L ce sl mc ms K := by
  refine r_ald1 f_L_law_1104 ?_
  refine r_ald0 f_L_law_1105 ?_
  refine r_ild3 f_L_law_1106 ?_
  refine r_ic f_L_law_1107 ?_
  refine r_iadd f_L_law_1108 ?_
  rw [show nI j + 1 = nI (j + 1) from nI_add j 1]
  refine r_ialdx f_L_law_1109 (q_ix.nI (show j + 1 < G.2.2.2.2.2.2 by omega) (by omega)) ?_
  refine c_N_worths f_L_law_1110 (s_0) (Nat.le_of_ble_eq_true rfl) hce hsl ?_
  refine k_N_worths hC h.1 (fun I1 L1 hC1 hi1 => ?_)
  have hM1 := hM.hi h.1 hi1
  refine r_ald2 f_L_law_1113 ?_
  refine r_ald0 f_L_law_1114 ?_
  refine r_ild3 f_L_law_1115 ?_
  refine r_ic f_L_law_1116 ?_
  refine r_iadd f_L_law_1117 ?_
  rw [show nI j + 1 = nI (j + 1) from nI_add j 1]
  refine r_ialdx f_L_law_1118 (q_ix.nI (show j + 1 < G.2.2.2.2.2.2 by omega) (by omega)) ?_
  refine c_R_worths f_L_law_1119 (s_95) (Nat.le_of_ble_eq_true rfl) hce hsl ?_
  refine k_R_worths hM1 h.1 (fun I2 L2 hM2 hl2 => ?_)
  have hC2 := hC1.lw hl2
  refine r_ic_eq f_L_law_1122 (fun h1122 => ?_) (fun h1122 => absurd rfl h1122)
  exact hn _ I2 L2 (wx_worths h) hC2 hM2
theorem law_read (hL : G.2.2.2.2.2.2 ≤ 384) (hj : j + 6 ≤ G.2.2.2.2.2.2) (h : WFx σ) (hC : RepC I L σ) (hM : RepM I L σ) (hce : ce ≤ mc) (hsl : sl ≤ ms) (hn : ∀ σ' I' L', WFx σ' → RepC I' L' σ' → RepM I' L' σ' → WW G (d + 62) mt_L_law 1235 [some (.ref (4 + 1000)), some (.ref 0), some (.ref 95), some (.int (nI j))] [] SH RF I' L' ce sl mc ms K) : WW G (d + 62) mt_L_law 1127 [some (.ref (4 + 1000)), some (.ref 0), some (.ref 95), some (.int (nI j))] [] SH RF I L ce sl mc ms K := by
  refine r_ald1 f_L_law_1127 ?_
  refine r_ald0 f_L_law_1128 ?_
  refine r_ild3 f_L_law_1129 ?_
  refine r_ic f_L_law_1130 ?_
  refine r_iadd f_L_law_1131 ?_
  rw [show nI j + 1 = nI (j + 1) from nI_add j 1]
  refine r_ialdx f_L_law_1132 (q_ix.nI (show j + 1 < G.2.2.2.2.2.2 by omega) (by omega)) ?_
  refine c_N_read f_L_law_1133 (s_0) (Nat.le_of_ble_eq_true rfl) hce hsl ?_
  refine k_N_read hC h.1 (fun I1 L1 hC1 hi1 => ?_)
  have hM1 := hM.hi h.1 hi1
  refine r_ald2 f_L_law_1136 ?_
  refine r_ald0 f_L_law_1137 ?_
  refine r_ild3 f_L_law_1138 ?_
  refine r_ic f_L_law_1139 ?_
  refine r_iadd f_L_law_1140 ?_
  rw [show nI j + 1 = nI (j + 1) from nI_add j 1]
  refine r_ialdx f_L_law_1141 (q_ix.nI (show j + 1 < G.2.2.2.2.2.2 by omega) (by omega)) ?_
  refine c_R_read f_L_law_1142 (s_95) (Nat.le_of_ble_eq_true rfl) hce hsl ?_
  refine k_R_read hM1 h.1 (fun I2 L2 hM2 hl2 => ?_)
  have hC2 := hC1.lw hl2
  refine r_ic_eq f_L_law_1145 (fun h1145 => ?_) (fun h1145 => absurd rfl h1145)
  exact hn _ I2 L2 (wx_read h) hC2 hM2
theorem law_image (hL : G.2.2.2.2.2.2 ≤ 384) (hj : j + 6 ≤ G.2.2.2.2.2.2) (h : WFx σ) (hC : RepC I L σ) (hM : RepM I L σ) (hce : ce ≤ mc) (hsl : sl ≤ ms) (hn : ∀ σ' I' L', WFx σ' → RepC I' L' σ' → RepM I' L' σ' → WW G (d + 62) mt_L_law 1235 [some (.ref (4 + 1000)), some (.ref 0), some (.ref 95), some (.int (nI j))] [] SH RF I' L' ce sl mc ms K) : WW G (d + 62) mt_L_law 1150 [some (.ref (4 + 1000)), some (.ref 0), some (.ref 95), some (.int (nI j))] [] SH RF I L ce sl mc ms K := by
  refine r_ald1 f_L_law_1150 ?_
  refine c_N_image f_L_law_1151 (s_0) (Nat.le_of_ble_eq_true rfl) hce hsl ?_
  refine k_N_image hC h.1 (fun I1 L1 hC1 hi1 => ?_)
  have hM1 := hM.hi h.1 hi1
  refine r_ald2 f_L_law_1154 ?_
  refine c_R_image f_L_law_1155 (s_95) (Nat.le_of_ble_eq_true rfl) hce hsl ?_
  refine k_R_image hM1 h.1 (fun I2 L2 hM2 hl2 => ?_)
  have hC2 := hC1.lw hl2
  refine r_ic_eq f_L_law_1158 (fun h1158 => ?_) (fun h1158 => absurd rfl h1158)
  exact hn _ I2 L2 (wx_image h) hC2 hM2
theorem law_undo (hL : G.2.2.2.2.2.2 ≤ 384) (hj : j + 6 ≤ G.2.2.2.2.2.2) (h : WFx σ) (hC : RepC I L σ) (hM : RepM I L σ) (hce : ce ≤ mc) (hsl : sl ≤ ms) (hn : ∀ σ' I' L', WFx σ' → RepC I' L' σ' → RepM I' L' σ' → WW G (d + 62) mt_L_law 1235 [some (.ref (4 + 1000)), some (.ref 0), some (.ref 95), some (.int (nI j))] [] SH RF I' L' ce sl mc ms K) : WW G (d + 62) mt_L_law 1163 [some (.ref (4 + 1000)), some (.ref 0), some (.ref 95), some (.int (nI j))] [] SH RF I L ce sl mc ms K := by
  refine r_ald1 f_L_law_1163 ?_
  refine c_N_undo f_L_law_1164 (s_0) (Nat.le_of_ble_eq_true rfl) hce hsl ?_
  refine k_N_undo hC h.1 (fun I1 L1 hC1 hi1 => ?_)
  have hM1 := hM.hi h.1 hi1
  refine r_ald2 f_L_law_1167 ?_
  refine c_R_undo f_L_law_1168 (s_95) (Nat.le_of_ble_eq_true rfl) hce hsl ?_
  refine k_R_undo hM1 h.1 (fun I2 L2 hM2 hl2 => ?_)
  have hC2 := hC1.lw hl2
  refine r_ic_eq f_L_law_1171 (fun h1171 => ?_) (fun h1171 => absurd rfl h1171)
  exact hn _ I2 L2 (wx_undo h) hC2 hM2
theorem law_tear (hL : G.2.2.2.2.2.2 ≤ 384) (hj : j + 6 ≤ G.2.2.2.2.2.2) (h : WFx σ) (hC : RepC I L σ) (hM : RepM I L σ) (hce : ce ≤ mc) (hsl : sl ≤ ms) (hn : ∀ σ' I' L', WFx σ' → RepC I' L' σ' → RepM I' L' σ' → WW G (d + 62) mt_L_law 1235 [some (.ref (4 + 1000)), some (.ref 0), some (.ref 95), some (.int (nI j))] [] SH RF I' L' ce sl mc ms K) : WW G (d + 62) mt_L_law 1176 [some (.ref (4 + 1000)), some (.ref 0), some (.ref 95), some (.int (nI j))] [] SH RF I L ce sl mc ms K := by
  refine r_ald1 f_L_law_1176 ?_
  refine c_N_tear f_L_law_1177 (s_0) (Nat.le_of_ble_eq_true rfl) hce hsl ?_
  refine k_N_tear hC h.1 (fun I1 L1 hC1 hi1 => ?_)
  have hM1 := hM.hi h.1 hi1
  refine r_ald2 f_L_law_1180 ?_
  refine c_R_tear f_L_law_1181 (s_95) (Nat.le_of_ble_eq_true rfl) hce hsl ?_
  refine k_R_tear hM1 h.1 (fun I2 L2 hM2 hl2 => ?_)
  have hC2 := hC1.lw hl2
  refine r_ic_eq f_L_law_1184 (fun h1184 => ?_) (fun h1184 => absurd rfl h1184)
  exact hn _ I2 L2 (wx_tear h) hC2 hM2
theorem law_count (hL : G.2.2.2.2.2.2 ≤ 384) (hj : j + 6 ≤ G.2.2.2.2.2.2) (h : WFx σ) (hC : RepC I L σ) (hM : RepM I L σ) (hce : ce ≤ mc) (hsl : sl ≤ ms) (hn : ∀ σ' I' L', WFx σ' → RepC I' L' σ' → RepM I' L' σ' → WW G (d + 62) mt_L_law 1235 [some (.ref (4 + 1000)), some (.ref 0), some (.ref 95), some (.int (nI j))] [] SH RF I' L' ce sl mc ms K) : WW G (d + 62) mt_L_law 1189 [some (.ref (4 + 1000)), some (.ref 0), some (.ref 95), some (.int (nI j))] [] SH RF I L ce sl mc ms K := by
  refine r_ald1 f_L_law_1189 ?_
  refine r_ald0 f_L_law_1190 ?_
  refine r_ild3 f_L_law_1191 ?_
  refine r_ic f_L_law_1192 ?_
  refine r_iadd f_L_law_1193 ?_
  rw [show nI j + 1 = nI (j + 1) from nI_add j 1]
  refine r_ialdx f_L_law_1194 (q_ix.nI (show j + 1 < G.2.2.2.2.2.2 by omega) (by omega)) ?_
  refine c_N_count f_L_law_1195 (s_0) (Nat.le_of_ble_eq_true rfl) hce hsl ?_
  refine k_N_count hC h.1 (fun I1 L1 hC1 hi1 => ?_)
  have hM1 := hM.hi h.1 hi1
  refine r_ald2 f_L_law_1198 ?_
  refine r_ald0 f_L_law_1199 ?_
  refine r_ild3 f_L_law_1200 ?_
  refine r_ic f_L_law_1201 ?_
  refine r_iadd f_L_law_1202 ?_
  rw [show nI j + 1 = nI (j + 1) from nI_add j 1]
  refine r_ialdx f_L_law_1203 (q_ix.nI (show j + 1 < G.2.2.2.2.2.2 by omega) (by omega)) ?_
  refine c_R_count f_L_law_1204 (s_95) (Nat.le_of_ble_eq_true rfl) hce hsl ?_
  refine k_R_count hM1 h.1 (fun I2 L2 hM2 hl2 => ?_)
  have hC2 := hC1.lw hl2
  refine r_ic_eq f_L_law_1207 (fun h1207 => ?_) (fun h1207 => absurd rfl h1207)
  exact hn _ I2 L2 (wx_count h) hC2 hM2
theorem law_status (hL : G.2.2.2.2.2.2 ≤ 384) (hj : j + 6 ≤ G.2.2.2.2.2.2) (h : WFx σ) (hC : RepC I L σ) (hM : RepM I L σ) (hce : ce ≤ mc) (hsl : sl ≤ ms) (hn : ∀ σ' I' L', WFx σ' → RepC I' L' σ' → RepM I' L' σ' → WW G (d + 62) mt_L_law 1235 [some (.ref (4 + 1000)), some (.ref 0), some (.ref 95), some (.int (nI j))] [] SH RF I' L' ce sl mc ms K) : WW G (d + 62) mt_L_law 1212 [some (.ref (4 + 1000)), some (.ref 0), some (.ref 95), some (.int (nI j))] [] SH RF I L ce sl mc ms K := by
  refine r_ald1 f_L_law_1212 ?_
  refine r_ald0 f_L_law_1213 ?_
  refine r_ild3 f_L_law_1214 ?_
  refine r_ic f_L_law_1215 ?_
  refine r_iadd f_L_law_1216 ?_
  rw [show nI j + 1 = nI (j + 1) from nI_add j 1]
  refine r_ialdx f_L_law_1217 (q_ix.nI (show j + 1 < G.2.2.2.2.2.2 by omega) (by omega)) ?_
  refine c_N_status f_L_law_1218 (s_0) (Nat.le_of_ble_eq_true rfl) hce hsl ?_
  refine k_N_status hC h.1 (fun I1 L1 hC1 hi1 => ?_)
  have hM1 := hM.hi h.1 hi1
  refine r_ald2 f_L_law_1221 ?_
  refine r_ald0 f_L_law_1222 ?_
  refine r_ild3 f_L_law_1223 ?_
  refine r_ic f_L_law_1224 ?_
  refine r_iadd f_L_law_1225 ?_
  rw [show nI j + 1 = nI (j + 1) from nI_add j 1]
  refine r_ialdx f_L_law_1226 (q_ix.nI (show j + 1 < G.2.2.2.2.2.2 by omega) (by omega)) ?_
  refine c_R_status f_L_law_1227 (s_95) (Nat.le_of_ble_eq_true rfl) hce hsl ?_
  refine k_R_status hM1 h.1 (fun I2 L2 hM2 hl2 => ?_)
  have hC2 := hC1.lw hl2
  refine r_ic_eq f_L_law_1230 (fun h1230 => ?_) (fun h1230 => absurd rfl h1230)
  exact hn _ I2 L2 (wx_status h) hC2 hM2
theorem law_body (hL : G.2.2.2.2.2.2 ≤ 384) (hj : j + 6 ≤ G.2.2.2.2.2.2) (h : WFx σ) (hC : RepC I L σ) (hM : RepM I L σ) (hce : ce ≤ mc) (hsl : sl ≤ ms) (hn : ∀ σ' I' L', WFx σ' → RepC I' L' σ' → RepM I' L' σ' → WW G (d + 62) mt_L_law 1235 [some (.ref (4 + 1000)), some (.ref 0), some (.ref 95), some (.int (nI j))] [] SH RF I' L' ce sl mc ms K) : WW G (d + 62) mt_L_law 27 [some (.ref (4 + 1000)), some (.ref 0), some (.ref 95), some (.int (nI j))] [] SH RF I L ce sl mc ms K := by
  refine r_ald0 f_L_law_27 ?_
  refine r_ild3 f_L_law_28 ?_
  refine r_ialdx f_L_law_29 (q_ix.nI (show j < G.2.2.2.2.2.2 by omega) (by omega)) ?_
  refine r_ic f_L_law_30 ?_
  refine r_iand f_L_law_32 ?_
  refine r_sw f_L_law_33 ?_
  refine r_swc (k := 0) (by decide) (fun e33_0 => ?_) (fun e33_0 => ?_)
  · exact law_farm hL hj h hC hM hce hsl hn
  refine r_swc (k := 1) (by decide) (fun e33_1 => ?_) (fun e33_1 => ?_)
  · exact law_set hL hj h hC hM hce hsl hn
  refine r_swc (k := 2) (by decide) (fun e33_2 => ?_) (fun e33_2 => ?_)
  · exact law_of hL hj h hC hM hce hsl hn
  refine r_swc (k := 3) (by decide) (fun e33_3 => ?_) (fun e33_3 => ?_)
  · exact law_as hL hj h hC hM hce hsl hn
  refine r_swc (k := 4) (by decide) (fun e33_4 => ?_) (fun e33_4 => ?_)
  · exact law_rule hL hj h hC hM hce hsl hn
  refine r_swc (k := 5) (by decide) (fun e33_5 => ?_) (fun e33_5 => ?_)
  · exact law_dry hL hj h hC hM hce hsl hn
  refine r_swc (k := 6) (by decide) (fun e33_6 => ?_) (fun e33_6 => ?_)
  · exact law_year hL hj h hC hM hce hsl hn
  refine r_swc (k := 7) (by decide) (fun e33_7 => ?_) (fun e33_7 => ?_)
  · exact law_turn hL hj h hC hM hce hsl hn
  refine r_swc (k := 8) (by decide) (fun e33_8 => ?_) (fun e33_8 => ?_)
  · exact law_swap hL hj h hC hM hce hsl hn
  refine r_swc (k := 9) (by decide) (fun e33_9 => ?_) (fun e33_9 => ?_)
  · exact law_turns hL hj h hC hM hce hsl hn
  refine r_swc (k := 10) (by decide) (fun e33_10 => ?_) (fun e33_10 => ?_)
  · exact law_told hL hj h hC hM hce hsl hn
  refine r_swc (k := 11) (by decide) (fun e33_11 => ?_) (fun e33_11 => ?_)
  · exact law_best hL hj h hC hM hce hsl hn
  refine r_swc (k := 12) (by decide) (fun e33_12 => ?_) (fun e33_12 => ?_)
  · exact law_share hL hj h hC hM hce hsl hn
  refine r_swc (k := 13) (by decide) (fun e33_13 => ?_) (fun e33_13 => ?_)
  · exact law_rest hL hj h hC hM hce hsl hn
  refine r_swc (k := 14) (by decide) (fun e33_14 => ?_) (fun e33_14 => ?_)
  · exact law_lost hL hj h hC hM hce hsl hn
  refine r_swc (k := 15) (by decide) (fun e33_15 => ?_) (fun e33_15 => ?_)
  · exact law_least hL hj h hC hM hce hsl hn
  refine r_swc (k := 16) (by decide) (fun e33_16 => ?_) (fun e33_16 => ?_)
  · exact law_hire hL hj h hC hM hce hsl hn
  refine r_swc (k := 17) (by decide) (fun e33_17 => ?_) (fun e33_17 => ?_)
  · exact law_breaks hL hj h hC hM hce hsl hn
  refine r_swc (k := 18) (by decide) (fun e33_18 => ?_) (fun e33_18 => ?_)
  · exact law_blame hL hj h hC hM hce hsl hn
  refine r_swc (k := 19) (by decide) (fun e33_19 => ?_) (fun e33_19 => ?_)
  · exact law_always hL hj h hC hM hce hsl hn
  refine r_swc (k := 20) (by decide) (fun e33_20 => ?_) (fun e33_20 => ?_)
  · exact law_feed hL hj h hC hM hce hsl hn
  refine r_swc (k := 21) (by decide) (fun e33_21 => ?_) (fun e33_21 => ?_)
  · exact law_wipe hL hj h hC hM hce hsl hn
  refine r_swc (k := 22) (by decide) (fun e33_22 => ?_) (fun e33_22 => ?_)
  · exact law_text hL hj h hC hM hce hsl hn
  refine r_swc (k := 23) (by decide) (fun e33_23 => ?_) (fun e33_23 => ?_)
  · exact law_plain hL hj h hC hM hce hsl hn
  refine r_swc (k := 24) (by decide) (fun e33_24 => ?_) (fun e33_24 => ?_)
  · exact law_gives hL hj h hC hM hce hsl hn
  refine r_swc (k := 25) (by decide) (fun e33_25 => ?_) (fun e33_25 => ?_)
  · exact law_seed hL hj h hC hM hce hsl hn
  refine r_swc (k := 26) (by decide) (fun e33_26 => ?_) (fun e33_26 => ?_)
  · exact law_nights hL hj h hC hM hce hsl hn
  refine r_swc (k := 27) (by decide) (fun e33_27 => ?_) (fun e33_27 => ?_)
  · exact law_ahead hL hj h hC hM hce hsl hn
  refine r_swc (k := 28) (by decide) (fun e33_28 => ?_) (fun e33_28 => ?_)
  · exact law_purse hL hj h hC hM hce hsl hn
  refine r_swc (k := 29) (by decide) (fun e33_29 => ?_) (fun e33_29 => ?_)
  · exact law_sheet hL hj h hC hM hce hsl hn
  refine r_swc (k := 30) (by decide) (fun e33_30 => ?_) (fun e33_30 => ?_)
  · exact law_write hL hj h hC hM hce hsl hn
  refine r_swc (k := 31) (by decide) (fun e33_31 => ?_) (fun e33_31 => ?_)
  · exact law_copy hL hj h hC hM hce hsl hn
  refine r_swc (k := 32) (by decide) (fun e33_32 => ?_) (fun e33_32 => ?_)
  · exact law_worths hL hj h hC hM hce hsl hn
  refine r_swc (k := 33) (by decide) (fun e33_33 => ?_) (fun e33_33 => ?_)
  · exact law_read hL hj h hC hM hce hsl hn
  refine r_swc (k := 34) (by decide) (fun e33_34 => ?_) (fun e33_34 => ?_)
  · exact law_image hL hj h hC hM hce hsl hn
  refine r_swc (k := 35) (by decide) (fun e33_35 => ?_) (fun e33_35 => ?_)
  · exact law_undo hL hj h hC hM hce hsl hn
  refine r_swc (k := 36) (by decide) (fun e33_36 => ?_) (fun e33_36 => ?_)
  · exact law_tear hL hj h hC hM hce hsl hn
  refine r_swc (k := 37) (by decide) (fun e33_37 => ?_) (fun e33_37 => ?_)
  · exact law_count hL hj h hC hM hce hsl hn
  refine r_swc (k := 38) (by decide) (fun e33_38 => ?_) (fun e33_38 => ?_)
  · exact law_status hL hj h hC hM hce hsl hn
  refine r_swn ?_
  exact hn σ I L h hC hM
theorem q_le6 {a b : Nat} (ha : a ≤ 1000) (hb : b ≤ 1000) : nI a - 6 < nI b ↔ a < b + 6 := by
  rw [Int32.lt_iff_toInt_lt, show (6 : Int32) = nI 6 from rfl, pk_sub_toInt (by omega) (by omega), nI_toInt (by omega)]
  omega
theorem law_loop (hL : G.2.2.2.2.2.2 ≤ 384) (hce : ce ≤ mc) (hsl : sl ≤ ms) (hk : ∀ I' L', K (some (.int 1)) SH RF I' L') : ∀ (m j : Nat) (σ : St) (I : Rn) (L : Rl), G.2.2.2.2.2.2 < j + m → j ≤ 400 → WFx σ → RepC I L σ → RepM I L σ → WW G (d + 62) mt_L_law 18 [some (.ref (4 + 1000)), some (.ref 0), some (.ref 95), some (.int (nI j))] [] SH RF I L ce sl mc ms K
  | 0, j, σ, I, L, hm, hj4, h, hC, hM => by
    have hq : nI G.2.2.2.2.2.2 - 6 < nI j := (q_le6 (by omega) (by omega)).mpr (by omega)
    refine r_ild3 f_L_law_18 ?_
    refine r_ald0 f_L_law_19 ?_
    refine r_alenx f_L_law_20 ?_
    refine r_ic f_L_law_21 ?_
    rw [show Int32.ofNat G.2.2.2.2.2.2 = nI G.2.2.2.2.2.2 from rfl]
    refine r_isub f_L_law_23 ?_
    refine r_ic_gt f_L_law_24 (fun h24 => ?_) (fun h24 => absurd hq h24)
    refine r_ic f_L_law_1241 ?_
    refine r_iret f_L_law_1242 ⟨_, rfl, rfl⟩ hce hsl ?_
    exact hk I L
  | m + 1, j, σ, I, L, hm, hj4, h, hC, hM => by
    by_cases q : G.2.2.2.2.2.2 < j + 6
    · have hq : nI G.2.2.2.2.2.2 - 6 < nI j := (q_le6 (by omega) (by omega)).mpr q
      refine r_ild3 f_L_law_18 ?_
      refine r_ald0 f_L_law_19 ?_
      refine r_alenx f_L_law_20 ?_
      refine r_ic f_L_law_21 ?_
      rw [show Int32.ofNat G.2.2.2.2.2.2 = nI G.2.2.2.2.2.2 from rfl]
      refine r_isub f_L_law_23 ?_
      refine r_ic_gt f_L_law_24 (fun h24 => ?_) (fun h24 => absurd hq h24)
      refine r_ic f_L_law_1241 ?_
      refine r_iret f_L_law_1242 ⟨_, rfl, rfl⟩ hce hsl ?_
      exact hk I L
    · have hq : ¬ nI G.2.2.2.2.2.2 - 6 < nI j := fun w => q ((q_le6 (by omega) (by omega)).mp w)
      have hn : ∀ σ' I' L', WFx σ' → RepC I' L' σ' → RepM I' L' σ' → WW G (d + 62) mt_L_law 1235 [some (.ref (4 + 1000)), some (.ref 0), some (.ref 95), some (.int (nI j))] [] SH RF I' L' ce sl mc ms K := fun σ' I' L' h' hC' hM' => by
        refine r_inc3 f_L_law_1235 rfl ?_
        rw [show nI j + 6 = nI (j + 6) from nI_add j 6]
        refine r_goto f_L_law_1238 ?_
        exact law_loop hL hce hsl hk m (j + 6) σ' I' L' (by omega) (by omega) h' hC' hM'
      refine r_ild3 f_L_law_18 ?_
      refine r_ald0 f_L_law_19 ?_
      refine r_alenx f_L_law_20 ?_
      refine r_ic f_L_law_21 ?_
      rw [show Int32.ofNat G.2.2.2.2.2.2 = nI G.2.2.2.2.2.2 from rfl]
      refine r_isub f_L_law_23 ?_
      refine r_ic_gt f_L_law_24 (fun h24 => absurd h24 hq) (fun h24 => ?_)
      exact law_body hL (by omega) h hC hM hce hsl hn
end L66
